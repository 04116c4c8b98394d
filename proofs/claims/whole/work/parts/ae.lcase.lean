/-! ===== the law's cases: each from its place to the loop's end ===== -/
section GCASE
variable {p : Program} {l : Launch} {e : Env} {R : Room} {s : State} {m : MethodId} {args : Array Value} {below : List Frame} {meth : Method} {c : Code} {Z : State → Prop}
variable {G : gG} {A : Nat → Prop} {cc : ByteArray} {nL : Nat} {ret : Option FieldType} {own : String} {h : gH} {k n pc : Nat} {lv : List (Nat × Value)} {st : List Value}
def bz (x : Int32) : Int32 := if x = 0 then 0 else 1
theorem V_bool {x : Int32} {off off2 : Int} {t1 t2 : Nat} (X : gC p l s m args meth c G A cc nL ret own) (d0 : decode cc pc = .ok (.ifCond .eq off, 3)) (d1 : decode cc (pc + 3) = .ok (.iconst 1, 1)) (d2 : decode cc (pc + 3 + 1) = .ok (.goto off2, 3)) (d3 : decode cc t1 = .ok (.iconst 0, 1)) (h1 : (pc : Int) + off = (t1 : Int)) (h2 : ((pc + 3 + 1 : Nat) : Int) + off2 = (t2 : Int)) (h3 : t1 + 1 = t2) (kk : V p l e R s m args below meth c Z G A nL h k n t2 lv (.int (bz x) :: st)) : V p l e R s m args below meth c Z G A nL h k n pc lv (.int x :: st) := by
  refine V_if_eq X d0 h1 (fun z => ?_) (fun z => ?_)
  · refine V_iconst (y := 0) X d3 (by decide) ?_
    rw [h3]
    rw [show bz x = 0 from if_pos z] at kk
    exact kk
  · refine V_iconst (y := 1) X d1 (by decide) ?_
    refine V_goto X d2 h2 ?_
    rw [show bz x = 1 from if_neg z] at kk
    exact kk
end GCASE
def vLc0 (t0 : Nat) (Kc : gH → Prop) (h : gH) (x mm o : Nat) (p1 : Int32) : Prop := vL_addParameter t0 (fun rk h1 => io h1 mm 15 (vX12_addParameter (fun rb h2 => io h2 mm 15 (vX12_thrown (fun rc h3 => rc = rk ∧ ((rk = 0 → ll h3 o 0 (fun y9 => y9 = Int32.toInt64 rb)) ∧ Kc h3)) h2 mm)) h1 mm p1)) h x p1 o
set_option maxRecDepth 100000 in
set_option maxHeartbeats 4000000 in
theorem tLc0 {p : Program} {l : Launch} {e : Env} {R : Room} {s : State} {m : MethodId} {args : Array Value} {below : List Frame} {meth : Method} {c : Code} {Z : State → Prop} {G : gG} {A : Nat → Prop} {h : gH} {k n b L x mm o : Nat} {xs : Nat → Int32} {v4 : Int32} {Kc : gH → Prop} (X : gC p l s m args meth c G A cL_law 8 (some .boolean) RL) (hNc : gNc s) (hX : va_X b L xs s s.heap) (hbl : b < s.heap.size) (hbA : ¬ A b) (hRf : 64 ≤ R.frames) (hRl : 2000 ≤ R.locals) (hk : k + 300 ≤ R.cells) (hn : n + 5000 ≤ R.slots) {p1 : Int32} (hi1 : vp_in (v4 + 1) L) (hp1 : xs (Int32.toNatClampNeg (v4 + 1)) = p1) (w : vLc0 G.2.2.1 Kc h x mm o p1) (kk : ∀ h' : gH, Kc h' → V p l e R s m args below meth c Z G A 8 h' (k + 300) (n + 5000) 2388 [(0, .ref b), (1, .ref x), (2, .ref mm), (3, .ref o), (4, .int v4)] []) : V p l e R s m args below meth c Z G A 8 h k n 216 [(0, .ref b), (1, .ref x), (2, .ref mm), (3, .ref o), (4, .int v4)] [] := by
  refine V_aloadr_n X dL_law_216 1 rfl ?_
  refine V_aloadr_n X dL_law_217 0 rfl ?_
  refine V_iload X dL_law_218 4 rfl ?_
  refine V_iconst (y := 1) X dL_law_220 (by decide) ?_
  refine V_iadd X dL_law_221 ?_
  refine V_sld (L := L) (xs := xs) X hX hbl hbA hi1 dL_law_222 ?_
  rw [hp1]
  refine V_aloadr_n X dL_law_223 3 rfl ?_
  refine V_callSW (As := [.ref x, .int p1, .ref o]) (rest := []) (k1 := k + 1) (n1 := n + 6) X hNc (cL_addParameter_ok X.2.2.2.2.2.2.2.2.1 w) lwL_123 dL_law_224 ⟨by show 7 + 1 ≤ R.frames; omega, by show 8 + (4 + 11) + 111 ≤ R.locals; omega⟩ rfl (Nat.le_of_ble_eq_true rfl) ⟨by show k + 1 ≤ R.cells; omega, by show n + 6 ≤ R.slots; omega⟩ (Nat.le_refl _) (Nat.le_refl _) (fun rk h1 w => ?_)
  refine V_istore X dL_law_227 (by decide) rfl ?_
  refine V_aloadr_n X dL_law_229 3 rfl ?_
  refine V_aloadr_n X dL_law_230 1 rfl ?_
  refine V_iload X dL_law_231 5 rfl ?_
  refine V_iconst (y := 1) X dL_law_233 (by decide) ?_
  refine V_iadd X dL_law_234 ?_
  refine V_sld (L := L) (xs := xs) X hX hbl hbA hi1 dL_law_235 ?_
  rw [hp1]
  obtain ⟨fs, hh, w⟩ := w
  refine V_callVi (As := [.int p1]) (rest := []) (k1 := k + 1 + 0) (n1 := n + 6 + 0) X (cX12_addParameter_ok X.2.2.2.2.2.2.2.2.1 w) lkL_128 hh (q9 := (RX12, TX12, 42)) rfl rfl dL_law_236 ⟨by show 1 + 1 ≤ R.frames; omega, by show 8 + (2 + 11) + 25 ≤ R.locals; omega⟩ rfl (Nat.le_of_ble_eq_true rfl) ⟨by show k + 1 + 0 ≤ R.cells; omega, by show n + 6 + 0 ≤ R.slots; omega⟩ (Nat.le_refl _) (Nat.le_refl _) (fun rb h2 w => ?_)
  refine V_istore X dL_law_239 (by decide) rfl ?_
  refine V_aloadr_n X dL_law_241 4 rfl ?_
  obtain ⟨fs, hh, w⟩ := w
  refine V_callVi (As := []) (rest := []) (k1 := k + 1 + 0 + 0) (n1 := n + 6 + 0 + 0) X (cX12_thrown_ok X.2.2.2.2.2.2.2.2.1 w) lkL_129 hh (q9 := (RX12, TX12, 42)) rfl rfl dL_law_242 ⟨by show 0 + 1 ≤ R.frames; omega, by show 8 + (1 + 11) + 0 ≤ R.locals; omega⟩ rfl (Nat.le_of_ble_eq_true rfl) ⟨by show k + 1 + 0 + 0 ≤ R.cells; omega, by show n + 6 + 0 + 0 ≤ R.slots; omega⟩ (Nat.le_refl _) (Nat.le_refl _) (fun rc h3 w => ?_)
  refine V_iload X dL_law_245 1 rfl ?_
  refine V_icmp_eq (tgt := 252) X dL_law_247 (by decide) (fun z => ?_) (fun z => absurd w.1 z)
  replace w := w.2
  refine V_iload X dL_law_252 1 rfl ?_
  have fin : V p l e R s m args below meth c Z G A 8 h3 (k + 1 + 0 + 0) (n + 6 + 0 + 0) 269 [(6, .int rb), (5, .int rk), (0, .ref b), (1, .ref x), (2, .ref mm), (3, .ref o), (4, .int v4)] [] := by
    refine V_goto (tgt := 2388) X dL_law_269 (by decide) ?_
    refine V.widen (k1 := k + 300) (n1 := n + 5000) (by omega) (by omega) ?_
    exact V.sub [2, 3, 4, 5, 6] rfl (kk _ w.2)
  refine V_if_ne (tgt := 269) X dL_law_254 (by decide) (fun z => fin) (fun z => ?_)
  refine V_aloadr_n X dL_law_257 5 rfl ?_
  refine V_iconst (y := 0) X dL_law_258 (by decide) ?_
  obtain ⟨N9, g9, hh9, hi9, w9⟩ := w.1 z
  refine V_lald X dL_law_259 hh9 hi9 ?_
  refine V_iload X dL_law_260 0 rfl ?_
  refine V_i2l X dL_law_262 ?_
  refine V_lcmp X dL_law_263 ?_
  exact V_if_eq (tgt := 269) X dL_law_264 (by decide) (fun z => fin) (fun z => absurd ((lg_cmp_eq _ _).mpr w9) z)
def vLc1 (t0 : Nat) (Kc : gH → Prop) (h : gH) (x mm o : Nat) (p1 : Int32) (p2 : Int32) : Prop := vL_set t0 (fun rk h1 => io h1 mm 15 (vX12_set (fun rb h2 => io h2 mm 15 (vX12_thrown (fun rc h3 => rc = rk ∧ ((rk = 0 → ll h3 o 0 (fun y9 => y9 = Int32.toInt64 rb)) ∧ Kc h3)) h2 mm)) h1 mm p1 p2)) h x p1 p2 o
set_option maxRecDepth 100000 in
set_option maxHeartbeats 4000000 in
theorem tLc1 {p : Program} {l : Launch} {e : Env} {R : Room} {s : State} {m : MethodId} {args : Array Value} {below : List Frame} {meth : Method} {c : Code} {Z : State → Prop} {G : gG} {A : Nat → Prop} {h : gH} {k n b L x mm o : Nat} {xs : Nat → Int32} {v4 : Int32} {Kc : gH → Prop} (X : gC p l s m args meth c G A cL_law 8 (some .boolean) RL) (hNc : gNc s) (hX : va_X b L xs s s.heap) (hbl : b < s.heap.size) (hbA : ¬ A b) (hRf : 64 ≤ R.frames) (hRl : 2000 ≤ R.locals) (hk : k + 300 ≤ R.cells) (hn : n + 5000 ≤ R.slots) {p1 : Int32} (hi1 : vp_in (v4 + 1) L) (hp1 : xs (Int32.toNatClampNeg (v4 + 1)) = p1) {p2 : Int32} (hi2 : vp_in (v4 + 2) L) (hp2 : xs (Int32.toNatClampNeg (v4 + 2)) = p2) (w : vLc1 G.2.2.1 Kc h x mm o p1 p2) (kk : ∀ h' : gH, Kc h' → V p l e R s m args below meth c Z G A 8 h' (k + 300) (n + 5000) 2388 [(0, .ref b), (1, .ref x), (2, .ref mm), (3, .ref o), (4, .int v4)] []) : V p l e R s m args below meth c Z G A 8 h k n 272 [(0, .ref b), (1, .ref x), (2, .ref mm), (3, .ref o), (4, .int v4)] [] := by
  refine V_aloadr_n X dL_law_272 1 rfl ?_
  refine V_aloadr_n X dL_law_273 0 rfl ?_
  refine V_iload X dL_law_274 4 rfl ?_
  refine V_iconst (y := 1) X dL_law_276 (by decide) ?_
  refine V_iadd X dL_law_277 ?_
  refine V_sld (L := L) (xs := xs) X hX hbl hbA hi1 dL_law_278 ?_
  rw [hp1]
  refine V_aloadr_n X dL_law_279 0 rfl ?_
  refine V_iload X dL_law_280 4 rfl ?_
  refine V_iconst (y := 2) X dL_law_282 (by decide) ?_
  refine V_iadd X dL_law_283 ?_
  refine V_sld (L := L) (xs := xs) X hX hbl hbA hi2 dL_law_284 ?_
  rw [hp2]
  refine V_aloadr_n X dL_law_285 3 rfl ?_
  refine V_callSW (As := [.ref x, .int p1, .int p2, .ref o]) (rest := []) (k1 := k + 2) (n1 := n + 12) X hNc (cL_set_ok X.2.2.2.2.2.2.2.2.1 w) lwL_132 dL_law_286 ⟨by show 8 + 1 ≤ R.frames; omega, by show 8 + (5 + 11) + 134 ≤ R.locals; omega⟩ rfl (Nat.le_of_ble_eq_true rfl) ⟨by show k + 2 ≤ R.cells; omega, by show n + 12 ≤ R.slots; omega⟩ (Nat.le_refl _) (Nat.le_refl _) (fun rk h1 w => ?_)
  refine V_istore X dL_law_289 (by decide) rfl ?_
  refine V_aloadr_n X dL_law_291 3 rfl ?_
  refine V_aloadr_n X dL_law_292 1 rfl ?_
  refine V_iload X dL_law_293 5 rfl ?_
  refine V_iconst (y := 1) X dL_law_295 (by decide) ?_
  refine V_iadd X dL_law_296 ?_
  refine V_sld (L := L) (xs := xs) X hX hbl hbA hi1 dL_law_297 ?_
  rw [hp1]
  refine V_aloadr_n X dL_law_298 1 rfl ?_
  refine V_iload X dL_law_299 5 rfl ?_
  refine V_iconst (y := 2) X dL_law_301 (by decide) ?_
  refine V_iadd X dL_law_302 ?_
  refine V_sld (L := L) (xs := xs) X hX hbl hbA hi2 dL_law_303 ?_
  rw [hp2]
  obtain ⟨fs, hh, w⟩ := w
  refine V_callVi (As := [.int p1, .int p2]) (rest := []) (k1 := k + 2 + 0) (n1 := n + 12 + 0) X (cX12_set_ok X.2.2.2.2.2.2.2.2.1 w) lkL_135 hh (q9 := (RX12, TX12, 42)) rfl rfl dL_law_304 ⟨by show 2 + 1 ≤ R.frames; omega, by show 8 + (5 + 11) + 46 ≤ R.locals; omega⟩ rfl (Nat.le_of_ble_eq_true rfl) ⟨by show k + 2 + 0 ≤ R.cells; omega, by show n + 12 + 0 ≤ R.slots; omega⟩ (Nat.le_refl _) (Nat.le_refl _) (fun rb h2 w => ?_)
  refine V_istore X dL_law_307 (by decide) rfl ?_
  refine V_aloadr_n X dL_law_309 4 rfl ?_
  obtain ⟨fs, hh, w⟩ := w
  refine V_callVi (As := []) (rest := []) (k1 := k + 2 + 0 + 0) (n1 := n + 12 + 0 + 0) X (cX12_thrown_ok X.2.2.2.2.2.2.2.2.1 w) lkL_129 hh (q9 := (RX12, TX12, 42)) rfl rfl dL_law_310 ⟨by show 0 + 1 ≤ R.frames; omega, by show 8 + (1 + 11) + 0 ≤ R.locals; omega⟩ rfl (Nat.le_of_ble_eq_true rfl) ⟨by show k + 2 + 0 + 0 ≤ R.cells; omega, by show n + 12 + 0 + 0 ≤ R.slots; omega⟩ (Nat.le_refl _) (Nat.le_refl _) (fun rc h3 w => ?_)
  refine V_iload X dL_law_313 1 rfl ?_
  refine V_icmp_eq (tgt := 320) X dL_law_315 (by decide) (fun z => ?_) (fun z => absurd w.1 z)
  replace w := w.2
  refine V_iload X dL_law_320 1 rfl ?_
  have fin : V p l e R s m args below meth c Z G A 8 h3 (k + 2 + 0 + 0) (n + 12 + 0 + 0) 337 [(6, .int rb), (5, .int rk), (0, .ref b), (1, .ref x), (2, .ref mm), (3, .ref o), (4, .int v4)] [] := by
    refine V_goto (tgt := 2388) X dL_law_337 (by decide) ?_
    refine V.widen (k1 := k + 300) (n1 := n + 5000) (by omega) (by omega) ?_
    exact V.sub [2, 3, 4, 5, 6] rfl (kk _ w.2)
  refine V_if_ne (tgt := 337) X dL_law_322 (by decide) (fun z => fin) (fun z => ?_)
  refine V_aloadr_n X dL_law_325 5 rfl ?_
  refine V_iconst (y := 0) X dL_law_326 (by decide) ?_
  obtain ⟨N9, g9, hh9, hi9, w9⟩ := w.1 z
  refine V_lald X dL_law_327 hh9 hi9 ?_
  refine V_iload X dL_law_328 0 rfl ?_
  refine V_i2l X dL_law_330 ?_
  refine V_lcmp X dL_law_331 ?_
  exact V_if_eq (tgt := 337) X dL_law_332 (by decide) (fun z => fin) (fun z => absurd ((lg_cmp_eq _ _).mpr w9) z)
def vLc2 (t0 : Nat) (Kc : gH → Prop) (h : gH) (x mm o : Nat) (p1 : Int32) : Prop := vL_value t0 (fun rk h1 => io h1 mm 15 (vX12_value (fun rb h2 => io h2 mm 15 (vX12_thrown (fun rc h3 => rc = rk ∧ ((rk = 0 → ll h3 o 0 (fun y9 => y9 = Int32.toInt64 rb)) ∧ Kc h3)) h2 mm)) h1 mm p1)) h x p1 o
set_option maxRecDepth 100000 in
set_option maxHeartbeats 4000000 in
theorem tLc2 {p : Program} {l : Launch} {e : Env} {R : Room} {s : State} {m : MethodId} {args : Array Value} {below : List Frame} {meth : Method} {c : Code} {Z : State → Prop} {G : gG} {A : Nat → Prop} {h : gH} {k n b L x mm o : Nat} {xs : Nat → Int32} {v4 : Int32} {Kc : gH → Prop} (X : gC p l s m args meth c G A cL_law 8 (some .boolean) RL) (hNc : gNc s) (hX : va_X b L xs s s.heap) (hbl : b < s.heap.size) (hbA : ¬ A b) (hRf : 64 ≤ R.frames) (hRl : 2000 ≤ R.locals) (hk : k + 300 ≤ R.cells) (hn : n + 5000 ≤ R.slots) {p1 : Int32} (hi1 : vp_in (v4 + 1) L) (hp1 : xs (Int32.toNatClampNeg (v4 + 1)) = p1) (w : vLc2 G.2.2.1 Kc h x mm o p1) (kk : ∀ h' : gH, Kc h' → V p l e R s m args below meth c Z G A 8 h' (k + 300) (n + 5000) 2388 [(0, .ref b), (1, .ref x), (2, .ref mm), (3, .ref o), (4, .int v4)] []) : V p l e R s m args below meth c Z G A 8 h k n 340 [(0, .ref b), (1, .ref x), (2, .ref mm), (3, .ref o), (4, .int v4)] [] := by
  refine V_aloadr_n X dL_law_340 1 rfl ?_
  refine V_aloadr_n X dL_law_341 0 rfl ?_
  refine V_iload X dL_law_342 4 rfl ?_
  refine V_iconst (y := 1) X dL_law_344 (by decide) ?_
  refine V_iadd X dL_law_345 ?_
  refine V_sld (L := L) (xs := xs) X hX hbl hbA hi1 dL_law_346 ?_
  rw [hp1]
  refine V_aloadr_n X dL_law_347 3 rfl ?_
  refine V_callSW (As := [.ref x, .int p1, .ref o]) (rest := []) (k1 := k + 1) (n1 := n + 6) X hNc (cL_value_ok X.2.2.2.2.2.2.2.2.1 w) lwL_136 dL_law_348 ⟨by show 8 + 1 ≤ R.frames; omega, by show 8 + (4 + 11) + 132 ≤ R.locals; omega⟩ rfl (Nat.le_of_ble_eq_true rfl) ⟨by show k + 1 ≤ R.cells; omega, by show n + 6 ≤ R.slots; omega⟩ (Nat.le_refl _) (Nat.le_refl _) (fun rk h1 w => ?_)
  refine V_istore X dL_law_351 (by decide) rfl ?_
  refine V_aloadr_n X dL_law_353 3 rfl ?_
  refine V_aloadr_n X dL_law_354 1 rfl ?_
  refine V_iload X dL_law_355 5 rfl ?_
  refine V_iconst (y := 1) X dL_law_357 (by decide) ?_
  refine V_iadd X dL_law_358 ?_
  refine V_sld (L := L) (xs := xs) X hX hbl hbA hi1 dL_law_359 ?_
  rw [hp1]
  obtain ⟨fs, hh, w⟩ := w
  refine V_callVi (As := [.int p1]) (rest := []) (k1 := k + 1 + 0) (n1 := n + 6 + 0) X (cX12_value_ok X.2.2.2.2.2.2.2.2.1 w) lkL_138 hh (q9 := (RX12, TX12, 42)) rfl rfl dL_law_360 ⟨by show 2 + 1 ≤ R.frames; omega, by show 8 + (2 + 11) + 46 ≤ R.locals; omega⟩ rfl (Nat.le_of_ble_eq_true rfl) ⟨by show k + 1 + 0 ≤ R.cells; omega, by show n + 6 + 0 ≤ R.slots; omega⟩ (Nat.le_refl _) (Nat.le_refl _) (fun rb h2 w => ?_)
  refine V_istore X dL_law_363 (by decide) rfl ?_
  refine V_aloadr_n X dL_law_365 4 rfl ?_
  obtain ⟨fs, hh, w⟩ := w
  refine V_callVi (As := []) (rest := []) (k1 := k + 1 + 0 + 0) (n1 := n + 6 + 0 + 0) X (cX12_thrown_ok X.2.2.2.2.2.2.2.2.1 w) lkL_129 hh (q9 := (RX12, TX12, 42)) rfl rfl dL_law_366 ⟨by show 0 + 1 ≤ R.frames; omega, by show 8 + (1 + 11) + 0 ≤ R.locals; omega⟩ rfl (Nat.le_of_ble_eq_true rfl) ⟨by show k + 1 + 0 + 0 ≤ R.cells; omega, by show n + 6 + 0 + 0 ≤ R.slots; omega⟩ (Nat.le_refl _) (Nat.le_refl _) (fun rc h3 w => ?_)
  refine V_iload X dL_law_369 1 rfl ?_
  refine V_icmp_eq (tgt := 376) X dL_law_371 (by decide) (fun z => ?_) (fun z => absurd w.1 z)
  replace w := w.2
  refine V_iload X dL_law_376 1 rfl ?_
  have fin : V p l e R s m args below meth c Z G A 8 h3 (k + 1 + 0 + 0) (n + 6 + 0 + 0) 393 [(6, .int rb), (5, .int rk), (0, .ref b), (1, .ref x), (2, .ref mm), (3, .ref o), (4, .int v4)] [] := by
    refine V_goto (tgt := 2388) X dL_law_393 (by decide) ?_
    refine V.widen (k1 := k + 300) (n1 := n + 5000) (by omega) (by omega) ?_
    exact V.sub [2, 3, 4, 5, 6] rfl (kk _ w.2)
  refine V_if_ne (tgt := 393) X dL_law_378 (by decide) (fun z => fin) (fun z => ?_)
  refine V_aloadr_n X dL_law_381 5 rfl ?_
  refine V_iconst (y := 0) X dL_law_382 (by decide) ?_
  obtain ⟨N9, g9, hh9, hi9, w9⟩ := w.1 z
  refine V_lald X dL_law_383 hh9 hi9 ?_
  refine V_iload X dL_law_384 0 rfl ?_
  refine V_i2l X dL_law_386 ?_
  refine V_lcmp X dL_law_387 ?_
  exact V_if_eq (tgt := 393) X dL_law_388 (by decide) (fun z => fin) (fun z => absurd ((lg_cmp_eq _ _).mpr w9) z)
def vLc3 (t0 : Nat) (Kc : gH → Prop) (h : gH) (x mm o : Nat) (p1 : Int32) : Prop := vL_addClip t0 (fun rk h1 => io h1 mm 15 (vX12_addClip (fun rb h2 => io h2 mm 15 (vX12_thrown (fun rc h3 => rc = rk ∧ ((rk = 0 → ll h3 o 0 (fun y9 => y9 = Int32.toInt64 rb)) ∧ Kc h3)) h2 mm)) h1 mm p1)) h x p1 o
set_option maxRecDepth 100000 in
set_option maxHeartbeats 4000000 in
theorem tLc3 {p : Program} {l : Launch} {e : Env} {R : Room} {s : State} {m : MethodId} {args : Array Value} {below : List Frame} {meth : Method} {c : Code} {Z : State → Prop} {G : gG} {A : Nat → Prop} {h : gH} {k n b L x mm o : Nat} {xs : Nat → Int32} {v4 : Int32} {Kc : gH → Prop} (X : gC p l s m args meth c G A cL_law 8 (some .boolean) RL) (hNc : gNc s) (hX : va_X b L xs s s.heap) (hbl : b < s.heap.size) (hbA : ¬ A b) (hRf : 64 ≤ R.frames) (hRl : 2000 ≤ R.locals) (hk : k + 300 ≤ R.cells) (hn : n + 5000 ≤ R.slots) {p1 : Int32} (hi1 : vp_in (v4 + 1) L) (hp1 : xs (Int32.toNatClampNeg (v4 + 1)) = p1) (w : vLc3 G.2.2.1 Kc h x mm o p1) (kk : ∀ h' : gH, Kc h' → V p l e R s m args below meth c Z G A 8 h' (k + 300) (n + 5000) 2388 [(0, .ref b), (1, .ref x), (2, .ref mm), (3, .ref o), (4, .int v4)] []) : V p l e R s m args below meth c Z G A 8 h k n 396 [(0, .ref b), (1, .ref x), (2, .ref mm), (3, .ref o), (4, .int v4)] [] := by
  refine V_aloadr_n X dL_law_396 1 rfl ?_
  refine V_aloadr_n X dL_law_397 0 rfl ?_
  refine V_iload X dL_law_398 4 rfl ?_
  refine V_iconst (y := 1) X dL_law_400 (by decide) ?_
  refine V_iadd X dL_law_401 ?_
  refine V_sld (L := L) (xs := xs) X hX hbl hbA hi1 dL_law_402 ?_
  rw [hp1]
  refine V_aloadr_n X dL_law_403 3 rfl ?_
  refine V_callSW (As := [.ref x, .int p1, .ref o]) (rest := []) (k1 := k + 4) (n1 := n + 79) X hNc (cL_addClip_ok X.2.2.2.2.2.2.2.2.1 w) lwL_139 dL_law_404 ⟨by show 8 + 1 ≤ R.frames; omega, by show 8 + (4 + 11) + 212 ≤ R.locals; omega⟩ rfl (Nat.le_of_ble_eq_true rfl) ⟨by show k + 4 ≤ R.cells; omega, by show n + 79 ≤ R.slots; omega⟩ (Nat.le_refl _) (Nat.le_refl _) (fun rk h1 w => ?_)
  refine V_istore X dL_law_407 (by decide) rfl ?_
  refine V_aloadr_n X dL_law_409 3 rfl ?_
  refine V_aloadr_n X dL_law_410 1 rfl ?_
  refine V_iload X dL_law_411 5 rfl ?_
  refine V_iconst (y := 1) X dL_law_413 (by decide) ?_
  refine V_iadd X dL_law_414 ?_
  refine V_sld (L := L) (xs := xs) X hX hbl hbA hi1 dL_law_415 ?_
  rw [hp1]
  obtain ⟨fs, hh, w⟩ := w
  refine V_callVi (As := [.int p1]) (rest := []) (k1 := k + 4 + 0) (n1 := n + 79 + 0) X (cX12_addClip_ok X.2.2.2.2.2.2.2.2.1 w) lkL_141 hh (q9 := (RX12, TX12, 42)) rfl rfl dL_law_416 ⟨by show 1 + 1 ≤ R.frames; omega, by show 8 + (2 + 11) + 25 ≤ R.locals; omega⟩ rfl (Nat.le_of_ble_eq_true rfl) ⟨by show k + 4 + 0 ≤ R.cells; omega, by show n + 79 + 0 ≤ R.slots; omega⟩ (Nat.le_refl _) (Nat.le_refl _) (fun rb h2 w => ?_)
  refine V_istore X dL_law_419 (by decide) rfl ?_
  refine V_aloadr_n X dL_law_421 4 rfl ?_
  obtain ⟨fs, hh, w⟩ := w
  refine V_callVi (As := []) (rest := []) (k1 := k + 4 + 0 + 0) (n1 := n + 79 + 0 + 0) X (cX12_thrown_ok X.2.2.2.2.2.2.2.2.1 w) lkL_129 hh (q9 := (RX12, TX12, 42)) rfl rfl dL_law_422 ⟨by show 0 + 1 ≤ R.frames; omega, by show 8 + (1 + 11) + 0 ≤ R.locals; omega⟩ rfl (Nat.le_of_ble_eq_true rfl) ⟨by show k + 4 + 0 + 0 ≤ R.cells; omega, by show n + 79 + 0 + 0 ≤ R.slots; omega⟩ (Nat.le_refl _) (Nat.le_refl _) (fun rc h3 w => ?_)
  refine V_iload X dL_law_425 1 rfl ?_
  refine V_icmp_eq (tgt := 432) X dL_law_427 (by decide) (fun z => ?_) (fun z => absurd w.1 z)
  replace w := w.2
  refine V_iload X dL_law_432 1 rfl ?_
  have fin : V p l e R s m args below meth c Z G A 8 h3 (k + 4 + 0 + 0) (n + 79 + 0 + 0) 449 [(6, .int rb), (5, .int rk), (0, .ref b), (1, .ref x), (2, .ref mm), (3, .ref o), (4, .int v4)] [] := by
    refine V_goto (tgt := 2388) X dL_law_449 (by decide) ?_
    refine V.widen (k1 := k + 300) (n1 := n + 5000) (by omega) (by omega) ?_
    exact V.sub [2, 3, 4, 5, 6] rfl (kk _ w.2)
  refine V_if_ne (tgt := 449) X dL_law_434 (by decide) (fun z => fin) (fun z => ?_)
  refine V_aloadr_n X dL_law_437 5 rfl ?_
  refine V_iconst (y := 0) X dL_law_438 (by decide) ?_
  obtain ⟨N9, g9, hh9, hi9, w9⟩ := w.1 z
  refine V_lald X dL_law_439 hh9 hi9 ?_
  refine V_iload X dL_law_440 0 rfl ?_
  refine V_i2l X dL_law_442 ?_
  refine V_lcmp X dL_law_443 ?_
  exact V_if_eq (tgt := 449) X dL_law_444 (by decide) (fun z => fin) (fun z => absurd ((lg_cmp_eq _ _).mpr w9) z)
def vLc4 (t0 : Nat) (Kc : gH → Prop) (h : gH) (x mm o : Nat) (p1 : Int32) (p2 : Int32) (p3 : Int32) : Prop := vL_addEvent t0 (fun rk h1 => io h1 mm 15 (vX12_addEvent (fun rb h2 => io h2 mm 15 (vX12_thrown (fun rc h3 => rc = rk ∧ ((rk = 0 → ll h3 o 0 (fun y9 => y9 = Int32.toInt64 rb)) ∧ Kc h3)) h2 mm)) h1 mm p1 p2 p3)) h x p1 p2 p3 o
set_option maxRecDepth 100000 in
set_option maxHeartbeats 4000000 in
theorem tLc4 {p : Program} {l : Launch} {e : Env} {R : Room} {s : State} {m : MethodId} {args : Array Value} {below : List Frame} {meth : Method} {c : Code} {Z : State → Prop} {G : gG} {A : Nat → Prop} {h : gH} {k n b L x mm o : Nat} {xs : Nat → Int32} {v4 : Int32} {Kc : gH → Prop} (X : gC p l s m args meth c G A cL_law 8 (some .boolean) RL) (hNc : gNc s) (hX : va_X b L xs s s.heap) (hbl : b < s.heap.size) (hbA : ¬ A b) (hRf : 64 ≤ R.frames) (hRl : 2000 ≤ R.locals) (hk : k + 300 ≤ R.cells) (hn : n + 5000 ≤ R.slots) {p1 : Int32} (hi1 : vp_in (v4 + 1) L) (hp1 : xs (Int32.toNatClampNeg (v4 + 1)) = p1) {p2 : Int32} (hi2 : vp_in (v4 + 2) L) (hp2 : xs (Int32.toNatClampNeg (v4 + 2)) = p2) {p3 : Int32} (hi3 : vp_in (v4 + 3) L) (hp3 : xs (Int32.toNatClampNeg (v4 + 3)) = p3) (w : vLc4 G.2.2.1 Kc h x mm o p1 p2 p3) (kk : ∀ h' : gH, Kc h' → V p l e R s m args below meth c Z G A 8 h' (k + 300) (n + 5000) 2388 [(0, .ref b), (1, .ref x), (2, .ref mm), (3, .ref o), (4, .int v4)] []) : V p l e R s m args below meth c Z G A 8 h k n 452 [(0, .ref b), (1, .ref x), (2, .ref mm), (3, .ref o), (4, .int v4)] [] := by
  refine V_aloadr_n X dL_law_452 1 rfl ?_
  refine V_aloadr_n X dL_law_453 0 rfl ?_
  refine V_iload X dL_law_454 4 rfl ?_
  refine V_iconst (y := 1) X dL_law_456 (by decide) ?_
  refine V_iadd X dL_law_457 ?_
  refine V_sld (L := L) (xs := xs) X hX hbl hbA hi1 dL_law_458 ?_
  rw [hp1]
  refine V_aloadr_n X dL_law_459 0 rfl ?_
  refine V_iload X dL_law_460 4 rfl ?_
  refine V_iconst (y := 2) X dL_law_462 (by decide) ?_
  refine V_iadd X dL_law_463 ?_
  refine V_sld (L := L) (xs := xs) X hX hbl hbA hi2 dL_law_464 ?_
  rw [hp2]
  refine V_aloadr_n X dL_law_465 0 rfl ?_
  refine V_iload X dL_law_466 4 rfl ?_
  refine V_iconst (y := 3) X dL_law_468 (by decide) ?_
  refine V_iadd X dL_law_469 ?_
  refine V_sld (L := L) (xs := xs) X hX hbl hbA hi3 dL_law_470 ?_
  rw [hp3]
  refine V_aloadr_n X dL_law_471 3 rfl ?_
  refine V_callSW (As := [.ref x, .int p1, .int p2, .int p3, .ref o]) (rest := []) (k1 := k + 2) (n1 := n + 12) X hNc (cL_addEvent_ok X.2.2.2.2.2.2.2.2.1 w) lwL_142 dL_law_472 ⟨by show 8 + 1 ≤ R.frames; omega, by show 8 + (6 + 11) + 135 ≤ R.locals; omega⟩ rfl (Nat.le_of_ble_eq_true rfl) ⟨by show k + 2 ≤ R.cells; omega, by show n + 12 ≤ R.slots; omega⟩ (Nat.le_refl _) (Nat.le_refl _) (fun rk h1 w => ?_)
  refine V_istore X dL_law_475 (by decide) rfl ?_
  refine V_aloadr_n X dL_law_477 3 rfl ?_
  refine V_aloadr_n X dL_law_478 1 rfl ?_
  refine V_iload X dL_law_479 5 rfl ?_
  refine V_iconst (y := 1) X dL_law_481 (by decide) ?_
  refine V_iadd X dL_law_482 ?_
  refine V_sld (L := L) (xs := xs) X hX hbl hbA hi1 dL_law_483 ?_
  rw [hp1]
  refine V_aloadr_n X dL_law_484 1 rfl ?_
  refine V_iload X dL_law_485 5 rfl ?_
  refine V_iconst (y := 2) X dL_law_487 (by decide) ?_
  refine V_iadd X dL_law_488 ?_
  refine V_sld (L := L) (xs := xs) X hX hbl hbA hi2 dL_law_489 ?_
  rw [hp2]
  refine V_aloadr_n X dL_law_490 1 rfl ?_
  refine V_iload X dL_law_491 5 rfl ?_
  refine V_iconst (y := 3) X dL_law_493 (by decide) ?_
  refine V_iadd X dL_law_494 ?_
  refine V_sld (L := L) (xs := xs) X hX hbl hbA hi3 dL_law_495 ?_
  rw [hp3]
  obtain ⟨fs, hh, w⟩ := w
  refine V_callVi (As := [.int p1, .int p2, .int p3]) (rest := []) (k1 := k + 2 + 0) (n1 := n + 12 + 0) X (cX12_addEvent_ok X.2.2.2.2.2.2.2.2.1 w) lkL_145 hh (q9 := (RX12, TX12, 42)) rfl rfl dL_law_496 ⟨by show 2 + 1 ≤ R.frames; omega, by show 8 + (5 + 11) + 46 ≤ R.locals; omega⟩ rfl (Nat.le_of_ble_eq_true rfl) ⟨by show k + 2 + 0 ≤ R.cells; omega, by show n + 12 + 0 ≤ R.slots; omega⟩ (Nat.le_refl _) (Nat.le_refl _) (fun rb h2 w => ?_)
  refine V_istore X dL_law_499 (by decide) rfl ?_
  refine V_aloadr_n X dL_law_501 4 rfl ?_
  obtain ⟨fs, hh, w⟩ := w
  refine V_callVi (As := []) (rest := []) (k1 := k + 2 + 0 + 0) (n1 := n + 12 + 0 + 0) X (cX12_thrown_ok X.2.2.2.2.2.2.2.2.1 w) lkL_129 hh (q9 := (RX12, TX12, 42)) rfl rfl dL_law_502 ⟨by show 0 + 1 ≤ R.frames; omega, by show 8 + (1 + 11) + 0 ≤ R.locals; omega⟩ rfl (Nat.le_of_ble_eq_true rfl) ⟨by show k + 2 + 0 + 0 ≤ R.cells; omega, by show n + 12 + 0 + 0 ≤ R.slots; omega⟩ (Nat.le_refl _) (Nat.le_refl _) (fun rc h3 w => ?_)
  refine V_iload X dL_law_505 1 rfl ?_
  refine V_icmp_eq (tgt := 512) X dL_law_507 (by decide) (fun z => ?_) (fun z => absurd w.1 z)
  replace w := w.2
  refine V_iload X dL_law_512 1 rfl ?_
  have fin : V p l e R s m args below meth c Z G A 8 h3 (k + 2 + 0 + 0) (n + 12 + 0 + 0) 529 [(6, .int rb), (5, .int rk), (0, .ref b), (1, .ref x), (2, .ref mm), (3, .ref o), (4, .int v4)] [] := by
    refine V_goto (tgt := 2388) X dL_law_529 (by decide) ?_
    refine V.widen (k1 := k + 300) (n1 := n + 5000) (by omega) (by omega) ?_
    exact V.sub [2, 3, 4, 5, 6] rfl (kk _ w.2)
  refine V_if_ne (tgt := 529) X dL_law_514 (by decide) (fun z => fin) (fun z => ?_)
  refine V_aloadr_n X dL_law_517 5 rfl ?_
  refine V_iconst (y := 0) X dL_law_518 (by decide) ?_
  obtain ⟨N9, g9, hh9, hi9, w9⟩ := w.1 z
  refine V_lald X dL_law_519 hh9 hi9 ?_
  refine V_iload X dL_law_520 0 rfl ?_
  refine V_i2l X dL_law_522 ?_
  refine V_lcmp X dL_law_523 ?_
  exact V_if_eq (tgt := 529) X dL_law_524 (by decide) (fun z => fin) (fun z => absurd ((lg_cmp_eq _ _).mpr w9) z)
def vLc5 (t0 : Nat) (Kc : gH → Prop) (h : gH) (x mm o : Nat) (p1 : Int32) : Prop := vL_addClipNode t0 (fun rk h1 => io h1 mm 15 (vX12_addClipNode (fun rb h2 => io h2 mm 15 (vX12_thrown (fun rc h3 => rc = rk ∧ ((rk = 0 → ll h3 o 0 (fun y9 => y9 = Int32.toInt64 rb)) ∧ Kc h3)) h2 mm)) h1 mm p1)) h x p1 o
set_option maxRecDepth 100000 in
set_option maxHeartbeats 4000000 in
theorem tLc5 {p : Program} {l : Launch} {e : Env} {R : Room} {s : State} {m : MethodId} {args : Array Value} {below : List Frame} {meth : Method} {c : Code} {Z : State → Prop} {G : gG} {A : Nat → Prop} {h : gH} {k n b L x mm o : Nat} {xs : Nat → Int32} {v4 : Int32} {Kc : gH → Prop} (X : gC p l s m args meth c G A cL_law 8 (some .boolean) RL) (hNc : gNc s) (hX : va_X b L xs s s.heap) (hbl : b < s.heap.size) (hbA : ¬ A b) (hRf : 64 ≤ R.frames) (hRl : 2000 ≤ R.locals) (hk : k + 300 ≤ R.cells) (hn : n + 5000 ≤ R.slots) {p1 : Int32} (hi1 : vp_in (v4 + 1) L) (hp1 : xs (Int32.toNatClampNeg (v4 + 1)) = p1) (w : vLc5 G.2.2.1 Kc h x mm o p1) (kk : ∀ h' : gH, Kc h' → V p l e R s m args below meth c Z G A 8 h' (k + 300) (n + 5000) 2388 [(0, .ref b), (1, .ref x), (2, .ref mm), (3, .ref o), (4, .int v4)] []) : V p l e R s m args below meth c Z G A 8 h k n 532 [(0, .ref b), (1, .ref x), (2, .ref mm), (3, .ref o), (4, .int v4)] [] := by
  refine V_aloadr_n X dL_law_532 1 rfl ?_
  refine V_aloadr_n X dL_law_533 0 rfl ?_
  refine V_iload X dL_law_534 4 rfl ?_
  refine V_iconst (y := 1) X dL_law_536 (by decide) ?_
  refine V_iadd X dL_law_537 ?_
  refine V_sld (L := L) (xs := xs) X hX hbl hbA hi1 dL_law_538 ?_
  rw [hp1]
  refine V_aloadr_n X dL_law_539 3 rfl ?_
  refine V_callSW (As := [.ref x, .int p1, .ref o]) (rest := []) (k1 := k + 6) (n1 := n + 89) X hNc (cL_addClipNode_ok X.2.2.2.2.2.2.2.2.1 w) lwL_146 dL_law_540 ⟨by show 8 + 1 ≤ R.frames; omega, by show 8 + (4 + 11) + 213 ≤ R.locals; omega⟩ rfl (Nat.le_of_ble_eq_true rfl) ⟨by show k + 6 ≤ R.cells; omega, by show n + 89 ≤ R.slots; omega⟩ (Nat.le_refl _) (Nat.le_refl _) (fun rk h1 w => ?_)
  refine V_istore X dL_law_543 (by decide) rfl ?_
  refine V_aloadr_n X dL_law_545 3 rfl ?_
  refine V_aloadr_n X dL_law_546 1 rfl ?_
  refine V_iload X dL_law_547 5 rfl ?_
  refine V_iconst (y := 1) X dL_law_549 (by decide) ?_
  refine V_iadd X dL_law_550 ?_
  refine V_sld (L := L) (xs := xs) X hX hbl hbA hi1 dL_law_551 ?_
  rw [hp1]
  obtain ⟨fs, hh, w⟩ := w
  refine V_callVi (As := [.int p1]) (rest := []) (k1 := k + 6 + 0) (n1 := n + 89 + 0) X (cX12_addClipNode_ok X.2.2.2.2.2.2.2.2.1 w) lkL_148 hh (q9 := (RX12, TX12, 42)) rfl rfl dL_law_552 ⟨by show 2 + 1 ≤ R.frames; omega, by show 8 + (2 + 11) + 46 ≤ R.locals; omega⟩ rfl (Nat.le_of_ble_eq_true rfl) ⟨by show k + 6 + 0 ≤ R.cells; omega, by show n + 89 + 0 ≤ R.slots; omega⟩ (Nat.le_refl _) (Nat.le_refl _) (fun rb h2 w => ?_)
  refine V_istore X dL_law_555 (by decide) rfl ?_
  refine V_aloadr_n X dL_law_557 4 rfl ?_
  obtain ⟨fs, hh, w⟩ := w
  refine V_callVi (As := []) (rest := []) (k1 := k + 6 + 0 + 0) (n1 := n + 89 + 0 + 0) X (cX12_thrown_ok X.2.2.2.2.2.2.2.2.1 w) lkL_129 hh (q9 := (RX12, TX12, 42)) rfl rfl dL_law_558 ⟨by show 0 + 1 ≤ R.frames; omega, by show 8 + (1 + 11) + 0 ≤ R.locals; omega⟩ rfl (Nat.le_of_ble_eq_true rfl) ⟨by show k + 6 + 0 + 0 ≤ R.cells; omega, by show n + 89 + 0 + 0 ≤ R.slots; omega⟩ (Nat.le_refl _) (Nat.le_refl _) (fun rc h3 w => ?_)
  refine V_iload X dL_law_561 1 rfl ?_
  refine V_icmp_eq (tgt := 568) X dL_law_563 (by decide) (fun z => ?_) (fun z => absurd w.1 z)
  replace w := w.2
  refine V_iload X dL_law_568 1 rfl ?_
  have fin : V p l e R s m args below meth c Z G A 8 h3 (k + 6 + 0 + 0) (n + 89 + 0 + 0) 585 [(6, .int rb), (5, .int rk), (0, .ref b), (1, .ref x), (2, .ref mm), (3, .ref o), (4, .int v4)] [] := by
    refine V_goto (tgt := 2388) X dL_law_585 (by decide) ?_
    refine V.widen (k1 := k + 300) (n1 := n + 5000) (by omega) (by omega) ?_
    exact V.sub [2, 3, 4, 5, 6] rfl (kk _ w.2)
  refine V_if_ne (tgt := 585) X dL_law_570 (by decide) (fun z => fin) (fun z => ?_)
  refine V_aloadr_n X dL_law_573 5 rfl ?_
  refine V_iconst (y := 0) X dL_law_574 (by decide) ?_
  obtain ⟨N9, g9, hh9, hi9, w9⟩ := w.1 z
  refine V_lald X dL_law_575 hh9 hi9 ?_
  refine V_iload X dL_law_576 0 rfl ?_
  refine V_i2l X dL_law_578 ?_
  refine V_lcmp X dL_law_579 ?_
  exact V_if_eq (tgt := 585) X dL_law_580 (by decide) (fun z => fin) (fun z => absurd ((lg_cmp_eq _ _).mpr w9) z)
def vLc6 (t0 : Nat) (Kc : gH → Prop) (h : gH) (x mm o : Nat) (p1 : Int32) : Prop := vL_addLine t0 (fun rk h1 => io h1 mm 15 (vX12_addLine (fun rb h2 => io h2 mm 15 (vX12_thrown (fun rc h3 => rc = rk ∧ ((rk = 0 → ll h3 o 0 (fun y9 => y9 = Int32.toInt64 rb)) ∧ Kc h3)) h2 mm)) h1 mm p1)) h x p1 o
set_option maxRecDepth 100000 in
set_option maxHeartbeats 4000000 in
theorem tLc6 {p : Program} {l : Launch} {e : Env} {R : Room} {s : State} {m : MethodId} {args : Array Value} {below : List Frame} {meth : Method} {c : Code} {Z : State → Prop} {G : gG} {A : Nat → Prop} {h : gH} {k n b L x mm o : Nat} {xs : Nat → Int32} {v4 : Int32} {Kc : gH → Prop} (X : gC p l s m args meth c G A cL_law 8 (some .boolean) RL) (hNc : gNc s) (hX : va_X b L xs s s.heap) (hbl : b < s.heap.size) (hbA : ¬ A b) (hRf : 64 ≤ R.frames) (hRl : 2000 ≤ R.locals) (hk : k + 300 ≤ R.cells) (hn : n + 5000 ≤ R.slots) {p1 : Int32} (hi1 : vp_in (v4 + 1) L) (hp1 : xs (Int32.toNatClampNeg (v4 + 1)) = p1) (w : vLc6 G.2.2.1 Kc h x mm o p1) (kk : ∀ h' : gH, Kc h' → V p l e R s m args below meth c Z G A 8 h' (k + 300) (n + 5000) 2388 [(0, .ref b), (1, .ref x), (2, .ref mm), (3, .ref o), (4, .int v4)] []) : V p l e R s m args below meth c Z G A 8 h k n 588 [(0, .ref b), (1, .ref x), (2, .ref mm), (3, .ref o), (4, .int v4)] [] := by
  refine V_aloadr_n X dL_law_588 1 rfl ?_
  refine V_aloadr_n X dL_law_589 0 rfl ?_
  refine V_iload X dL_law_590 4 rfl ?_
  refine V_iconst (y := 1) X dL_law_592 (by decide) ?_
  refine V_iadd X dL_law_593 ?_
  refine V_sld (L := L) (xs := xs) X hX hbl hbA hi1 dL_law_594 ?_
  rw [hp1]
  refine V_aloadr_n X dL_law_595 3 rfl ?_
  refine V_callSW (As := [.ref x, .int p1, .ref o]) (rest := []) (k1 := k + 6) (n1 := n + 89) X hNc (cL_addLine_ok X.2.2.2.2.2.2.2.2.1 w) lwL_149 dL_law_596 ⟨by show 8 + 1 ≤ R.frames; omega, by show 8 + (4 + 11) + 212 ≤ R.locals; omega⟩ rfl (Nat.le_of_ble_eq_true rfl) ⟨by show k + 6 ≤ R.cells; omega, by show n + 89 ≤ R.slots; omega⟩ (Nat.le_refl _) (Nat.le_refl _) (fun rk h1 w => ?_)
  refine V_istore X dL_law_599 (by decide) rfl ?_
  refine V_aloadr_n X dL_law_601 3 rfl ?_
  refine V_aloadr_n X dL_law_602 1 rfl ?_
  refine V_iload X dL_law_603 5 rfl ?_
  refine V_iconst (y := 1) X dL_law_605 (by decide) ?_
  refine V_iadd X dL_law_606 ?_
  refine V_sld (L := L) (xs := xs) X hX hbl hbA hi1 dL_law_607 ?_
  rw [hp1]
  obtain ⟨fs, hh, w⟩ := w
  refine V_callVi (As := [.int p1]) (rest := []) (k1 := k + 6 + 0) (n1 := n + 89 + 0) X (cX12_addLine_ok X.2.2.2.2.2.2.2.2.1 w) lkL_151 hh (q9 := (RX12, TX12, 42)) rfl rfl dL_law_608 ⟨by show 2 + 1 ≤ R.frames; omega, by show 8 + (2 + 11) + 46 ≤ R.locals; omega⟩ rfl (Nat.le_of_ble_eq_true rfl) ⟨by show k + 6 + 0 ≤ R.cells; omega, by show n + 89 + 0 ≤ R.slots; omega⟩ (Nat.le_refl _) (Nat.le_refl _) (fun rb h2 w => ?_)
  refine V_istore X dL_law_611 (by decide) rfl ?_
  refine V_aloadr_n X dL_law_613 4 rfl ?_
  obtain ⟨fs, hh, w⟩ := w
  refine V_callVi (As := []) (rest := []) (k1 := k + 6 + 0 + 0) (n1 := n + 89 + 0 + 0) X (cX12_thrown_ok X.2.2.2.2.2.2.2.2.1 w) lkL_129 hh (q9 := (RX12, TX12, 42)) rfl rfl dL_law_614 ⟨by show 0 + 1 ≤ R.frames; omega, by show 8 + (1 + 11) + 0 ≤ R.locals; omega⟩ rfl (Nat.le_of_ble_eq_true rfl) ⟨by show k + 6 + 0 + 0 ≤ R.cells; omega, by show n + 89 + 0 + 0 ≤ R.slots; omega⟩ (Nat.le_refl _) (Nat.le_refl _) (fun rc h3 w => ?_)
  refine V_iload X dL_law_617 1 rfl ?_
  refine V_icmp_eq (tgt := 624) X dL_law_619 (by decide) (fun z => ?_) (fun z => absurd w.1 z)
  replace w := w.2
  refine V_iload X dL_law_624 1 rfl ?_
  have fin : V p l e R s m args below meth c Z G A 8 h3 (k + 6 + 0 + 0) (n + 89 + 0 + 0) 641 [(6, .int rb), (5, .int rk), (0, .ref b), (1, .ref x), (2, .ref mm), (3, .ref o), (4, .int v4)] [] := by
    refine V_goto (tgt := 2388) X dL_law_641 (by decide) ?_
    refine V.widen (k1 := k + 300) (n1 := n + 5000) (by omega) (by omega) ?_
    exact V.sub [2, 3, 4, 5, 6] rfl (kk _ w.2)
  refine V_if_ne (tgt := 641) X dL_law_626 (by decide) (fun z => fin) (fun z => ?_)
  refine V_aloadr_n X dL_law_629 5 rfl ?_
  refine V_iconst (y := 0) X dL_law_630 (by decide) ?_
  obtain ⟨N9, g9, hh9, hi9, w9⟩ := w.1 z
  refine V_lald X dL_law_631 hh9 hi9 ?_
  refine V_iload X dL_law_632 0 rfl ?_
  refine V_i2l X dL_law_634 ?_
  refine V_lcmp X dL_law_635 ?_
  exact V_if_eq (tgt := 641) X dL_law_636 (by decide) (fun z => fin) (fun z => absurd ((lg_cmp_eq _ _).mpr w9) z)
def vLc7 (t0 : Nat) (Kc : gH → Prop) (h : gH) (x mm o : Nat) (p1 : Int32) (p2 : Int32) (p3 : Int32) : Prop := vL_addChild t0 (fun rk h1 => io h1 mm 15 (vX12_addChild (fun rb h2 => io h2 mm 15 (vX12_thrown (fun rc h3 => rc = rk ∧ ((rk = 0 → ll h3 o 0 (fun y9 => y9 = Int32.toInt64 rb)) ∧ Kc h3)) h2 mm)) h1 mm p1 p2 p3)) h x p1 p2 p3 o
set_option maxRecDepth 100000 in
set_option maxHeartbeats 4000000 in
theorem tLc7 {p : Program} {l : Launch} {e : Env} {R : Room} {s : State} {m : MethodId} {args : Array Value} {below : List Frame} {meth : Method} {c : Code} {Z : State → Prop} {G : gG} {A : Nat → Prop} {h : gH} {k n b L x mm o : Nat} {xs : Nat → Int32} {v4 : Int32} {Kc : gH → Prop} (X : gC p l s m args meth c G A cL_law 8 (some .boolean) RL) (hNc : gNc s) (hX : va_X b L xs s s.heap) (hbl : b < s.heap.size) (hbA : ¬ A b) (hRf : 64 ≤ R.frames) (hRl : 2000 ≤ R.locals) (hk : k + 300 ≤ R.cells) (hn : n + 5000 ≤ R.slots) {p1 : Int32} (hi1 : vp_in (v4 + 1) L) (hp1 : xs (Int32.toNatClampNeg (v4 + 1)) = p1) {p2 : Int32} (hi2 : vp_in (v4 + 2) L) (hp2 : xs (Int32.toNatClampNeg (v4 + 2)) = p2) {p3 : Int32} (hi3 : vp_in (v4 + 3) L) (hp3 : xs (Int32.toNatClampNeg (v4 + 3)) = p3) (w : vLc7 G.2.2.1 Kc h x mm o p1 p2 p3) (kk : ∀ h' : gH, Kc h' → V p l e R s m args below meth c Z G A 8 h' (k + 300) (n + 5000) 2388 [(0, .ref b), (1, .ref x), (2, .ref mm), (3, .ref o), (4, .int v4)] []) : V p l e R s m args below meth c Z G A 8 h k n 644 [(0, .ref b), (1, .ref x), (2, .ref mm), (3, .ref o), (4, .int v4)] [] := by
  refine V_aloadr_n X dL_law_644 1 rfl ?_
  refine V_aloadr_n X dL_law_645 0 rfl ?_
  refine V_iload X dL_law_646 4 rfl ?_
  refine V_iconst (y := 1) X dL_law_648 (by decide) ?_
  refine V_iadd X dL_law_649 ?_
  refine V_sld (L := L) (xs := xs) X hX hbl hbA hi1 dL_law_650 ?_
  rw [hp1]
  refine V_aloadr_n X dL_law_651 0 rfl ?_
  refine V_iload X dL_law_652 4 rfl ?_
  refine V_iconst (y := 2) X dL_law_654 (by decide) ?_
  refine V_iadd X dL_law_655 ?_
  refine V_sld (L := L) (xs := xs) X hX hbl hbA hi2 dL_law_656 ?_
  rw [hp2]
  refine V_aloadr_n X dL_law_657 0 rfl ?_
  refine V_iload X dL_law_658 4 rfl ?_
  refine V_iconst (y := 3) X dL_law_660 (by decide) ?_
  refine V_iadd X dL_law_661 ?_
  refine V_sld (L := L) (xs := xs) X hX hbl hbA hi3 dL_law_662 ?_
  rw [hp3]
  refine V_aloadr_n X dL_law_663 3 rfl ?_
  refine V_callSW (As := [.ref x, .int p1, .int p2, .int p3, .ref o]) (rest := []) (k1 := k + 3) (n1 := n + 76) X hNc (cL_addChild_ok X.2.2.2.2.2.2.2.2.1 w) lwL_152 dL_law_664 ⟨by show 8 + 1 ≤ R.frames; omega, by show 8 + (6 + 11) + 219 ≤ R.locals; omega⟩ rfl (Nat.le_of_ble_eq_true rfl) ⟨by show k + 3 ≤ R.cells; omega, by show n + 76 ≤ R.slots; omega⟩ (Nat.le_refl _) (Nat.le_refl _) (fun rk h1 w => ?_)
  refine V_istore X dL_law_667 (by decide) rfl ?_
  refine V_aloadr_n X dL_law_669 3 rfl ?_
  refine V_aloadr_n X dL_law_670 1 rfl ?_
  refine V_iload X dL_law_671 5 rfl ?_
  refine V_iconst (y := 1) X dL_law_673 (by decide) ?_
  refine V_iadd X dL_law_674 ?_
  refine V_sld (L := L) (xs := xs) X hX hbl hbA hi1 dL_law_675 ?_
  rw [hp1]
  refine V_aloadr_n X dL_law_676 1 rfl ?_
  refine V_iload X dL_law_677 5 rfl ?_
  refine V_iconst (y := 2) X dL_law_679 (by decide) ?_
  refine V_iadd X dL_law_680 ?_
  refine V_sld (L := L) (xs := xs) X hX hbl hbA hi2 dL_law_681 ?_
  rw [hp2]
  refine V_aloadr_n X dL_law_682 1 rfl ?_
  refine V_iload X dL_law_683 5 rfl ?_
  refine V_iconst (y := 3) X dL_law_685 (by decide) ?_
  refine V_iadd X dL_law_686 ?_
  refine V_sld (L := L) (xs := xs) X hX hbl hbA hi3 dL_law_687 ?_
  rw [hp3]
  obtain ⟨fs, hh, w⟩ := w
  refine V_callVi (As := [.int p1, .int p2, .int p3]) (rest := []) (k1 := k + 3 + 0) (n1 := n + 76 + 0) X (cX12_addChild_ok X.2.2.2.2.2.2.2.2.1 w) lkL_154 hh (q9 := (RX12, TX12, 42)) rfl rfl dL_law_688 ⟨by show 2 + 1 ≤ R.frames; omega, by show 8 + (6 + 11) + 46 ≤ R.locals; omega⟩ rfl (Nat.le_of_ble_eq_true rfl) ⟨by show k + 3 + 0 ≤ R.cells; omega, by show n + 76 + 0 ≤ R.slots; omega⟩ (Nat.le_refl _) (Nat.le_refl _) (fun rb h2 w => ?_)
  refine V_istore X dL_law_691 (by decide) rfl ?_
  refine V_aloadr_n X dL_law_693 4 rfl ?_
  obtain ⟨fs, hh, w⟩ := w
  refine V_callVi (As := []) (rest := []) (k1 := k + 3 + 0 + 0) (n1 := n + 76 + 0 + 0) X (cX12_thrown_ok X.2.2.2.2.2.2.2.2.1 w) lkL_129 hh (q9 := (RX12, TX12, 42)) rfl rfl dL_law_694 ⟨by show 0 + 1 ≤ R.frames; omega, by show 8 + (1 + 11) + 0 ≤ R.locals; omega⟩ rfl (Nat.le_of_ble_eq_true rfl) ⟨by show k + 3 + 0 + 0 ≤ R.cells; omega, by show n + 76 + 0 + 0 ≤ R.slots; omega⟩ (Nat.le_refl _) (Nat.le_refl _) (fun rc h3 w => ?_)
  refine V_iload X dL_law_697 1 rfl ?_
  refine V_icmp_eq (tgt := 704) X dL_law_699 (by decide) (fun z => ?_) (fun z => absurd w.1 z)
  replace w := w.2
  refine V_iload X dL_law_704 1 rfl ?_
  have fin : V p l e R s m args below meth c Z G A 8 h3 (k + 3 + 0 + 0) (n + 76 + 0 + 0) 721 [(6, .int rb), (5, .int rk), (0, .ref b), (1, .ref x), (2, .ref mm), (3, .ref o), (4, .int v4)] [] := by
    refine V_goto (tgt := 2388) X dL_law_721 (by decide) ?_
    refine V.widen (k1 := k + 300) (n1 := n + 5000) (by omega) (by omega) ?_
    exact V.sub [2, 3, 4, 5, 6] rfl (kk _ w.2)
  refine V_if_ne (tgt := 721) X dL_law_706 (by decide) (fun z => fin) (fun z => ?_)
  refine V_aloadr_n X dL_law_709 5 rfl ?_
  refine V_iconst (y := 0) X dL_law_710 (by decide) ?_
  obtain ⟨N9, g9, hh9, hi9, w9⟩ := w.1 z
  refine V_lald X dL_law_711 hh9 hi9 ?_
  refine V_iload X dL_law_712 0 rfl ?_
  refine V_i2l X dL_law_714 ?_
  refine V_lcmp X dL_law_715 ?_
  exact V_if_eq (tgt := 721) X dL_law_716 (by decide) (fun z => fin) (fun z => absurd ((lg_cmp_eq _ _).mpr w9) z)
def vLc8 (t0 : Nat) (Kc : gH → Prop) (h : gH) (x mm o : Nat) (p1 : Int32) (p2 : Int32) (p3 : Int32) (p4 : Int32) : Prop := vL_addState t0 (fun rk h1 => io h1 mm 15 (vX12_addState (fun rb h2 => io h2 mm 15 (vX12_thrown (fun rc h3 => rc = rk ∧ ((rk = 0 → ll h3 o 0 (fun y9 => y9 = Int32.toInt64 rb)) ∧ Kc h3)) h2 mm)) h1 mm p1 p2 (bz p3) p4)) h x p1 p2 (bz p3) p4 o
set_option maxRecDepth 100000 in
set_option maxHeartbeats 4000000 in
theorem tLc8 {p : Program} {l : Launch} {e : Env} {R : Room} {s : State} {m : MethodId} {args : Array Value} {below : List Frame} {meth : Method} {c : Code} {Z : State → Prop} {G : gG} {A : Nat → Prop} {h : gH} {k n b L x mm o : Nat} {xs : Nat → Int32} {v4 : Int32} {Kc : gH → Prop} (X : gC p l s m args meth c G A cL_law 8 (some .boolean) RL) (hNc : gNc s) (hX : va_X b L xs s s.heap) (hbl : b < s.heap.size) (hbA : ¬ A b) (hRf : 64 ≤ R.frames) (hRl : 2000 ≤ R.locals) (hk : k + 300 ≤ R.cells) (hn : n + 5000 ≤ R.slots) {p1 : Int32} (hi1 : vp_in (v4 + 1) L) (hp1 : xs (Int32.toNatClampNeg (v4 + 1)) = p1) {p2 : Int32} (hi2 : vp_in (v4 + 2) L) (hp2 : xs (Int32.toNatClampNeg (v4 + 2)) = p2) {p3 : Int32} (hi3 : vp_in (v4 + 3) L) (hp3 : xs (Int32.toNatClampNeg (v4 + 3)) = p3) {p4 : Int32} (hi4 : vp_in (v4 + 4) L) (hp4 : xs (Int32.toNatClampNeg (v4 + 4)) = p4) (w : vLc8 G.2.2.1 Kc h x mm o p1 p2 p3 p4) (kk : ∀ h' : gH, Kc h' → V p l e R s m args below meth c Z G A 8 h' (k + 300) (n + 5000) 2388 [(0, .ref b), (1, .ref x), (2, .ref mm), (3, .ref o), (4, .int v4)] []) : V p l e R s m args below meth c Z G A 8 h k n 724 [(0, .ref b), (1, .ref x), (2, .ref mm), (3, .ref o), (4, .int v4)] [] := by
  refine V_aloadr_n X dL_law_724 1 rfl ?_
  refine V_aloadr_n X dL_law_725 0 rfl ?_
  refine V_iload X dL_law_726 4 rfl ?_
  refine V_iconst (y := 1) X dL_law_728 (by decide) ?_
  refine V_iadd X dL_law_729 ?_
  refine V_sld (L := L) (xs := xs) X hX hbl hbA hi1 dL_law_730 ?_
  rw [hp1]
  refine V_aloadr_n X dL_law_731 0 rfl ?_
  refine V_iload X dL_law_732 4 rfl ?_
  refine V_iconst (y := 2) X dL_law_734 (by decide) ?_
  refine V_iadd X dL_law_735 ?_
  refine V_sld (L := L) (xs := xs) X hX hbl hbA hi2 dL_law_736 ?_
  rw [hp2]
  refine V_aloadr_n X dL_law_737 0 rfl ?_
  refine V_iload X dL_law_738 4 rfl ?_
  refine V_iconst (y := 3) X dL_law_740 (by decide) ?_
  refine V_iadd X dL_law_741 ?_
  refine V_sld (L := L) (xs := xs) X hX hbl hbA hi3 dL_law_742 ?_
  rw [hp3]
  refine V_bool (t1 := 750) (t2 := 751) X dL_law_743 dL_law_746 dL_law_747 dL_law_750 (by decide) (by decide) rfl ?_
  refine V_aloadr_n X dL_law_751 0 rfl ?_
  refine V_iload X dL_law_752 4 rfl ?_
  refine V_iconst (y := 4) X dL_law_754 (by decide) ?_
  refine V_iadd X dL_law_755 ?_
  refine V_sld (L := L) (xs := xs) X hX hbl hbA hi4 dL_law_756 ?_
  rw [hp4]
  refine V_aloadr_n X dL_law_757 3 rfl ?_
  refine V_callSW (As := [.ref x, .int p1, .int p2, .int (bz p3), .int p4, .ref o]) (rest := []) (k1 := k + 3) (n1 := n + 75) X hNc (cL_addState_ok X.2.2.2.2.2.2.2.2.1 w) lwL_155 dL_law_758 ⟨by show 8 + 1 ≤ R.frames; omega, by show 8 + (7 + 11) + 217 ≤ R.locals; omega⟩ rfl (Nat.le_of_ble_eq_true rfl) ⟨by show k + 3 ≤ R.cells; omega, by show n + 75 ≤ R.slots; omega⟩ (Nat.le_refl _) (Nat.le_refl _) (fun rk h1 w => ?_)
  refine V_istore X dL_law_761 (by decide) rfl ?_
  refine V_aloadr_n X dL_law_763 3 rfl ?_
  refine V_aloadr_n X dL_law_764 1 rfl ?_
  refine V_iload X dL_law_765 5 rfl ?_
  refine V_iconst (y := 1) X dL_law_767 (by decide) ?_
  refine V_iadd X dL_law_768 ?_
  refine V_sld (L := L) (xs := xs) X hX hbl hbA hi1 dL_law_769 ?_
  rw [hp1]
  refine V_aloadr_n X dL_law_770 1 rfl ?_
  refine V_iload X dL_law_771 5 rfl ?_
  refine V_iconst (y := 2) X dL_law_773 (by decide) ?_
  refine V_iadd X dL_law_774 ?_
  refine V_sld (L := L) (xs := xs) X hX hbl hbA hi2 dL_law_775 ?_
  rw [hp2]
  refine V_aloadr_n X dL_law_776 1 rfl ?_
  refine V_iload X dL_law_777 5 rfl ?_
  refine V_iconst (y := 3) X dL_law_779 (by decide) ?_
  refine V_iadd X dL_law_780 ?_
  refine V_sld (L := L) (xs := xs) X hX hbl hbA hi3 dL_law_781 ?_
  rw [hp3]
  refine V_bool (t1 := 789) (t2 := 790) X dL_law_782 dL_law_785 dL_law_786 dL_law_789 (by decide) (by decide) rfl ?_
  refine V_aloadr_n X dL_law_790 1 rfl ?_
  refine V_iload X dL_law_791 5 rfl ?_
  refine V_iconst (y := 4) X dL_law_793 (by decide) ?_
  refine V_iadd X dL_law_794 ?_
  refine V_sld (L := L) (xs := xs) X hX hbl hbA hi4 dL_law_795 ?_
  rw [hp4]
  obtain ⟨fs, hh, w⟩ := w
  refine V_callVi (As := [.int p1, .int p2, .int (bz p3), .int p4]) (rest := []) (k1 := k + 3 + 0) (n1 := n + 75 + 0) X (cX12_addState_ok X.2.2.2.2.2.2.2.2.1 w) lkL_158 hh (q9 := (RX12, TX12, 42)) rfl rfl dL_law_796 ⟨by show 2 + 1 ≤ R.frames; omega, by show 8 + (5 + 11) + 46 ≤ R.locals; omega⟩ rfl (Nat.le_of_ble_eq_true rfl) ⟨by show k + 3 + 0 ≤ R.cells; omega, by show n + 75 + 0 ≤ R.slots; omega⟩ (Nat.le_refl _) (Nat.le_refl _) (fun rb h2 w => ?_)
  refine V_istore X dL_law_799 (by decide) rfl ?_
  refine V_aloadr_n X dL_law_801 4 rfl ?_
  obtain ⟨fs, hh, w⟩ := w
  refine V_callVi (As := []) (rest := []) (k1 := k + 3 + 0 + 0) (n1 := n + 75 + 0 + 0) X (cX12_thrown_ok X.2.2.2.2.2.2.2.2.1 w) lkL_129 hh (q9 := (RX12, TX12, 42)) rfl rfl dL_law_802 ⟨by show 0 + 1 ≤ R.frames; omega, by show 8 + (1 + 11) + 0 ≤ R.locals; omega⟩ rfl (Nat.le_of_ble_eq_true rfl) ⟨by show k + 3 + 0 + 0 ≤ R.cells; omega, by show n + 75 + 0 + 0 ≤ R.slots; omega⟩ (Nat.le_refl _) (Nat.le_refl _) (fun rc h3 w => ?_)
  refine V_iload X dL_law_805 1 rfl ?_
  refine V_icmp_eq (tgt := 812) X dL_law_807 (by decide) (fun z => ?_) (fun z => absurd w.1 z)
  replace w := w.2
  refine V_iload X dL_law_812 1 rfl ?_
  have fin : V p l e R s m args below meth c Z G A 8 h3 (k + 3 + 0 + 0) (n + 75 + 0 + 0) 829 [(6, .int rb), (5, .int rk), (0, .ref b), (1, .ref x), (2, .ref mm), (3, .ref o), (4, .int v4)] [] := by
    refine V_goto (tgt := 2388) X dL_law_829 (by decide) ?_
    refine V.widen (k1 := k + 300) (n1 := n + 5000) (by omega) (by omega) ?_
    exact V.sub [2, 3, 4, 5, 6] rfl (kk _ w.2)
  refine V_if_ne (tgt := 829) X dL_law_814 (by decide) (fun z => fin) (fun z => ?_)
  refine V_aloadr_n X dL_law_817 5 rfl ?_
  refine V_iconst (y := 0) X dL_law_818 (by decide) ?_
  obtain ⟨N9, g9, hh9, hi9, w9⟩ := w.1 z
  refine V_lald X dL_law_819 hh9 hi9 ?_
  refine V_iload X dL_law_820 0 rfl ?_
  refine V_i2l X dL_law_822 ?_
  refine V_lcmp X dL_law_823 ?_
  exact V_if_eq (tgt := 829) X dL_law_824 (by decide) (fun z => fin) (fun z => absurd ((lg_cmp_eq _ _).mpr w9) z)
def vLc9 (t0 : Nat) (Kc : gH → Prop) (h : gH) (x mm o : Nat) (p1 : Int32) (p2 : Int32) (p3 : Int32) : Prop := vL_addTransition t0 (fun rk h1 => io h1 mm 15 (vX12_addTransition (fun rb h2 => io h2 mm 15 (vX12_thrown (fun rc h3 => rc = rk ∧ ((rk = 0 → ll h3 o 0 (fun y9 => y9 = Int32.toInt64 rb)) ∧ Kc h3)) h2 mm)) h1 mm p1 p2 p3)) h x p1 p2 p3 o
set_option maxRecDepth 100000 in
set_option maxHeartbeats 4000000 in
theorem tLc9 {p : Program} {l : Launch} {e : Env} {R : Room} {s : State} {m : MethodId} {args : Array Value} {below : List Frame} {meth : Method} {c : Code} {Z : State → Prop} {G : gG} {A : Nat → Prop} {h : gH} {k n b L x mm o : Nat} {xs : Nat → Int32} {v4 : Int32} {Kc : gH → Prop} (X : gC p l s m args meth c G A cL_law 8 (some .boolean) RL) (hNc : gNc s) (hX : va_X b L xs s s.heap) (hbl : b < s.heap.size) (hbA : ¬ A b) (hRf : 64 ≤ R.frames) (hRl : 2000 ≤ R.locals) (hk : k + 300 ≤ R.cells) (hn : n + 5000 ≤ R.slots) {p1 : Int32} (hi1 : vp_in (v4 + 1) L) (hp1 : xs (Int32.toNatClampNeg (v4 + 1)) = p1) {p2 : Int32} (hi2 : vp_in (v4 + 2) L) (hp2 : xs (Int32.toNatClampNeg (v4 + 2)) = p2) {p3 : Int32} (hi3 : vp_in (v4 + 3) L) (hp3 : xs (Int32.toNatClampNeg (v4 + 3)) = p3) (w : vLc9 G.2.2.1 Kc h x mm o p1 p2 p3) (kk : ∀ h' : gH, Kc h' → V p l e R s m args below meth c Z G A 8 h' (k + 300) (n + 5000) 2388 [(0, .ref b), (1, .ref x), (2, .ref mm), (3, .ref o), (4, .int v4)] []) : V p l e R s m args below meth c Z G A 8 h k n 832 [(0, .ref b), (1, .ref x), (2, .ref mm), (3, .ref o), (4, .int v4)] [] := by
  refine V_aloadr_n X dL_law_832 1 rfl ?_
  refine V_aloadr_n X dL_law_833 0 rfl ?_
  refine V_iload X dL_law_834 4 rfl ?_
  refine V_iconst (y := 1) X dL_law_836 (by decide) ?_
  refine V_iadd X dL_law_837 ?_
  refine V_sld (L := L) (xs := xs) X hX hbl hbA hi1 dL_law_838 ?_
  rw [hp1]
  refine V_aloadr_n X dL_law_839 0 rfl ?_
  refine V_iload X dL_law_840 4 rfl ?_
  refine V_iconst (y := 2) X dL_law_842 (by decide) ?_
  refine V_iadd X dL_law_843 ?_
  refine V_sld (L := L) (xs := xs) X hX hbl hbA hi2 dL_law_844 ?_
  rw [hp2]
  refine V_aloadr_n X dL_law_845 0 rfl ?_
  refine V_iload X dL_law_846 4 rfl ?_
  refine V_iconst (y := 3) X dL_law_848 (by decide) ?_
  refine V_iadd X dL_law_849 ?_
  refine V_sld (L := L) (xs := xs) X hX hbl hbA hi3 dL_law_850 ?_
  rw [hp3]
  refine V_aloadr_n X dL_law_851 3 rfl ?_
  refine V_callSW (As := [.ref x, .int p1, .int p2, .int p3, .ref o]) (rest := []) (k1 := k + 7) (n1 := n + 97) X hNc (cL_addTransition_ok X.2.2.2.2.2.2.2.2.1 w) lwL_159 dL_law_852 ⟨by show 8 + 1 ≤ R.frames; omega, by show 8 + (6 + 11) + 217 ≤ R.locals; omega⟩ rfl (Nat.le_of_ble_eq_true rfl) ⟨by show k + 7 ≤ R.cells; omega, by show n + 97 ≤ R.slots; omega⟩ (Nat.le_refl _) (Nat.le_refl _) (fun rk h1 w => ?_)
  refine V_istore X dL_law_855 (by decide) rfl ?_
  refine V_aloadr_n X dL_law_857 3 rfl ?_
  refine V_aloadr_n X dL_law_858 1 rfl ?_
  refine V_iload X dL_law_859 5 rfl ?_
  refine V_iconst (y := 1) X dL_law_861 (by decide) ?_
  refine V_iadd X dL_law_862 ?_
  refine V_sld (L := L) (xs := xs) X hX hbl hbA hi1 dL_law_863 ?_
  rw [hp1]
  refine V_aloadr_n X dL_law_864 1 rfl ?_
  refine V_iload X dL_law_865 5 rfl ?_
  refine V_iconst (y := 2) X dL_law_867 (by decide) ?_
  refine V_iadd X dL_law_868 ?_
  refine V_sld (L := L) (xs := xs) X hX hbl hbA hi2 dL_law_869 ?_
  rw [hp2]
  refine V_aloadr_n X dL_law_870 1 rfl ?_
  refine V_iload X dL_law_871 5 rfl ?_
  refine V_iconst (y := 3) X dL_law_873 (by decide) ?_
  refine V_iadd X dL_law_874 ?_
  refine V_sld (L := L) (xs := xs) X hX hbl hbA hi3 dL_law_875 ?_
  rw [hp3]
  obtain ⟨fs, hh, w⟩ := w
  refine V_callVi (As := [.int p1, .int p2, .int p3]) (rest := []) (k1 := k + 7 + 0) (n1 := n + 97 + 0) X (cX12_addTransition_ok X.2.2.2.2.2.2.2.2.1 w) lkL_161 hh (q9 := (RX12, TX12, 42)) rfl rfl dL_law_876 ⟨by show 2 + 1 ≤ R.frames; omega, by show 8 + (4 + 11) + 46 ≤ R.locals; omega⟩ rfl (Nat.le_of_ble_eq_true rfl) ⟨by show k + 7 + 0 ≤ R.cells; omega, by show n + 97 + 0 ≤ R.slots; omega⟩ (Nat.le_refl _) (Nat.le_refl _) (fun rb h2 w => ?_)
  refine V_istore X dL_law_879 (by decide) rfl ?_
  refine V_aloadr_n X dL_law_881 4 rfl ?_
  obtain ⟨fs, hh, w⟩ := w
  refine V_callVi (As := []) (rest := []) (k1 := k + 7 + 0 + 0) (n1 := n + 97 + 0 + 0) X (cX12_thrown_ok X.2.2.2.2.2.2.2.2.1 w) lkL_129 hh (q9 := (RX12, TX12, 42)) rfl rfl dL_law_882 ⟨by show 0 + 1 ≤ R.frames; omega, by show 8 + (1 + 11) + 0 ≤ R.locals; omega⟩ rfl (Nat.le_of_ble_eq_true rfl) ⟨by show k + 7 + 0 + 0 ≤ R.cells; omega, by show n + 97 + 0 + 0 ≤ R.slots; omega⟩ (Nat.le_refl _) (Nat.le_refl _) (fun rc h3 w => ?_)
  refine V_iload X dL_law_885 1 rfl ?_
  refine V_icmp_eq (tgt := 892) X dL_law_887 (by decide) (fun z => ?_) (fun z => absurd w.1 z)
  replace w := w.2
  refine V_iload X dL_law_892 1 rfl ?_
  have fin : V p l e R s m args below meth c Z G A 8 h3 (k + 7 + 0 + 0) (n + 97 + 0 + 0) 909 [(6, .int rb), (5, .int rk), (0, .ref b), (1, .ref x), (2, .ref mm), (3, .ref o), (4, .int v4)] [] := by
    refine V_goto (tgt := 2388) X dL_law_909 (by decide) ?_
    refine V.widen (k1 := k + 300) (n1 := n + 5000) (by omega) (by omega) ?_
    exact V.sub [2, 3, 4, 5, 6] rfl (kk _ w.2)
  refine V_if_ne (tgt := 909) X dL_law_894 (by decide) (fun z => fin) (fun z => ?_)
  refine V_aloadr_n X dL_law_897 5 rfl ?_
  refine V_iconst (y := 0) X dL_law_898 (by decide) ?_
  obtain ⟨N9, g9, hh9, hi9, w9⟩ := w.1 z
  refine V_lald X dL_law_899 hh9 hi9 ?_
  refine V_iload X dL_law_900 0 rfl ?_
  refine V_i2l X dL_law_902 ?_
  refine V_lcmp X dL_law_903 ?_
  exact V_if_eq (tgt := 909) X dL_law_904 (by decide) (fun z => fin) (fun z => absurd ((lg_cmp_eq _ _).mpr w9) z)
def vLc10 (t0 : Nat) (Kc : gH → Prop) (h : gH) (x mm o : Nat) (p1 : Int32) (p2 : Int32) (p3 : Int32) : Prop := vL_setTiming t0 (fun rk h1 => io h1 mm 15 (vX12_setTiming (fun rb h2 => io h2 mm 15 (vX12_thrown (fun rc h3 => rc = rk ∧ ((rk = 0 → ll h3 o 0 (fun y9 => y9 = Int32.toInt64 rb)) ∧ Kc h3)) h2 mm)) h1 mm p1 p2 p3)) h x p1 p2 p3 o
set_option maxRecDepth 100000 in
set_option maxHeartbeats 4000000 in
theorem tLc10 {p : Program} {l : Launch} {e : Env} {R : Room} {s : State} {m : MethodId} {args : Array Value} {below : List Frame} {meth : Method} {c : Code} {Z : State → Prop} {G : gG} {A : Nat → Prop} {h : gH} {k n b L x mm o : Nat} {xs : Nat → Int32} {v4 : Int32} {Kc : gH → Prop} (X : gC p l s m args meth c G A cL_law 8 (some .boolean) RL) (hNc : gNc s) (hX : va_X b L xs s s.heap) (hbl : b < s.heap.size) (hbA : ¬ A b) (hRf : 64 ≤ R.frames) (hRl : 2000 ≤ R.locals) (hk : k + 300 ≤ R.cells) (hn : n + 5000 ≤ R.slots) {p1 : Int32} (hi1 : vp_in (v4 + 1) L) (hp1 : xs (Int32.toNatClampNeg (v4 + 1)) = p1) {p2 : Int32} (hi2 : vp_in (v4 + 2) L) (hp2 : xs (Int32.toNatClampNeg (v4 + 2)) = p2) {p3 : Int32} (hi3 : vp_in (v4 + 3) L) (hp3 : xs (Int32.toNatClampNeg (v4 + 3)) = p3) (w : vLc10 G.2.2.1 Kc h x mm o p1 p2 p3) (kk : ∀ h' : gH, Kc h' → V p l e R s m args below meth c Z G A 8 h' (k + 300) (n + 5000) 2388 [(0, .ref b), (1, .ref x), (2, .ref mm), (3, .ref o), (4, .int v4)] []) : V p l e R s m args below meth c Z G A 8 h k n 912 [(0, .ref b), (1, .ref x), (2, .ref mm), (3, .ref o), (4, .int v4)] [] := by
  refine V_aloadr_n X dL_law_912 1 rfl ?_
  refine V_aloadr_n X dL_law_913 0 rfl ?_
  refine V_iload X dL_law_914 4 rfl ?_
  refine V_iconst (y := 1) X dL_law_916 (by decide) ?_
  refine V_iadd X dL_law_917 ?_
  refine V_sld (L := L) (xs := xs) X hX hbl hbA hi1 dL_law_918 ?_
  rw [hp1]
  refine V_aloadr_n X dL_law_919 0 rfl ?_
  refine V_iload X dL_law_920 4 rfl ?_
  refine V_iconst (y := 2) X dL_law_922 (by decide) ?_
  refine V_iadd X dL_law_923 ?_
  refine V_sld (L := L) (xs := xs) X hX hbl hbA hi2 dL_law_924 ?_
  rw [hp2]
  refine V_aloadr_n X dL_law_925 0 rfl ?_
  refine V_iload X dL_law_926 4 rfl ?_
  refine V_iconst (y := 3) X dL_law_928 (by decide) ?_
  refine V_iadd X dL_law_929 ?_
  refine V_sld (L := L) (xs := xs) X hX hbl hbA hi3 dL_law_930 ?_
  rw [hp3]
  refine V_aloadr_n X dL_law_931 3 rfl ?_
  refine V_callSW (As := [.ref x, .int p1, .int p2, .int p3, .ref o]) (rest := []) (k1 := k + 2) (n1 := n + 12) X hNc (cL_setTiming_ok X.2.2.2.2.2.2.2.2.1 w) lwL_162 dL_law_932 ⟨by show 8 + 1 ≤ R.frames; omega, by show 8 + (6 + 11) + 136 ≤ R.locals; omega⟩ rfl (Nat.le_of_ble_eq_true rfl) ⟨by show k + 2 ≤ R.cells; omega, by show n + 12 ≤ R.slots; omega⟩ (Nat.le_refl _) (Nat.le_refl _) (fun rk h1 w => ?_)
  refine V_istore X dL_law_935 (by decide) rfl ?_
  refine V_aloadr_n X dL_law_937 3 rfl ?_
  refine V_aloadr_n X dL_law_938 1 rfl ?_
  refine V_iload X dL_law_939 5 rfl ?_
  refine V_iconst (y := 1) X dL_law_941 (by decide) ?_
  refine V_iadd X dL_law_942 ?_
  refine V_sld (L := L) (xs := xs) X hX hbl hbA hi1 dL_law_943 ?_
  rw [hp1]
  refine V_aloadr_n X dL_law_944 1 rfl ?_
  refine V_iload X dL_law_945 5 rfl ?_
  refine V_iconst (y := 2) X dL_law_947 (by decide) ?_
  refine V_iadd X dL_law_948 ?_
  refine V_sld (L := L) (xs := xs) X hX hbl hbA hi2 dL_law_949 ?_
  rw [hp2]
  refine V_aloadr_n X dL_law_950 1 rfl ?_
  refine V_iload X dL_law_951 5 rfl ?_
  refine V_iconst (y := 3) X dL_law_953 (by decide) ?_
  refine V_iadd X dL_law_954 ?_
  refine V_sld (L := L) (xs := xs) X hX hbl hbA hi3 dL_law_955 ?_
  rw [hp3]
  obtain ⟨fs, hh, w⟩ := w
  refine V_callVi (As := [.int p1, .int p2, .int p3]) (rest := []) (k1 := k + 2 + 0) (n1 := n + 12 + 0) X (cX12_setTiming_ok X.2.2.2.2.2.2.2.2.1 w) lkL_164 hh (q9 := (RX12, TX12, 42)) rfl rfl dL_law_956 ⟨by show 2 + 1 ≤ R.frames; omega, by show 8 + (5 + 11) + 46 ≤ R.locals; omega⟩ rfl (Nat.le_of_ble_eq_true rfl) ⟨by show k + 2 + 0 ≤ R.cells; omega, by show n + 12 + 0 ≤ R.slots; omega⟩ (Nat.le_refl _) (Nat.le_refl _) (fun rb h2 w => ?_)
  refine V_istore X dL_law_959 (by decide) rfl ?_
  refine V_aloadr_n X dL_law_961 4 rfl ?_
  obtain ⟨fs, hh, w⟩ := w
  refine V_callVi (As := []) (rest := []) (k1 := k + 2 + 0 + 0) (n1 := n + 12 + 0 + 0) X (cX12_thrown_ok X.2.2.2.2.2.2.2.2.1 w) lkL_129 hh (q9 := (RX12, TX12, 42)) rfl rfl dL_law_962 ⟨by show 0 + 1 ≤ R.frames; omega, by show 8 + (1 + 11) + 0 ≤ R.locals; omega⟩ rfl (Nat.le_of_ble_eq_true rfl) ⟨by show k + 2 + 0 + 0 ≤ R.cells; omega, by show n + 12 + 0 + 0 ≤ R.slots; omega⟩ (Nat.le_refl _) (Nat.le_refl _) (fun rc h3 w => ?_)
  refine V_iload X dL_law_965 1 rfl ?_
  refine V_icmp_eq (tgt := 972) X dL_law_967 (by decide) (fun z => ?_) (fun z => absurd w.1 z)
  replace w := w.2
  refine V_iload X dL_law_972 1 rfl ?_
  have fin : V p l e R s m args below meth c Z G A 8 h3 (k + 2 + 0 + 0) (n + 12 + 0 + 0) 989 [(6, .int rb), (5, .int rk), (0, .ref b), (1, .ref x), (2, .ref mm), (3, .ref o), (4, .int v4)] [] := by
    refine V_goto (tgt := 2388) X dL_law_989 (by decide) ?_
    refine V.widen (k1 := k + 300) (n1 := n + 5000) (by omega) (by omega) ?_
    exact V.sub [2, 3, 4, 5, 6] rfl (kk _ w.2)
  refine V_if_ne (tgt := 989) X dL_law_974 (by decide) (fun z => fin) (fun z => ?_)
  refine V_aloadr_n X dL_law_977 5 rfl ?_
  refine V_iconst (y := 0) X dL_law_978 (by decide) ?_
  obtain ⟨N9, g9, hh9, hi9, w9⟩ := w.1 z
  refine V_lald X dL_law_979 hh9 hi9 ?_
  refine V_iload X dL_law_980 0 rfl ?_
  refine V_i2l X dL_law_982 ?_
  refine V_lcmp X dL_law_983 ?_
  exact V_if_eq (tgt := 989) X dL_law_984 (by decide) (fun z => fin) (fun z => absurd ((lg_cmp_eq _ _).mpr w9) z)
def vLc11 (t0 : Nat) (Kc : gH → Prop) (h : gH) (x mm o : Nat) (p1 : Int32) (p2 : Int32) (p3 : Int32) : Prop := vL_setInterruption t0 (fun rk h1 => io h1 mm 15 (vX12_setInterruption (fun rb h2 => io h2 mm 15 (vX12_thrown (fun rc h3 => rc = rk ∧ ((rk = 0 → ll h3 o 0 (fun y9 => y9 = Int32.toInt64 rb)) ∧ Kc h3)) h2 mm)) h1 mm p1 p2 (bz p3))) h x p1 p2 (bz p3) o
set_option maxRecDepth 100000 in
set_option maxHeartbeats 4000000 in
theorem tLc11 {p : Program} {l : Launch} {e : Env} {R : Room} {s : State} {m : MethodId} {args : Array Value} {below : List Frame} {meth : Method} {c : Code} {Z : State → Prop} {G : gG} {A : Nat → Prop} {h : gH} {k n b L x mm o : Nat} {xs : Nat → Int32} {v4 : Int32} {Kc : gH → Prop} (X : gC p l s m args meth c G A cL_law 8 (some .boolean) RL) (hNc : gNc s) (hX : va_X b L xs s s.heap) (hbl : b < s.heap.size) (hbA : ¬ A b) (hRf : 64 ≤ R.frames) (hRl : 2000 ≤ R.locals) (hk : k + 300 ≤ R.cells) (hn : n + 5000 ≤ R.slots) {p1 : Int32} (hi1 : vp_in (v4 + 1) L) (hp1 : xs (Int32.toNatClampNeg (v4 + 1)) = p1) {p2 : Int32} (hi2 : vp_in (v4 + 2) L) (hp2 : xs (Int32.toNatClampNeg (v4 + 2)) = p2) {p3 : Int32} (hi3 : vp_in (v4 + 3) L) (hp3 : xs (Int32.toNatClampNeg (v4 + 3)) = p3) (w : vLc11 G.2.2.1 Kc h x mm o p1 p2 p3) (kk : ∀ h' : gH, Kc h' → V p l e R s m args below meth c Z G A 8 h' (k + 300) (n + 5000) 2388 [(0, .ref b), (1, .ref x), (2, .ref mm), (3, .ref o), (4, .int v4)] []) : V p l e R s m args below meth c Z G A 8 h k n 992 [(0, .ref b), (1, .ref x), (2, .ref mm), (3, .ref o), (4, .int v4)] [] := by
  refine V_aloadr_n X dL_law_992 1 rfl ?_
  refine V_aloadr_n X dL_law_993 0 rfl ?_
  refine V_iload X dL_law_994 4 rfl ?_
  refine V_iconst (y := 1) X dL_law_996 (by decide) ?_
  refine V_iadd X dL_law_997 ?_
  refine V_sld (L := L) (xs := xs) X hX hbl hbA hi1 dL_law_998 ?_
  rw [hp1]
  refine V_aloadr_n X dL_law_999 0 rfl ?_
  refine V_iload X dL_law_1000 4 rfl ?_
  refine V_iconst (y := 2) X dL_law_1002 (by decide) ?_
  refine V_iadd X dL_law_1003 ?_
  refine V_sld (L := L) (xs := xs) X hX hbl hbA hi2 dL_law_1004 ?_
  rw [hp2]
  refine V_aloadr_n X dL_law_1005 0 rfl ?_
  refine V_iload X dL_law_1006 4 rfl ?_
  refine V_iconst (y := 3) X dL_law_1008 (by decide) ?_
  refine V_iadd X dL_law_1009 ?_
  refine V_sld (L := L) (xs := xs) X hX hbl hbA hi3 dL_law_1010 ?_
  rw [hp3]
  refine V_bool (t1 := 1018) (t2 := 1019) X dL_law_1011 dL_law_1014 dL_law_1015 dL_law_1018 (by decide) (by decide) rfl ?_
  refine V_aloadr_n X dL_law_1019 3 rfl ?_
  refine V_callSW (As := [.ref x, .int p1, .int p2, .int (bz p3), .ref o]) (rest := []) (k1 := k + 2) (n1 := n + 12) X hNc (cL_setInterruption_ok X.2.2.2.2.2.2.2.2.1 w) lwL_165 dL_law_1020 ⟨by show 8 + 1 ≤ R.frames; omega, by show 8 + (6 + 11) + 136 ≤ R.locals; omega⟩ rfl (Nat.le_of_ble_eq_true rfl) ⟨by show k + 2 ≤ R.cells; omega, by show n + 12 ≤ R.slots; omega⟩ (Nat.le_refl _) (Nat.le_refl _) (fun rk h1 w => ?_)
  refine V_istore X dL_law_1023 (by decide) rfl ?_
  refine V_aloadr_n X dL_law_1025 3 rfl ?_
  refine V_aloadr_n X dL_law_1026 1 rfl ?_
  refine V_iload X dL_law_1027 5 rfl ?_
  refine V_iconst (y := 1) X dL_law_1029 (by decide) ?_
  refine V_iadd X dL_law_1030 ?_
  refine V_sld (L := L) (xs := xs) X hX hbl hbA hi1 dL_law_1031 ?_
  rw [hp1]
  refine V_aloadr_n X dL_law_1032 1 rfl ?_
  refine V_iload X dL_law_1033 5 rfl ?_
  refine V_iconst (y := 2) X dL_law_1035 (by decide) ?_
  refine V_iadd X dL_law_1036 ?_
  refine V_sld (L := L) (xs := xs) X hX hbl hbA hi2 dL_law_1037 ?_
  rw [hp2]
  refine V_aloadr_n X dL_law_1038 1 rfl ?_
  refine V_iload X dL_law_1039 5 rfl ?_
  refine V_iconst (y := 3) X dL_law_1041 (by decide) ?_
  refine V_iadd X dL_law_1042 ?_
  refine V_sld (L := L) (xs := xs) X hX hbl hbA hi3 dL_law_1043 ?_
  rw [hp3]
  refine V_bool (t1 := 1051) (t2 := 1052) X dL_law_1044 dL_law_1047 dL_law_1048 dL_law_1051 (by decide) (by decide) rfl ?_
  obtain ⟨fs, hh, w⟩ := w
  refine V_callVi (As := [.int p1, .int p2, .int (bz p3)]) (rest := []) (k1 := k + 2 + 0) (n1 := n + 12 + 0) X (cX12_setInterruption_ok X.2.2.2.2.2.2.2.2.1 w) lkL_168 hh (q9 := (RX12, TX12, 42)) rfl rfl dL_law_1052 ⟨by show 2 + 1 ≤ R.frames; omega, by show 8 + (5 + 11) + 46 ≤ R.locals; omega⟩ rfl (Nat.le_of_ble_eq_true rfl) ⟨by show k + 2 + 0 ≤ R.cells; omega, by show n + 12 + 0 ≤ R.slots; omega⟩ (Nat.le_refl _) (Nat.le_refl _) (fun rb h2 w => ?_)
  refine V_istore X dL_law_1055 (by decide) rfl ?_
  refine V_aloadr_n X dL_law_1057 4 rfl ?_
  obtain ⟨fs, hh, w⟩ := w
  refine V_callVi (As := []) (rest := []) (k1 := k + 2 + 0 + 0) (n1 := n + 12 + 0 + 0) X (cX12_thrown_ok X.2.2.2.2.2.2.2.2.1 w) lkL_129 hh (q9 := (RX12, TX12, 42)) rfl rfl dL_law_1058 ⟨by show 0 + 1 ≤ R.frames; omega, by show 8 + (1 + 11) + 0 ≤ R.locals; omega⟩ rfl (Nat.le_of_ble_eq_true rfl) ⟨by show k + 2 + 0 + 0 ≤ R.cells; omega, by show n + 12 + 0 + 0 ≤ R.slots; omega⟩ (Nat.le_refl _) (Nat.le_refl _) (fun rc h3 w => ?_)
  refine V_iload X dL_law_1061 1 rfl ?_
  refine V_icmp_eq (tgt := 1068) X dL_law_1063 (by decide) (fun z => ?_) (fun z => absurd w.1 z)
  replace w := w.2
  refine V_iload X dL_law_1068 1 rfl ?_
  have fin : V p l e R s m args below meth c Z G A 8 h3 (k + 2 + 0 + 0) (n + 12 + 0 + 0) 1085 [(6, .int rb), (5, .int rk), (0, .ref b), (1, .ref x), (2, .ref mm), (3, .ref o), (4, .int v4)] [] := by
    refine V_goto (tgt := 2388) X dL_law_1085 (by decide) ?_
    refine V.widen (k1 := k + 300) (n1 := n + 5000) (by omega) (by omega) ?_
    exact V.sub [2, 3, 4, 5, 6] rfl (kk _ w.2)
  refine V_if_ne (tgt := 1085) X dL_law_1070 (by decide) (fun z => fin) (fun z => ?_)
  refine V_aloadr_n X dL_law_1073 5 rfl ?_
  refine V_iconst (y := 0) X dL_law_1074 (by decide) ?_
  obtain ⟨N9, g9, hh9, hi9, w9⟩ := w.1 z
  refine V_lald X dL_law_1075 hh9 hi9 ?_
  refine V_iload X dL_law_1076 0 rfl ?_
  refine V_i2l X dL_law_1078 ?_
  refine V_lcmp X dL_law_1079 ?_
  exact V_if_eq (tgt := 1085) X dL_law_1080 (by decide) (fun z => fin) (fun z => absurd ((lg_cmp_eq _ _).mpr w9) z)
def vLc12 (t0 : Nat) (Kc : gH → Prop) (h : gH) (x mm o : Nat) (p1 : Int32) (p2 : Int32) (p3 : Int32) (p4 : Int32) : Prop := vL_addCondition t0 (fun rk h1 => io h1 mm 15 (vX12_addCondition (fun rb h2 => io h2 mm 15 (vX12_thrown (fun rc h3 => rc = rk ∧ ((rk = 0 → ll h3 o 0 (fun y9 => y9 = Int32.toInt64 rb)) ∧ Kc h3)) h2 mm)) h1 mm p1 p2 p3 p4)) h x p1 p2 p3 p4 o
set_option maxRecDepth 100000 in
set_option maxHeartbeats 4000000 in
theorem tLc12 {p : Program} {l : Launch} {e : Env} {R : Room} {s : State} {m : MethodId} {args : Array Value} {below : List Frame} {meth : Method} {c : Code} {Z : State → Prop} {G : gG} {A : Nat → Prop} {h : gH} {k n b L x mm o : Nat} {xs : Nat → Int32} {v4 : Int32} {Kc : gH → Prop} (X : gC p l s m args meth c G A cL_law 8 (some .boolean) RL) (hNc : gNc s) (hX : va_X b L xs s s.heap) (hbl : b < s.heap.size) (hbA : ¬ A b) (hRf : 64 ≤ R.frames) (hRl : 2000 ≤ R.locals) (hk : k + 300 ≤ R.cells) (hn : n + 5000 ≤ R.slots) {p1 : Int32} (hi1 : vp_in (v4 + 1) L) (hp1 : xs (Int32.toNatClampNeg (v4 + 1)) = p1) {p2 : Int32} (hi2 : vp_in (v4 + 2) L) (hp2 : xs (Int32.toNatClampNeg (v4 + 2)) = p2) {p3 : Int32} (hi3 : vp_in (v4 + 3) L) (hp3 : xs (Int32.toNatClampNeg (v4 + 3)) = p3) {p4 : Int32} (hi4 : vp_in (v4 + 4) L) (hp4 : xs (Int32.toNatClampNeg (v4 + 4)) = p4) (w : vLc12 G.2.2.1 Kc h x mm o p1 p2 p3 p4) (kk : ∀ h' : gH, Kc h' → V p l e R s m args below meth c Z G A 8 h' (k + 300) (n + 5000) 2388 [(0, .ref b), (1, .ref x), (2, .ref mm), (3, .ref o), (4, .int v4)] []) : V p l e R s m args below meth c Z G A 8 h k n 1088 [(0, .ref b), (1, .ref x), (2, .ref mm), (3, .ref o), (4, .int v4)] [] := by
  refine V_aloadr_n X dL_law_1088 1 rfl ?_
  refine V_aloadr_n X dL_law_1089 0 rfl ?_
  refine V_iload X dL_law_1090 4 rfl ?_
  refine V_iconst (y := 1) X dL_law_1092 (by decide) ?_
  refine V_iadd X dL_law_1093 ?_
  refine V_sld (L := L) (xs := xs) X hX hbl hbA hi1 dL_law_1094 ?_
  rw [hp1]
  refine V_aloadr_n X dL_law_1095 0 rfl ?_
  refine V_iload X dL_law_1096 4 rfl ?_
  refine V_iconst (y := 2) X dL_law_1098 (by decide) ?_
  refine V_iadd X dL_law_1099 ?_
  refine V_sld (L := L) (xs := xs) X hX hbl hbA hi2 dL_law_1100 ?_
  rw [hp2]
  refine V_aloadr_n X dL_law_1101 0 rfl ?_
  refine V_iload X dL_law_1102 4 rfl ?_
  refine V_iconst (y := 3) X dL_law_1104 (by decide) ?_
  refine V_iadd X dL_law_1105 ?_
  refine V_sld (L := L) (xs := xs) X hX hbl hbA hi3 dL_law_1106 ?_
  rw [hp3]
  refine V_aloadr_n X dL_law_1107 0 rfl ?_
  refine V_iload X dL_law_1108 4 rfl ?_
  refine V_iconst (y := 4) X dL_law_1110 (by decide) ?_
  refine V_iadd X dL_law_1111 ?_
  refine V_sld (L := L) (xs := xs) X hX hbl hbA hi4 dL_law_1112 ?_
  rw [hp4]
  refine V_aloadr_n X dL_law_1113 3 rfl ?_
  refine V_callSW (As := [.ref x, .int p1, .int p2, .int p3, .int p4, .ref o]) (rest := []) (k1 := k + 3) (n1 := n + 18) X hNc (cL_addCondition_ok X.2.2.2.2.2.2.2.2.1 w) lwL_169 dL_law_1114 ⟨by show 8 + 1 ≤ R.frames; omega, by show 8 + (7 + 11) + 136 ≤ R.locals; omega⟩ rfl (Nat.le_of_ble_eq_true rfl) ⟨by show k + 3 ≤ R.cells; omega, by show n + 18 ≤ R.slots; omega⟩ (Nat.le_refl _) (Nat.le_refl _) (fun rk h1 w => ?_)
  refine V_istore X dL_law_1117 (by decide) rfl ?_
  refine V_aloadr_n X dL_law_1119 3 rfl ?_
  refine V_aloadr_n X dL_law_1120 1 rfl ?_
  refine V_iload X dL_law_1121 5 rfl ?_
  refine V_iconst (y := 1) X dL_law_1123 (by decide) ?_
  refine V_iadd X dL_law_1124 ?_
  refine V_sld (L := L) (xs := xs) X hX hbl hbA hi1 dL_law_1125 ?_
  rw [hp1]
  refine V_aloadr_n X dL_law_1126 1 rfl ?_
  refine V_iload X dL_law_1127 5 rfl ?_
  refine V_iconst (y := 2) X dL_law_1129 (by decide) ?_
  refine V_iadd X dL_law_1130 ?_
  refine V_sld (L := L) (xs := xs) X hX hbl hbA hi2 dL_law_1131 ?_
  rw [hp2]
  refine V_aloadr_n X dL_law_1132 1 rfl ?_
  refine V_iload X dL_law_1133 5 rfl ?_
  refine V_iconst (y := 3) X dL_law_1135 (by decide) ?_
  refine V_iadd X dL_law_1136 ?_
  refine V_sld (L := L) (xs := xs) X hX hbl hbA hi3 dL_law_1137 ?_
  rw [hp3]
  refine V_aloadr_n X dL_law_1138 1 rfl ?_
  refine V_iload X dL_law_1139 5 rfl ?_
  refine V_iconst (y := 4) X dL_law_1141 (by decide) ?_
  refine V_iadd X dL_law_1142 ?_
  refine V_sld (L := L) (xs := xs) X hX hbl hbA hi4 dL_law_1143 ?_
  rw [hp4]
  obtain ⟨fs, hh, w⟩ := w
  refine V_callVi (As := [.int p1, .int p2, .int p3, .int p4]) (rest := []) (k1 := k + 3 + 0) (n1 := n + 18 + 0) X (cX12_addCondition_ok X.2.2.2.2.2.2.2.2.1 w) lkL_172 hh (q9 := (RX12, TX12, 42)) rfl rfl dL_law_1144 ⟨by show 2 + 1 ≤ R.frames; omega, by show 8 + (7 + 11) + 47 ≤ R.locals; omega⟩ rfl (Nat.le_of_ble_eq_true rfl) ⟨by show k + 3 + 0 ≤ R.cells; omega, by show n + 18 + 0 ≤ R.slots; omega⟩ (Nat.le_refl _) (Nat.le_refl _) (fun rb h2 w => ?_)
  refine V_istore X dL_law_1147 (by decide) rfl ?_
  refine V_aloadr_n X dL_law_1149 4 rfl ?_
  obtain ⟨fs, hh, w⟩ := w
  refine V_callVi (As := []) (rest := []) (k1 := k + 3 + 0 + 0) (n1 := n + 18 + 0 + 0) X (cX12_thrown_ok X.2.2.2.2.2.2.2.2.1 w) lkL_129 hh (q9 := (RX12, TX12, 42)) rfl rfl dL_law_1150 ⟨by show 0 + 1 ≤ R.frames; omega, by show 8 + (1 + 11) + 0 ≤ R.locals; omega⟩ rfl (Nat.le_of_ble_eq_true rfl) ⟨by show k + 3 + 0 + 0 ≤ R.cells; omega, by show n + 18 + 0 + 0 ≤ R.slots; omega⟩ (Nat.le_refl _) (Nat.le_refl _) (fun rc h3 w => ?_)
  refine V_iload X dL_law_1153 1 rfl ?_
  refine V_icmp_eq (tgt := 1160) X dL_law_1155 (by decide) (fun z => ?_) (fun z => absurd w.1 z)
  replace w := w.2
  refine V_iload X dL_law_1160 1 rfl ?_
  have fin : V p l e R s m args below meth c Z G A 8 h3 (k + 3 + 0 + 0) (n + 18 + 0 + 0) 1177 [(6, .int rb), (5, .int rk), (0, .ref b), (1, .ref x), (2, .ref mm), (3, .ref o), (4, .int v4)] [] := by
    refine V_goto (tgt := 2388) X dL_law_1177 (by decide) ?_
    refine V.widen (k1 := k + 300) (n1 := n + 5000) (by omega) (by omega) ?_
    exact V.sub [2, 3, 4, 5, 6] rfl (kk _ w.2)
  refine V_if_ne (tgt := 1177) X dL_law_1162 (by decide) (fun z => fin) (fun z => ?_)
  refine V_aloadr_n X dL_law_1165 5 rfl ?_
  refine V_iconst (y := 0) X dL_law_1166 (by decide) ?_
  obtain ⟨N9, g9, hh9, hi9, w9⟩ := w.1 z
  refine V_lald X dL_law_1167 hh9 hi9 ?_
  refine V_iload X dL_law_1168 0 rfl ?_
  refine V_i2l X dL_law_1170 ?_
  refine V_lcmp X dL_law_1171 ?_
  exact V_if_eq (tgt := 1177) X dL_law_1172 (by decide) (fun z => fin) (fun z => absurd ((lg_cmp_eq _ _).mpr w9) z)
def vLc13 (t0 : Nat) (Kc : gH → Prop) (h : gH) (x mm o : Nat) (p1 : Int32) : Prop := vL_setThreshold t0 (fun rk h1 => io h1 mm 15 (vX12_setThreshold (fun rb h2 => io h2 mm 15 (vX12_thrown (fun rc h3 => rc = rk ∧ ((rk = 0 → ll h3 o 0 (fun y9 => y9 = Int32.toInt64 rb)) ∧ Kc h3)) h2 mm)) h1 mm p1)) h x p1 o
set_option maxRecDepth 100000 in
set_option maxHeartbeats 4000000 in
theorem tLc13 {p : Program} {l : Launch} {e : Env} {R : Room} {s : State} {m : MethodId} {args : Array Value} {below : List Frame} {meth : Method} {c : Code} {Z : State → Prop} {G : gG} {A : Nat → Prop} {h : gH} {k n b L x mm o : Nat} {xs : Nat → Int32} {v4 : Int32} {Kc : gH → Prop} (X : gC p l s m args meth c G A cL_law 8 (some .boolean) RL) (hNc : gNc s) (hX : va_X b L xs s s.heap) (hbl : b < s.heap.size) (hbA : ¬ A b) (hRf : 64 ≤ R.frames) (hRl : 2000 ≤ R.locals) (hk : k + 300 ≤ R.cells) (hn : n + 5000 ≤ R.slots) {p1 : Int32} (hi1 : vp_in (v4 + 1) L) (hp1 : xs (Int32.toNatClampNeg (v4 + 1)) = p1) (w : vLc13 G.2.2.1 Kc h x mm o p1) (kk : ∀ h' : gH, Kc h' → V p l e R s m args below meth c Z G A 8 h' (k + 300) (n + 5000) 2388 [(0, .ref b), (1, .ref x), (2, .ref mm), (3, .ref o), (4, .int v4)] []) : V p l e R s m args below meth c Z G A 8 h k n 1180 [(0, .ref b), (1, .ref x), (2, .ref mm), (3, .ref o), (4, .int v4)] [] := by
  refine V_aloadr_n X dL_law_1180 1 rfl ?_
  refine V_aloadr_n X dL_law_1181 0 rfl ?_
  refine V_iload X dL_law_1182 4 rfl ?_
  refine V_iconst (y := 1) X dL_law_1184 (by decide) ?_
  refine V_iadd X dL_law_1185 ?_
  refine V_sld (L := L) (xs := xs) X hX hbl hbA hi1 dL_law_1186 ?_
  rw [hp1]
  refine V_aloadr_n X dL_law_1187 3 rfl ?_
  refine V_callSW (As := [.ref x, .int p1, .ref o]) (rest := []) (k1 := k + 1) (n1 := n + 6) X hNc (cL_setThreshold_ok X.2.2.2.2.2.2.2.2.1 w) lwL_173 dL_law_1188 ⟨by show 7 + 1 ≤ R.frames; omega, by show 8 + (4 + 11) + 112 ≤ R.locals; omega⟩ rfl (Nat.le_of_ble_eq_true rfl) ⟨by show k + 1 ≤ R.cells; omega, by show n + 6 ≤ R.slots; omega⟩ (Nat.le_refl _) (Nat.le_refl _) (fun rk h1 w => ?_)
  refine V_istore X dL_law_1191 (by decide) rfl ?_
  refine V_aloadr_n X dL_law_1193 3 rfl ?_
  refine V_aloadr_n X dL_law_1194 1 rfl ?_
  refine V_iload X dL_law_1195 5 rfl ?_
  refine V_iconst (y := 1) X dL_law_1197 (by decide) ?_
  refine V_iadd X dL_law_1198 ?_
  refine V_sld (L := L) (xs := xs) X hX hbl hbA hi1 dL_law_1199 ?_
  rw [hp1]
  obtain ⟨fs, hh, w⟩ := w
  refine V_callVi (As := [.int p1]) (rest := []) (k1 := k + 1 + 0) (n1 := n + 6 + 0) X (cX12_setThreshold_ok X.2.2.2.2.2.2.2.2.1 w) lkL_175 hh (q9 := (RX12, TX12, 42)) rfl rfl dL_law_1200 ⟨by show 1 + 1 ≤ R.frames; omega, by show 8 + (3 + 11) + 25 ≤ R.locals; omega⟩ rfl (Nat.le_of_ble_eq_true rfl) ⟨by show k + 1 + 0 ≤ R.cells; omega, by show n + 6 + 0 ≤ R.slots; omega⟩ (Nat.le_refl _) (Nat.le_refl _) (fun rb h2 w => ?_)
  refine V_istore X dL_law_1203 (by decide) rfl ?_
  refine V_aloadr_n X dL_law_1205 4 rfl ?_
  obtain ⟨fs, hh, w⟩ := w
  refine V_callVi (As := []) (rest := []) (k1 := k + 1 + 0 + 0) (n1 := n + 6 + 0 + 0) X (cX12_thrown_ok X.2.2.2.2.2.2.2.2.1 w) lkL_129 hh (q9 := (RX12, TX12, 42)) rfl rfl dL_law_1206 ⟨by show 0 + 1 ≤ R.frames; omega, by show 8 + (1 + 11) + 0 ≤ R.locals; omega⟩ rfl (Nat.le_of_ble_eq_true rfl) ⟨by show k + 1 + 0 + 0 ≤ R.cells; omega, by show n + 6 + 0 + 0 ≤ R.slots; omega⟩ (Nat.le_refl _) (Nat.le_refl _) (fun rc h3 w => ?_)
  refine V_iload X dL_law_1209 1 rfl ?_
  refine V_icmp_eq (tgt := 1216) X dL_law_1211 (by decide) (fun z => ?_) (fun z => absurd w.1 z)
  replace w := w.2
  refine V_iload X dL_law_1216 1 rfl ?_
  have fin : V p l e R s m args below meth c Z G A 8 h3 (k + 1 + 0 + 0) (n + 6 + 0 + 0) 1233 [(6, .int rb), (5, .int rk), (0, .ref b), (1, .ref x), (2, .ref mm), (3, .ref o), (4, .int v4)] [] := by
    refine V_goto (tgt := 2388) X dL_law_1233 (by decide) ?_
    refine V.widen (k1 := k + 300) (n1 := n + 5000) (by omega) (by omega) ?_
    exact V.sub [2, 3, 4, 5, 6] rfl (kk _ w.2)
  refine V_if_ne (tgt := 1233) X dL_law_1218 (by decide) (fun z => fin) (fun z => ?_)
  refine V_aloadr_n X dL_law_1221 5 rfl ?_
  refine V_iconst (y := 0) X dL_law_1222 (by decide) ?_
  obtain ⟨N9, g9, hh9, hi9, w9⟩ := w.1 z
  refine V_lald X dL_law_1223 hh9 hi9 ?_
  refine V_iload X dL_law_1224 0 rfl ?_
  refine V_i2l X dL_law_1226 ?_
  refine V_lcmp X dL_law_1227 ?_
  exact V_if_eq (tgt := 1233) X dL_law_1228 (by decide) (fun z => fin) (fun z => absurd ((lg_cmp_eq _ _).mpr w9) z)
def vLc14 (t0 : Nat) (Kc : gH → Prop) (h : gH) (x mm o : Nat) (p1 : Int32) : Prop := vL_type t0 (fun rk h1 => io h1 mm 15 (vX12_type (fun rb h2 => io h2 mm 15 (vX12_thrown (fun rc h3 => rc = rk ∧ ((rk = 0 → ll h3 o 0 (fun y9 => y9 = Int32.toInt64 rb)) ∧ Kc h3)) h2 mm)) h1 mm p1)) h x p1 o
set_option maxRecDepth 100000 in
set_option maxHeartbeats 4000000 in
theorem tLc14 {p : Program} {l : Launch} {e : Env} {R : Room} {s : State} {m : MethodId} {args : Array Value} {below : List Frame} {meth : Method} {c : Code} {Z : State → Prop} {G : gG} {A : Nat → Prop} {h : gH} {k n b L x mm o : Nat} {xs : Nat → Int32} {v4 : Int32} {Kc : gH → Prop} (X : gC p l s m args meth c G A cL_law 8 (some .boolean) RL) (hNc : gNc s) (hX : va_X b L xs s s.heap) (hbl : b < s.heap.size) (hbA : ¬ A b) (hRf : 64 ≤ R.frames) (hRl : 2000 ≤ R.locals) (hk : k + 300 ≤ R.cells) (hn : n + 5000 ≤ R.slots) {p1 : Int32} (hi1 : vp_in (v4 + 1) L) (hp1 : xs (Int32.toNatClampNeg (v4 + 1)) = p1) (w : vLc14 G.2.2.1 Kc h x mm o p1) (kk : ∀ h' : gH, Kc h' → V p l e R s m args below meth c Z G A 8 h' (k + 300) (n + 5000) 2388 [(0, .ref b), (1, .ref x), (2, .ref mm), (3, .ref o), (4, .int v4)] []) : V p l e R s m args below meth c Z G A 8 h k n 1236 [(0, .ref b), (1, .ref x), (2, .ref mm), (3, .ref o), (4, .int v4)] [] := by
  refine V_aloadr_n X dL_law_1236 1 rfl ?_
  refine V_aloadr_n X dL_law_1237 0 rfl ?_
  refine V_iload X dL_law_1238 4 rfl ?_
  refine V_iconst (y := 1) X dL_law_1240 (by decide) ?_
  refine V_iadd X dL_law_1241 ?_
  refine V_sld (L := L) (xs := xs) X hX hbl hbA hi1 dL_law_1242 ?_
  rw [hp1]
  refine V_aloadr_n X dL_law_1243 3 rfl ?_
  refine V_callSW (As := [.ref x, .int p1, .ref o]) (rest := []) (k1 := k + 1) (n1 := n + 6) X hNc (cL_type_ok X.2.2.2.2.2.2.2.2.1 w) lwL_176 dL_law_1244 ⟨by show 7 + 1 ≤ R.frames; omega, by show 8 + (4 + 11) + 111 ≤ R.locals; omega⟩ rfl (Nat.le_of_ble_eq_true rfl) ⟨by show k + 1 ≤ R.cells; omega, by show n + 6 ≤ R.slots; omega⟩ (Nat.le_refl _) (Nat.le_refl _) (fun rk h1 w => ?_)
  refine V_istore X dL_law_1247 (by decide) rfl ?_
  refine V_aloadr_n X dL_law_1249 3 rfl ?_
  refine V_aloadr_n X dL_law_1250 1 rfl ?_
  refine V_iload X dL_law_1251 5 rfl ?_
  refine V_iconst (y := 1) X dL_law_1253 (by decide) ?_
  refine V_iadd X dL_law_1254 ?_
  refine V_sld (L := L) (xs := xs) X hX hbl hbA hi1 dL_law_1255 ?_
  rw [hp1]
  obtain ⟨fs, hh, w⟩ := w
  refine V_callVi (As := [.int p1]) (rest := []) (k1 := k + 1 + 0) (n1 := n + 6 + 0) X (cX12_type_ok X.2.2.2.2.2.2.2.2.1 w) lkL_178 hh (q9 := (RX12, TX12, 42)) rfl rfl dL_law_1256 ⟨by show 1 + 1 ≤ R.frames; omega, by show 8 + (2 + 11) + 25 ≤ R.locals; omega⟩ rfl (Nat.le_of_ble_eq_true rfl) ⟨by show k + 1 + 0 ≤ R.cells; omega, by show n + 6 + 0 ≤ R.slots; omega⟩ (Nat.le_refl _) (Nat.le_refl _) (fun rb h2 w => ?_)
  refine V_istore X dL_law_1259 (by decide) rfl ?_
  refine V_aloadr_n X dL_law_1261 4 rfl ?_
  obtain ⟨fs, hh, w⟩ := w
  refine V_callVi (As := []) (rest := []) (k1 := k + 1 + 0 + 0) (n1 := n + 6 + 0 + 0) X (cX12_thrown_ok X.2.2.2.2.2.2.2.2.1 w) lkL_129 hh (q9 := (RX12, TX12, 42)) rfl rfl dL_law_1262 ⟨by show 0 + 1 ≤ R.frames; omega, by show 8 + (1 + 11) + 0 ≤ R.locals; omega⟩ rfl (Nat.le_of_ble_eq_true rfl) ⟨by show k + 1 + 0 + 0 ≤ R.cells; omega, by show n + 6 + 0 + 0 ≤ R.slots; omega⟩ (Nat.le_refl _) (Nat.le_refl _) (fun rc h3 w => ?_)
  refine V_iload X dL_law_1265 1 rfl ?_
  refine V_icmp_eq (tgt := 1272) X dL_law_1267 (by decide) (fun z => ?_) (fun z => absurd w.1 z)
  replace w := w.2
  refine V_iload X dL_law_1272 1 rfl ?_
  have fin : V p l e R s m args below meth c Z G A 8 h3 (k + 1 + 0 + 0) (n + 6 + 0 + 0) 1289 [(6, .int rb), (5, .int rk), (0, .ref b), (1, .ref x), (2, .ref mm), (3, .ref o), (4, .int v4)] [] := by
    refine V_goto (tgt := 2388) X dL_law_1289 (by decide) ?_
    refine V.widen (k1 := k + 300) (n1 := n + 5000) (by omega) (by omega) ?_
    exact V.sub [2, 3, 4, 5, 6] rfl (kk _ w.2)
  refine V_if_ne (tgt := 1289) X dL_law_1274 (by decide) (fun z => fin) (fun z => ?_)
  refine V_aloadr_n X dL_law_1277 5 rfl ?_
  refine V_iconst (y := 0) X dL_law_1278 (by decide) ?_
  obtain ⟨N9, g9, hh9, hi9, w9⟩ := w.1 z
  refine V_lald X dL_law_1279 hh9 hi9 ?_
  refine V_iload X dL_law_1280 0 rfl ?_
  refine V_i2l X dL_law_1282 ?_
  refine V_lcmp X dL_law_1283 ?_
  exact V_if_eq (tgt := 1289) X dL_law_1284 (by decide) (fun z => fin) (fun z => absurd ((lg_cmp_eq _ _).mpr w9) z)
def vLc15 (t0 : Nat) (Kc : gH → Prop) (h : gH) (x mm o : Nat)  : Prop := io h x 14 (vX11_clearText t0 (fun ra h1 => io h1 mm 15 (vX12_clearText (fun rb h2 => ra = rb ∧ Kc h2) h1 mm)) h x)
set_option maxRecDepth 100000 in
set_option maxHeartbeats 4000000 in
theorem tLc15 {p : Program} {l : Launch} {e : Env} {R : Room} {s : State} {m : MethodId} {args : Array Value} {below : List Frame} {meth : Method} {c : Code} {Z : State → Prop} {G : gG} {A : Nat → Prop} {h : gH} {k n b L x mm o : Nat} {xs : Nat → Int32} {v4 : Int32} {Kc : gH → Prop} (X : gC p l s m args meth c G A cL_law 8 (some .boolean) RL) (hNc : gNc s) (hX : va_X b L xs s s.heap) (hbl : b < s.heap.size) (hbA : ¬ A b) (hRf : 64 ≤ R.frames) (hRl : 2000 ≤ R.locals) (hk : k + 300 ≤ R.cells) (hn : n + 5000 ≤ R.slots)  (w : vLc15 G.2.2.1 Kc h x mm o ) (kk : ∀ h' : gH, Kc h' → V p l e R s m args below meth c Z G A 8 h' (k + 300) (n + 5000) 2388 [(0, .ref b), (1, .ref x), (2, .ref mm), (3, .ref o), (4, .int v4)] []) : V p l e R s m args below meth c Z G A 8 h k n 1292 [(0, .ref b), (1, .ref x), (2, .ref mm), (3, .ref o), (4, .int v4)] [] := by
  refine V_aloadr_n X dL_law_1292 1 rfl ?_
  obtain ⟨fs, hh, w⟩ := w
  refine V_callVi (As := []) (rest := []) (k1 := k + 0) (n1 := n + 0) X (cX11_clearText_ok X.2.2.2.2.2.2.2.2.1 w) lkL_179 hh (q9 := (RX11, TX11, 7)) rfl rfl dL_law_1293 ⟨by show 0 + 1 ≤ R.frames; omega, by show 8 + (2 + 11) + 0 ≤ R.locals; omega⟩ rfl (Nat.le_of_ble_eq_true rfl) ⟨by show k + 0 ≤ R.cells; omega, by show n + 0 ≤ R.slots; omega⟩ (Nat.le_refl _) (Nat.le_refl _) (fun ra h1 w => ?_)
  refine V_aloadr_n X dL_law_1296 2 rfl ?_
  obtain ⟨fs, hh, w⟩ := w
  refine V_callVi (As := []) (rest := [.int ra]) (k1 := k + 0 + 0) (n1 := n + 0 + 0) X (cX12_clearText_ok X.2.2.2.2.2.2.2.2.1 w) lkL_182 hh (q9 := (RX12, TX12, 42)) rfl rfl dL_law_1297 ⟨by show 0 + 1 ≤ R.frames; omega, by show 8 + (2 + 11) + 0 ≤ R.locals; omega⟩ rfl (Nat.le_of_ble_eq_true rfl) ⟨by show k + 0 + 0 ≤ R.cells; omega, by show n + 0 + 0 ≤ R.slots; omega⟩ (Nat.le_refl _) (Nat.le_refl _) (fun rb h2 w => ?_)
  refine V_icmp_eq (tgt := 2388) X dL_law_1300 (by decide) (fun z => ?_) (fun z => absurd w.1 z)
  replace w := w.2
  refine V.widen (k1 := k + 300) (n1 := n + 5000) (by omega) (by omega) ?_
  exact V.sub [0, 1, 2, 3, 4] rfl (kk _ w)
def vLc16 (t0 : Nat) (Kc : gH → Prop) (h : gH) (x mm o : Nat)  : Prop := io h x 14 (vX11_fault t0 (fun ra h1 => io h1 mm 15 (vX12_fault (fun rb h2 => ra = rb ∧ Kc h2) h1 mm)) h x)
set_option maxRecDepth 100000 in
set_option maxHeartbeats 4000000 in
theorem tLc16 {p : Program} {l : Launch} {e : Env} {R : Room} {s : State} {m : MethodId} {args : Array Value} {below : List Frame} {meth : Method} {c : Code} {Z : State → Prop} {G : gG} {A : Nat → Prop} {h : gH} {k n b L x mm o : Nat} {xs : Nat → Int32} {v4 : Int32} {Kc : gH → Prop} (X : gC p l s m args meth c G A cL_law 8 (some .boolean) RL) (hNc : gNc s) (hX : va_X b L xs s s.heap) (hbl : b < s.heap.size) (hbA : ¬ A b) (hRf : 64 ≤ R.frames) (hRl : 2000 ≤ R.locals) (hk : k + 300 ≤ R.cells) (hn : n + 5000 ≤ R.slots)  (w : vLc16 G.2.2.1 Kc h x mm o ) (kk : ∀ h' : gH, Kc h' → V p l e R s m args below meth c Z G A 8 h' (k + 300) (n + 5000) 2388 [(0, .ref b), (1, .ref x), (2, .ref mm), (3, .ref o), (4, .int v4)] []) : V p l e R s m args below meth c Z G A 8 h k n 1305 [(0, .ref b), (1, .ref x), (2, .ref mm), (3, .ref o), (4, .int v4)] [] := by
  refine V_aloadr_n X dL_law_1305 1 rfl ?_
  obtain ⟨fs, hh, w⟩ := w
  refine V_callVi (As := []) (rest := []) (k1 := k + 125) (n1 := n + 2125) X (cX11_fault_ok X.2.2.2.2.2.2.2.2.1 w) lkL_183 hh (q9 := (RX11, TX11, 7)) rfl rfl dL_law_1306 ⟨by show 9 + 1 ≤ R.frames; omega, by show 8 + (1 + 11) + 236 ≤ R.locals; omega⟩ rfl (Nat.le_of_ble_eq_true rfl) ⟨by show k + 125 ≤ R.cells; omega, by show n + 2125 ≤ R.slots; omega⟩ (Nat.le_refl _) (Nat.le_refl _) (fun ra h1 w => ?_)
  refine V_aloadr_n X dL_law_1309 2 rfl ?_
  obtain ⟨fs, hh, w⟩ := w
  refine V_callVi (As := []) (rest := [.int ra]) (k1 := k + 125 + 0) (n1 := n + 2125 + 0) X (cX12_fault_ok X.2.2.2.2.2.2.2.2.1 w) lkL_186 hh (q9 := (RX12, TX12, 42)) rfl rfl dL_law_1310 ⟨by show 6 + 1 ≤ R.frames; omega, by show 8 + (1 + 11) + 138 ≤ R.locals; omega⟩ rfl (Nat.le_of_ble_eq_true rfl) ⟨by show k + 125 + 0 ≤ R.cells; omega, by show n + 2125 + 0 ≤ R.slots; omega⟩ (Nat.le_refl _) (Nat.le_refl _) (fun rb h2 w => ?_)
  refine V_icmp_eq (tgt := 2388) X dL_law_1313 (by decide) (fun z => ?_) (fun z => absurd w.1 z)
  replace w := w.2
  refine V.widen (k1 := k + 300) (n1 := n + 5000) (by omega) (by omega) ?_
  exact V.sub [0, 1, 2, 3, 4] rfl (kk _ w)
def vLc17 (t0 : Nat) (Kc : gH → Prop) (h : gH) (x mm o : Nat)  : Prop := vL_load t0 (fun rk h1 => io h1 mm 15 (vX12_load (fun rb h2 => io h2 mm 15 (vX12_thrown (fun rc h3 => rc = rk ∧ ((rk = 0 → ll h3 o 0 (fun y9 => y9 = Int32.toInt64 rb)) ∧ Kc h3)) h2 mm)) h1 mm)) h x o
set_option maxRecDepth 100000 in
set_option maxHeartbeats 4000000 in
theorem tLc17 {p : Program} {l : Launch} {e : Env} {R : Room} {s : State} {m : MethodId} {args : Array Value} {below : List Frame} {meth : Method} {c : Code} {Z : State → Prop} {G : gG} {A : Nat → Prop} {h : gH} {k n b L x mm o : Nat} {xs : Nat → Int32} {v4 : Int32} {Kc : gH → Prop} (X : gC p l s m args meth c G A cL_law 8 (some .boolean) RL) (hNc : gNc s) (hX : va_X b L xs s s.heap) (hbl : b < s.heap.size) (hbA : ¬ A b) (hRf : 64 ≤ R.frames) (hRl : 2000 ≤ R.locals) (hk : k + 300 ≤ R.cells) (hn : n + 5000 ≤ R.slots)  (w : vLc17 G.2.2.1 Kc h x mm o ) (kk : ∀ h' : gH, Kc h' → V p l e R s m args below meth c Z G A 8 h' (k + 300) (n + 5000) 2388 [(0, .ref b), (1, .ref x), (2, .ref mm), (3, .ref o), (4, .int v4)] []) : V p l e R s m args below meth c Z G A 8 h k n 1318 [(0, .ref b), (1, .ref x), (2, .ref mm), (3, .ref o), (4, .int v4)] [] := by
  refine V_aloadr_n X dL_law_1318 1 rfl ?_
  refine V_aloadr_n X dL_law_1319 3 rfl ?_
  refine V_callSW (As := [.ref x, .ref o]) (rest := []) (k1 := k + 250) (n1 := n + 4250) X hNc (cL_load_ok X.2.2.2.2.2.2.2.2.1 w) lwL_187 dL_law_1320 ⟨by show 10 + 1 ≤ R.frames; omega, by show 8 + (3 + 11) + 257 ≤ R.locals; omega⟩ rfl (Nat.le_of_ble_eq_true rfl) ⟨by show k + 250 ≤ R.cells; omega, by show n + 4250 ≤ R.slots; omega⟩ (Nat.le_refl _) (Nat.le_refl _) (fun rk h1 w => ?_)
  refine V_istore X dL_law_1323 (by decide) rfl ?_
  refine V_aloadr_n X dL_law_1325 3 rfl ?_
  obtain ⟨fs, hh, w⟩ := w
  refine V_callVi (As := []) (rest := []) (k1 := k + 250 + 0) (n1 := n + 4250 + 0) X (cX12_load_ok X.2.2.2.2.2.2.2.2.1 w) lkL_190 hh (q9 := (RX12, TX12, 42)) rfl rfl dL_law_1326 ⟨by show 6 + 1 ≤ R.frames; omega, by show 8 + (1 + 11) + 138 ≤ R.locals; omega⟩ rfl (Nat.le_of_ble_eq_true rfl) ⟨by show k + 250 + 0 ≤ R.cells; omega, by show n + 4250 + 0 ≤ R.slots; omega⟩ (Nat.le_refl _) (Nat.le_refl _) (fun rb h2 w => ?_)
  refine V_istore X dL_law_1329 (by decide) rfl ?_
  refine V_aloadr_n X dL_law_1331 4 rfl ?_
  obtain ⟨fs, hh, w⟩ := w
  refine V_callVi (As := []) (rest := []) (k1 := k + 250 + 0 + 0) (n1 := n + 4250 + 0 + 0) X (cX12_thrown_ok X.2.2.2.2.2.2.2.2.1 w) lkL_129 hh (q9 := (RX12, TX12, 42)) rfl rfl dL_law_1332 ⟨by show 0 + 1 ≤ R.frames; omega, by show 8 + (1 + 11) + 0 ≤ R.locals; omega⟩ rfl (Nat.le_of_ble_eq_true rfl) ⟨by show k + 250 + 0 + 0 ≤ R.cells; omega, by show n + 4250 + 0 + 0 ≤ R.slots; omega⟩ (Nat.le_refl _) (Nat.le_refl _) (fun rc h3 w => ?_)
  refine V_iload X dL_law_1335 1 rfl ?_
  refine V_icmp_eq (tgt := 1342) X dL_law_1337 (by decide) (fun z => ?_) (fun z => absurd w.1 z)
  replace w := w.2
  refine V_iload X dL_law_1342 1 rfl ?_
  have fin : V p l e R s m args below meth c Z G A 8 h3 (k + 250 + 0 + 0) (n + 4250 + 0 + 0) 1359 [(6, .int rb), (5, .int rk), (0, .ref b), (1, .ref x), (2, .ref mm), (3, .ref o), (4, .int v4)] [] := by
    refine V_goto (tgt := 2388) X dL_law_1359 (by decide) ?_
    refine V.widen (k1 := k + 300) (n1 := n + 5000) (by omega) (by omega) ?_
    exact V.sub [2, 3, 4, 5, 6] rfl (kk _ w.2)
  refine V_if_ne (tgt := 1359) X dL_law_1344 (by decide) (fun z => fin) (fun z => ?_)
  refine V_aloadr_n X dL_law_1347 5 rfl ?_
  refine V_iconst (y := 0) X dL_law_1348 (by decide) ?_
  obtain ⟨N9, g9, hh9, hi9, w9⟩ := w.1 z
  refine V_lald X dL_law_1349 hh9 hi9 ?_
  refine V_iload X dL_law_1350 0 rfl ?_
  refine V_i2l X dL_law_1352 ?_
  refine V_lcmp X dL_law_1353 ?_
  exact V_if_eq (tgt := 1359) X dL_law_1354 (by decide) (fun z => fin) (fun z => absurd ((lg_cmp_eq _ _).mpr w9) z)
def vLc18 (t0 : Nat) (Kc : gH → Prop) (h : gH) (x mm o : Nat) (p1 : Int32) : Prop := vL_tick t0 (fun rk h1 => io h1 mm 15 (vX12_tick (fun rb h2 => io h2 mm 15 (vX12_thrown (fun rc h3 => rc = rk ∧ ((rk = 0 → ll h3 o 0 (fun y9 => y9 = Int32.toInt64 rb)) ∧ Kc h3)) h2 mm)) h1 mm p1)) h x p1 o
set_option maxRecDepth 100000 in
set_option maxHeartbeats 4000000 in
theorem tLc18 {p : Program} {l : Launch} {e : Env} {R : Room} {s : State} {m : MethodId} {args : Array Value} {below : List Frame} {meth : Method} {c : Code} {Z : State → Prop} {G : gG} {A : Nat → Prop} {h : gH} {k n b L x mm o : Nat} {xs : Nat → Int32} {v4 : Int32} {Kc : gH → Prop} (X : gC p l s m args meth c G A cL_law 8 (some .boolean) RL) (hNc : gNc s) (hX : va_X b L xs s s.heap) (hbl : b < s.heap.size) (hbA : ¬ A b) (hRf : 64 ≤ R.frames) (hRl : 2000 ≤ R.locals) (hk : k + 300 ≤ R.cells) (hn : n + 5000 ≤ R.slots) {p1 : Int32} (hi1 : vp_in (v4 + 1) L) (hp1 : xs (Int32.toNatClampNeg (v4 + 1)) = p1) (w : vLc18 G.2.2.1 Kc h x mm o p1) (kk : ∀ h' : gH, Kc h' → V p l e R s m args below meth c Z G A 8 h' (k + 300) (n + 5000) 2388 [(0, .ref b), (1, .ref x), (2, .ref mm), (3, .ref o), (4, .int v4)] []) : V p l e R s m args below meth c Z G A 8 h k n 1362 [(0, .ref b), (1, .ref x), (2, .ref mm), (3, .ref o), (4, .int v4)] [] := by
  refine V_aloadr_n X dL_law_1362 1 rfl ?_
  refine V_aloadr_n X dL_law_1363 0 rfl ?_
  refine V_iload X dL_law_1364 4 rfl ?_
  refine V_iconst (y := 1) X dL_law_1366 (by decide) ?_
  refine V_iadd X dL_law_1367 ?_
  refine V_sld (L := L) (xs := xs) X hX hbl hbA hi1 dL_law_1368 ?_
  rw [hp1]
  refine V_aloadr_n X dL_law_1369 3 rfl ?_
  refine V_callSW (As := [.ref x, .int p1, .ref o]) (rest := []) (k1 := k + 2) (n1 := n + 12) X hNc (cL_tick_ok X.2.2.2.2.2.2.2.2.1 w) lwL_191 dL_law_1370 ⟨by show 14 + 1 ≤ R.frames; omega, by show 8 + (4 + 11) + 348 ≤ R.locals; omega⟩ rfl (Nat.le_of_ble_eq_true rfl) ⟨by show k + 2 ≤ R.cells; omega, by show n + 12 ≤ R.slots; omega⟩ (Nat.le_refl _) (Nat.le_refl _) (fun rk h1 w => ?_)
  refine V_istore X dL_law_1373 (by decide) rfl ?_
  refine V_aloadr_n X dL_law_1375 3 rfl ?_
  refine V_aloadr_n X dL_law_1376 1 rfl ?_
  refine V_iload X dL_law_1377 5 rfl ?_
  refine V_iconst (y := 1) X dL_law_1379 (by decide) ?_
  refine V_iadd X dL_law_1380 ?_
  refine V_sld (L := L) (xs := xs) X hX hbl hbA hi1 dL_law_1381 ?_
  rw [hp1]
  obtain ⟨fs, hh, w⟩ := w
  refine V_callVi (As := [.int p1]) (rest := []) (k1 := k + 2 + 0) (n1 := n + 12 + 0) X (cX12_tick_ok X.2.2.2.2.2.2.2.2.1 w) lkL_193 hh (q9 := (RX12, TX12, 42)) rfl rfl dL_law_1382 ⟨by show 7 + 1 ≤ R.frames; omega, by show 8 + (4 + 11) + 186 ≤ R.locals; omega⟩ rfl (Nat.le_of_ble_eq_true rfl) ⟨by show k + 2 + 0 ≤ R.cells; omega, by show n + 12 + 0 ≤ R.slots; omega⟩ (Nat.le_refl _) (Nat.le_refl _) (fun rb h2 w => ?_)
  refine V_istore X dL_law_1385 (by decide) rfl ?_
  refine V_aloadr_n X dL_law_1387 4 rfl ?_
  obtain ⟨fs, hh, w⟩ := w
  refine V_callVi (As := []) (rest := []) (k1 := k + 2 + 0 + 0) (n1 := n + 12 + 0 + 0) X (cX12_thrown_ok X.2.2.2.2.2.2.2.2.1 w) lkL_129 hh (q9 := (RX12, TX12, 42)) rfl rfl dL_law_1388 ⟨by show 0 + 1 ≤ R.frames; omega, by show 8 + (1 + 11) + 0 ≤ R.locals; omega⟩ rfl (Nat.le_of_ble_eq_true rfl) ⟨by show k + 2 + 0 + 0 ≤ R.cells; omega, by show n + 12 + 0 + 0 ≤ R.slots; omega⟩ (Nat.le_refl _) (Nat.le_refl _) (fun rc h3 w => ?_)
  refine V_iload X dL_law_1391 1 rfl ?_
  refine V_icmp_eq (tgt := 1398) X dL_law_1393 (by decide) (fun z => ?_) (fun z => absurd w.1 z)
  replace w := w.2
  refine V_iload X dL_law_1398 1 rfl ?_
  have fin : V p l e R s m args below meth c Z G A 8 h3 (k + 2 + 0 + 0) (n + 12 + 0 + 0) 1415 [(6, .int rb), (5, .int rk), (0, .ref b), (1, .ref x), (2, .ref mm), (3, .ref o), (4, .int v4)] [] := by
    refine V_goto (tgt := 2388) X dL_law_1415 (by decide) ?_
    refine V.widen (k1 := k + 300) (n1 := n + 5000) (by omega) (by omega) ?_
    exact V.sub [2, 3, 4, 5, 6] rfl (kk _ w.2)
  refine V_if_ne (tgt := 1415) X dL_law_1400 (by decide) (fun z => fin) (fun z => ?_)
  refine V_aloadr_n X dL_law_1403 5 rfl ?_
  refine V_iconst (y := 0) X dL_law_1404 (by decide) ?_
  obtain ⟨N9, g9, hh9, hi9, w9⟩ := w.1 z
  refine V_lald X dL_law_1405 hh9 hi9 ?_
  refine V_iload X dL_law_1406 0 rfl ?_
  refine V_i2l X dL_law_1408 ?_
  refine V_lcmp X dL_law_1409 ?_
  exact V_if_eq (tgt := 1415) X dL_law_1410 (by decide) (fun z => fin) (fun z => absurd ((lg_cmp_eq _ _).mpr w9) z)
def vLc19 (t0 : Nat) (Kc : gH → Prop) (h : gH) (x mm o : Nat)  : Prop := io h x 14 (vX11_reset t0 (fun ra h1 => io h1 mm 15 (vX12_reset (fun rb h2 => ra = rb ∧ Kc h2) h1 mm)) h x)
set_option maxRecDepth 100000 in
set_option maxHeartbeats 4000000 in
theorem tLc19 {p : Program} {l : Launch} {e : Env} {R : Room} {s : State} {m : MethodId} {args : Array Value} {below : List Frame} {meth : Method} {c : Code} {Z : State → Prop} {G : gG} {A : Nat → Prop} {h : gH} {k n b L x mm o : Nat} {xs : Nat → Int32} {v4 : Int32} {Kc : gH → Prop} (X : gC p l s m args meth c G A cL_law 8 (some .boolean) RL) (hNc : gNc s) (hX : va_X b L xs s s.heap) (hbl : b < s.heap.size) (hbA : ¬ A b) (hRf : 64 ≤ R.frames) (hRl : 2000 ≤ R.locals) (hk : k + 300 ≤ R.cells) (hn : n + 5000 ≤ R.slots)  (w : vLc19 G.2.2.1 Kc h x mm o ) (kk : ∀ h' : gH, Kc h' → V p l e R s m args below meth c Z G A 8 h' (k + 300) (n + 5000) 2388 [(0, .ref b), (1, .ref x), (2, .ref mm), (3, .ref o), (4, .int v4)] []) : V p l e R s m args below meth c Z G A 8 h k n 1418 [(0, .ref b), (1, .ref x), (2, .ref mm), (3, .ref o), (4, .int v4)] [] := by
  refine V_aloadr_n X dL_law_1418 1 rfl ?_
  obtain ⟨fs, hh, w⟩ := w
  refine V_callVi (As := []) (rest := []) (k1 := k + 0) (n1 := n + 0) X (cX11_reset_ok X.2.2.2.2.2.2.2.2.1 w) lkL_194 hh (q9 := (RX11, TX11, 7)) rfl rfl dL_law_1419 ⟨by show 3 + 1 ≤ R.frames; omega, by show 8 + (2 + 11) + 64 ≤ R.locals; omega⟩ rfl (Nat.le_of_ble_eq_true rfl) ⟨by show k + 0 ≤ R.cells; omega, by show n + 0 ≤ R.slots; omega⟩ (Nat.le_refl _) (Nat.le_refl _) (fun ra h1 w => ?_)
  refine V_aloadr_n X dL_law_1422 2 rfl ?_
  obtain ⟨fs, hh, w⟩ := w
  refine V_callVi (As := []) (rest := [.int ra]) (k1 := k + 0 + 0) (n1 := n + 0 + 0) X (cX12_reset_ok X.2.2.2.2.2.2.2.2.1 w) lkL_197 hh (q9 := (RX12, TX12, 42)) rfl rfl dL_law_1423 ⟨by show 2 + 1 ≤ R.frames; omega, by show 8 + (3 + 11) + 43 ≤ R.locals; omega⟩ rfl (Nat.le_of_ble_eq_true rfl) ⟨by show k + 0 + 0 ≤ R.cells; omega, by show n + 0 + 0 ≤ R.slots; omega⟩ (Nat.le_refl _) (Nat.le_refl _) (fun rb h2 w => ?_)
  refine V_icmp_eq (tgt := 2388) X dL_law_1426 (by decide) (fun z => ?_) (fun z => absurd w.1 z)
  replace w := w.2
  refine V.widen (k1 := k + 300) (n1 := n + 5000) (by omega) (by omega) ?_
  exact V.sub [0, 1, 2, 3, 4] rfl (kk _ w)
def vLc20 (t0 : Nat) (Kc : gH → Prop) (h : gH) (x mm o : Nat)  : Prop := vL_state t0 (fun rk h1 => io h1 mm 15 (vX12_state (fun rb h2 => io h2 mm 15 (vX12_thrown (fun rc h3 => rc = rk ∧ ((rk = 0 → ll h3 o 0 (fun y9 => y9 = Int32.toInt64 rb)) ∧ Kc h3)) h2 mm)) h1 mm)) h x o
set_option maxRecDepth 100000 in
set_option maxHeartbeats 4000000 in
theorem tLc20 {p : Program} {l : Launch} {e : Env} {R : Room} {s : State} {m : MethodId} {args : Array Value} {below : List Frame} {meth : Method} {c : Code} {Z : State → Prop} {G : gG} {A : Nat → Prop} {h : gH} {k n b L x mm o : Nat} {xs : Nat → Int32} {v4 : Int32} {Kc : gH → Prop} (X : gC p l s m args meth c G A cL_law 8 (some .boolean) RL) (hNc : gNc s) (hX : va_X b L xs s s.heap) (hbl : b < s.heap.size) (hbA : ¬ A b) (hRf : 64 ≤ R.frames) (hRl : 2000 ≤ R.locals) (hk : k + 300 ≤ R.cells) (hn : n + 5000 ≤ R.slots)  (w : vLc20 G.2.2.1 Kc h x mm o ) (kk : ∀ h' : gH, Kc h' → V p l e R s m args below meth c Z G A 8 h' (k + 300) (n + 5000) 2388 [(0, .ref b), (1, .ref x), (2, .ref mm), (3, .ref o), (4, .int v4)] []) : V p l e R s m args below meth c Z G A 8 h k n 1431 [(0, .ref b), (1, .ref x), (2, .ref mm), (3, .ref o), (4, .int v4)] [] := by
  refine V_aloadr_n X dL_law_1431 1 rfl ?_
  refine V_aloadr_n X dL_law_1432 3 rfl ?_
  refine V_callSW (As := [.ref x, .ref o]) (rest := []) (k1 := k + 1) (n1 := n + 6) X hNc (cL_state_ok X.2.2.2.2.2.2.2.2.1 w) lwL_198 dL_law_1433 ⟨by show 8 + 1 ≤ R.frames; omega, by show 8 + (3 + 11) + 130 ≤ R.locals; omega⟩ rfl (Nat.le_of_ble_eq_true rfl) ⟨by show k + 1 ≤ R.cells; omega, by show n + 6 ≤ R.slots; omega⟩ (Nat.le_refl _) (Nat.le_refl _) (fun rk h1 w => ?_)
  refine V_istore X dL_law_1436 (by decide) rfl ?_
  refine V_aloadr_n X dL_law_1438 3 rfl ?_
  obtain ⟨fs, hh, w⟩ := w
  refine V_callVi (As := []) (rest := []) (k1 := k + 1 + 0) (n1 := n + 6 + 0) X (cX12_state_ok X.2.2.2.2.2.2.2.2.1 w) lkL_200 hh (q9 := (RX12, TX12, 42)) rfl rfl dL_law_1439 ⟨by show 1 + 1 ≤ R.frames; omega, by show 8 + (1 + 11) + 21 ≤ R.locals; omega⟩ rfl (Nat.le_of_ble_eq_true rfl) ⟨by show k + 1 + 0 ≤ R.cells; omega, by show n + 6 + 0 ≤ R.slots; omega⟩ (Nat.le_refl _) (Nat.le_refl _) (fun rb h2 w => ?_)
  refine V_istore X dL_law_1442 (by decide) rfl ?_
  refine V_aloadr_n X dL_law_1444 4 rfl ?_
  obtain ⟨fs, hh, w⟩ := w
  refine V_callVi (As := []) (rest := []) (k1 := k + 1 + 0 + 0) (n1 := n + 6 + 0 + 0) X (cX12_thrown_ok X.2.2.2.2.2.2.2.2.1 w) lkL_129 hh (q9 := (RX12, TX12, 42)) rfl rfl dL_law_1445 ⟨by show 0 + 1 ≤ R.frames; omega, by show 8 + (1 + 11) + 0 ≤ R.locals; omega⟩ rfl (Nat.le_of_ble_eq_true rfl) ⟨by show k + 1 + 0 + 0 ≤ R.cells; omega, by show n + 6 + 0 + 0 ≤ R.slots; omega⟩ (Nat.le_refl _) (Nat.le_refl _) (fun rc h3 w => ?_)
  refine V_iload X dL_law_1448 1 rfl ?_
  refine V_icmp_eq (tgt := 1455) X dL_law_1450 (by decide) (fun z => ?_) (fun z => absurd w.1 z)
  replace w := w.2
  refine V_iload X dL_law_1455 1 rfl ?_
  have fin : V p l e R s m args below meth c Z G A 8 h3 (k + 1 + 0 + 0) (n + 6 + 0 + 0) 1472 [(6, .int rb), (5, .int rk), (0, .ref b), (1, .ref x), (2, .ref mm), (3, .ref o), (4, .int v4)] [] := by
    refine V_goto (tgt := 2388) X dL_law_1472 (by decide) ?_
    refine V.widen (k1 := k + 300) (n1 := n + 5000) (by omega) (by omega) ?_
    exact V.sub [2, 3, 4, 5, 6] rfl (kk _ w.2)
  refine V_if_ne (tgt := 1472) X dL_law_1457 (by decide) (fun z => fin) (fun z => ?_)
  refine V_aloadr_n X dL_law_1460 5 rfl ?_
  refine V_iconst (y := 0) X dL_law_1461 (by decide) ?_
  obtain ⟨N9, g9, hh9, hi9, w9⟩ := w.1 z
  refine V_lald X dL_law_1462 hh9 hi9 ?_
  refine V_iload X dL_law_1463 0 rfl ?_
  refine V_i2l X dL_law_1465 ?_
  refine V_lcmp X dL_law_1466 ?_
  exact V_if_eq (tgt := 1472) X dL_law_1467 (by decide) (fun z => fin) (fun z => absurd ((lg_cmp_eq _ _).mpr w9) z)
def vLc21 (t0 : Nat) (Kc : gH → Prop) (h : gH) (x mm o : Nat)  : Prop := io h x 14 (vX11_target t0 (fun ra h1 => io h1 mm 15 (vX12_target (fun rb h2 => ra = rb ∧ Kc h2) h1 mm)) h x)
set_option maxRecDepth 100000 in
set_option maxHeartbeats 4000000 in
theorem tLc21 {p : Program} {l : Launch} {e : Env} {R : Room} {s : State} {m : MethodId} {args : Array Value} {below : List Frame} {meth : Method} {c : Code} {Z : State → Prop} {G : gG} {A : Nat → Prop} {h : gH} {k n b L x mm o : Nat} {xs : Nat → Int32} {v4 : Int32} {Kc : gH → Prop} (X : gC p l s m args meth c G A cL_law 8 (some .boolean) RL) (hNc : gNc s) (hX : va_X b L xs s s.heap) (hbl : b < s.heap.size) (hbA : ¬ A b) (hRf : 64 ≤ R.frames) (hRl : 2000 ≤ R.locals) (hk : k + 300 ≤ R.cells) (hn : n + 5000 ≤ R.slots)  (w : vLc21 G.2.2.1 Kc h x mm o ) (kk : ∀ h' : gH, Kc h' → V p l e R s m args below meth c Z G A 8 h' (k + 300) (n + 5000) 2388 [(0, .ref b), (1, .ref x), (2, .ref mm), (3, .ref o), (4, .int v4)] []) : V p l e R s m args below meth c Z G A 8 h k n 1475 [(0, .ref b), (1, .ref x), (2, .ref mm), (3, .ref o), (4, .int v4)] [] := by
  refine V_aloadr_n X dL_law_1475 1 rfl ?_
  obtain ⟨fs, hh, w⟩ := w
  refine V_callVi (As := []) (rest := []) (k1 := k + 0) (n1 := n + 0) X (cX11_target_ok X.2.2.2.2.2.2.2.2.1 w) lkL_201 hh (q9 := (RX11, TX11, 7)) rfl rfl dL_law_1476 ⟨by show 0 + 1 ≤ R.frames; omega, by show 8 + (1 + 11) + 0 ≤ R.locals; omega⟩ rfl (Nat.le_of_ble_eq_true rfl) ⟨by show k + 0 ≤ R.cells; omega, by show n + 0 ≤ R.slots; omega⟩ (Nat.le_refl _) (Nat.le_refl _) (fun ra h1 w => ?_)
  refine V_aloadr_n X dL_law_1479 2 rfl ?_
  obtain ⟨fs, hh, w⟩ := w
  refine V_callVi (As := []) (rest := [.int ra]) (k1 := k + 0 + 0) (n1 := n + 0 + 0) X (cX12_target_ok X.2.2.2.2.2.2.2.2.1 w) lkL_204 hh (q9 := (RX12, TX12, 42)) rfl rfl dL_law_1480 ⟨by show 0 + 1 ≤ R.frames; omega, by show 8 + (1 + 11) + 0 ≤ R.locals; omega⟩ rfl (Nat.le_of_ble_eq_true rfl) ⟨by show k + 0 + 0 ≤ R.cells; omega, by show n + 0 + 0 ≤ R.slots; omega⟩ (Nat.le_refl _) (Nat.le_refl _) (fun rb h2 w => ?_)
  refine V_icmp_eq (tgt := 2388) X dL_law_1483 (by decide) (fun z => ?_) (fun z => absurd w.1 z)
  replace w := w.2
  refine V.widen (k1 := k + 300) (n1 := n + 5000) (by omega) (by omega) ?_
  exact V.sub [0, 1, 2, 3, 4] rfl (kk _ w)
def vLc22 (t0 : Nat) (Kc : gH → Prop) (h : gH) (x mm o : Nat)  : Prop := io h x 14 (vX11_transition t0 (fun ra h1 => io h1 mm 15 (vX12_transition (fun rb h2 => ra = rb ∧ Kc h2) h1 mm)) h x)
set_option maxRecDepth 100000 in
set_option maxHeartbeats 4000000 in
theorem tLc22 {p : Program} {l : Launch} {e : Env} {R : Room} {s : State} {m : MethodId} {args : Array Value} {below : List Frame} {meth : Method} {c : Code} {Z : State → Prop} {G : gG} {A : Nat → Prop} {h : gH} {k n b L x mm o : Nat} {xs : Nat → Int32} {v4 : Int32} {Kc : gH → Prop} (X : gC p l s m args meth c G A cL_law 8 (some .boolean) RL) (hNc : gNc s) (hX : va_X b L xs s s.heap) (hbl : b < s.heap.size) (hbA : ¬ A b) (hRf : 64 ≤ R.frames) (hRl : 2000 ≤ R.locals) (hk : k + 300 ≤ R.cells) (hn : n + 5000 ≤ R.slots)  (w : vLc22 G.2.2.1 Kc h x mm o ) (kk : ∀ h' : gH, Kc h' → V p l e R s m args below meth c Z G A 8 h' (k + 300) (n + 5000) 2388 [(0, .ref b), (1, .ref x), (2, .ref mm), (3, .ref o), (4, .int v4)] []) : V p l e R s m args below meth c Z G A 8 h k n 1488 [(0, .ref b), (1, .ref x), (2, .ref mm), (3, .ref o), (4, .int v4)] [] := by
  refine V_aloadr_n X dL_law_1488 1 rfl ?_
  obtain ⟨fs, hh, w⟩ := w
  refine V_callVi (As := []) (rest := []) (k1 := k + 0) (n1 := n + 0) X (cX11_transition_ok X.2.2.2.2.2.2.2.2.1 w) lkL_205 hh (q9 := (RX11, TX11, 7)) rfl rfl dL_law_1489 ⟨by show 0 + 1 ≤ R.frames; omega, by show 8 + (1 + 11) + 0 ≤ R.locals; omega⟩ rfl (Nat.le_of_ble_eq_true rfl) ⟨by show k + 0 ≤ R.cells; omega, by show n + 0 ≤ R.slots; omega⟩ (Nat.le_refl _) (Nat.le_refl _) (fun ra h1 w => ?_)
  refine V_aloadr_n X dL_law_1492 2 rfl ?_
  obtain ⟨fs, hh, w⟩ := w
  refine V_callVi (As := []) (rest := [.int ra]) (k1 := k + 0 + 0) (n1 := n + 0 + 0) X (cX12_transition_ok X.2.2.2.2.2.2.2.2.1 w) lkL_208 hh (q9 := (RX12, TX12, 42)) rfl rfl dL_law_1493 ⟨by show 0 + 1 ≤ R.frames; omega, by show 8 + (1 + 11) + 0 ≤ R.locals; omega⟩ rfl (Nat.le_of_ble_eq_true rfl) ⟨by show k + 0 + 0 ≤ R.cells; omega, by show n + 0 + 0 ≤ R.slots; omega⟩ (Nat.le_refl _) (Nat.le_refl _) (fun rb h2 w => ?_)
  refine V_icmp_eq (tgt := 2388) X dL_law_1496 (by decide) (fun z => ?_) (fun z => absurd w.1 z)
  replace w := w.2
  refine V.widen (k1 := k + 300) (n1 := n + 5000) (by omega) (by omega) ?_
  exact V.sub [0, 1, 2, 3, 4] rfl (kk _ w)
def vLc23 (t0 : Nat) (Kc : gH → Prop) (h : gH) (x mm o : Nat)  : Prop := io h x 14 (vX11_elapsed t0 (fun ra h1 => io h1 mm 15 (vX12_elapsed (fun rb h2 => ra = rb ∧ Kc h2) h1 mm)) h x)
set_option maxRecDepth 100000 in
set_option maxHeartbeats 4000000 in
theorem tLc23 {p : Program} {l : Launch} {e : Env} {R : Room} {s : State} {m : MethodId} {args : Array Value} {below : List Frame} {meth : Method} {c : Code} {Z : State → Prop} {G : gG} {A : Nat → Prop} {h : gH} {k n b L x mm o : Nat} {xs : Nat → Int32} {v4 : Int32} {Kc : gH → Prop} (X : gC p l s m args meth c G A cL_law 8 (some .boolean) RL) (hNc : gNc s) (hX : va_X b L xs s s.heap) (hbl : b < s.heap.size) (hbA : ¬ A b) (hRf : 64 ≤ R.frames) (hRl : 2000 ≤ R.locals) (hk : k + 300 ≤ R.cells) (hn : n + 5000 ≤ R.slots)  (w : vLc23 G.2.2.1 Kc h x mm o ) (kk : ∀ h' : gH, Kc h' → V p l e R s m args below meth c Z G A 8 h' (k + 300) (n + 5000) 2388 [(0, .ref b), (1, .ref x), (2, .ref mm), (3, .ref o), (4, .int v4)] []) : V p l e R s m args below meth c Z G A 8 h k n 1501 [(0, .ref b), (1, .ref x), (2, .ref mm), (3, .ref o), (4, .int v4)] [] := by
  refine V_aloadr_n X dL_law_1501 1 rfl ?_
  obtain ⟨fs, hh, w⟩ := w
  refine V_callVi (As := []) (rest := []) (k1 := k + 0) (n1 := n + 0) X (cX11_elapsed_ok X.2.2.2.2.2.2.2.2.1 w) lkL_209 hh (q9 := (RX11, TX11, 7)) rfl rfl dL_law_1502 ⟨by show 0 + 1 ≤ R.frames; omega, by show 8 + (1 + 11) + 0 ≤ R.locals; omega⟩ rfl (Nat.le_of_ble_eq_true rfl) ⟨by show k + 0 ≤ R.cells; omega, by show n + 0 ≤ R.slots; omega⟩ (Nat.le_refl _) (Nat.le_refl _) (fun ra h1 w => ?_)
  refine V_aloadr_n X dL_law_1505 2 rfl ?_
  obtain ⟨fs, hh, w⟩ := w
  refine V_callVi (As := []) (rest := [.int ra]) (k1 := k + 0 + 0) (n1 := n + 0 + 0) X (cX12_elapsed_ok X.2.2.2.2.2.2.2.2.1 w) lkL_212 hh (q9 := (RX12, TX12, 42)) rfl rfl dL_law_1506 ⟨by show 0 + 1 ≤ R.frames; omega, by show 8 + (1 + 11) + 0 ≤ R.locals; omega⟩ rfl (Nat.le_of_ble_eq_true rfl) ⟨by show k + 0 + 0 ≤ R.cells; omega, by show n + 0 + 0 ≤ R.slots; omega⟩ (Nat.le_refl _) (Nat.le_refl _) (fun rb h2 w => ?_)
  refine V_icmp_eq (tgt := 2388) X dL_law_1509 (by decide) (fun z => ?_) (fun z => absurd w.1 z)
  replace w := w.2
  refine V.widen (k1 := k + 300) (n1 := n + 5000) (by omega) (by omega) ?_
  exact V.sub [0, 1, 2, 3, 4] rfl (kk _ w)
def vLc24 (t0 : Nat) (Kc : gH → Prop) (h : gH) (x mm o : Nat)  : Prop := io h x 14 (vX11_isFrozen t0 (fun ra h1 => io h1 mm 15 (vX12_isFrozen (fun rb h2 => ra = rb ∧ Kc h2) h1 mm)) h x)
set_option maxRecDepth 100000 in
set_option maxHeartbeats 4000000 in
theorem tLc24 {p : Program} {l : Launch} {e : Env} {R : Room} {s : State} {m : MethodId} {args : Array Value} {below : List Frame} {meth : Method} {c : Code} {Z : State → Prop} {G : gG} {A : Nat → Prop} {h : gH} {k n b L x mm o : Nat} {xs : Nat → Int32} {v4 : Int32} {Kc : gH → Prop} (X : gC p l s m args meth c G A cL_law 8 (some .boolean) RL) (hNc : gNc s) (hX : va_X b L xs s s.heap) (hbl : b < s.heap.size) (hbA : ¬ A b) (hRf : 64 ≤ R.frames) (hRl : 2000 ≤ R.locals) (hk : k + 300 ≤ R.cells) (hn : n + 5000 ≤ R.slots)  (w : vLc24 G.2.2.1 Kc h x mm o ) (kk : ∀ h' : gH, Kc h' → V p l e R s m args below meth c Z G A 8 h' (k + 300) (n + 5000) 2388 [(0, .ref b), (1, .ref x), (2, .ref mm), (3, .ref o), (4, .int v4)] []) : V p l e R s m args below meth c Z G A 8 h k n 1514 [(0, .ref b), (1, .ref x), (2, .ref mm), (3, .ref o), (4, .int v4)] [] := by
  refine V_aloadr_n X dL_law_1514 1 rfl ?_
  obtain ⟨fs, hh, w⟩ := w
  refine V_callVi (As := []) (rest := []) (k1 := k + 0) (n1 := n + 0) X (cX11_isFrozen_ok X.2.2.2.2.2.2.2.2.1 w) lkL_213 hh (q9 := (RX11, TX11, 7)) rfl rfl dL_law_1515 ⟨by show 0 + 1 ≤ R.frames; omega, by show 8 + (1 + 11) + 0 ≤ R.locals; omega⟩ rfl (Nat.le_of_ble_eq_true rfl) ⟨by show k + 0 ≤ R.cells; omega, by show n + 0 ≤ R.slots; omega⟩ (Nat.le_refl _) (Nat.le_refl _) (fun ra h1 w => ?_)
  refine V_aloadr_n X dL_law_1518 2 rfl ?_
  obtain ⟨fs, hh, w⟩ := w
  refine V_callVi (As := []) (rest := [.int ra]) (k1 := k + 0 + 0) (n1 := n + 0 + 0) X (cX12_isFrozen_ok X.2.2.2.2.2.2.2.2.1 w) lkL_217 hh (q9 := (RX12, TX12, 42)) rfl rfl dL_law_1519 ⟨by show 0 + 1 ≤ R.frames; omega, by show 8 + (1 + 11) + 0 ≤ R.locals; omega⟩ rfl (Nat.le_of_ble_eq_true rfl) ⟨by show k + 0 + 0 ≤ R.cells; omega, by show n + 0 + 0 ≤ R.slots; omega⟩ (Nat.le_refl _) (Nat.le_refl _) (fun rb h2 w => ?_)
  refine V_icmp_eq (tgt := 2388) X dL_law_1522 (by decide) (fun z => ?_) (fun z => absurd w.1 z)
  replace w := w.2
  refine V.widen (k1 := k + 300) (n1 := n + 5000) (by omega) (by omega) ?_
  exact V.sub [0, 1, 2, 3, 4] rfl (kk _ w)
def vLc25 (t0 : Nat) (Kc : gH → Prop) (h : gH) (x mm o : Nat) (p1 : Int32) : Prop := vL_progress t0 (fun rk h1 => io h1 mm 15 (vX12_progress (fun rb h2 => io h2 mm 15 (vX12_thrown (fun rc h3 => rc = rk ∧ ((rk = 0 → ll h3 o 0 (fun y9 => y9 = rb)) ∧ Kc h3)) h2 mm)) h1 mm (bz p1))) h x (bz p1) o
set_option maxRecDepth 100000 in
set_option maxHeartbeats 4000000 in
theorem tLc25 {p : Program} {l : Launch} {e : Env} {R : Room} {s : State} {m : MethodId} {args : Array Value} {below : List Frame} {meth : Method} {c : Code} {Z : State → Prop} {G : gG} {A : Nat → Prop} {h : gH} {k n b L x mm o : Nat} {xs : Nat → Int32} {v4 : Int32} {Kc : gH → Prop} (X : gC p l s m args meth c G A cL_law 8 (some .boolean) RL) (hNc : gNc s) (hX : va_X b L xs s s.heap) (hbl : b < s.heap.size) (hbA : ¬ A b) (hRf : 64 ≤ R.frames) (hRl : 2000 ≤ R.locals) (hk : k + 300 ≤ R.cells) (hn : n + 5000 ≤ R.slots) {p1 : Int32} (hi1 : vp_in (v4 + 1) L) (hp1 : xs (Int32.toNatClampNeg (v4 + 1)) = p1) (w : vLc25 G.2.2.1 Kc h x mm o p1) (kk : ∀ h' : gH, Kc h' → V p l e R s m args below meth c Z G A 8 h' (k + 300) (n + 5000) 2388 [(0, .ref b), (1, .ref x), (2, .ref mm), (3, .ref o), (4, .int v4)] []) : V p l e R s m args below meth c Z G A 8 h k n 1527 [(0, .ref b), (1, .ref x), (2, .ref mm), (3, .ref o), (4, .int v4)] [] := by
  refine V_aloadr_n X dL_law_1527 1 rfl ?_
  refine V_aloadr_n X dL_law_1528 0 rfl ?_
  refine V_iload X dL_law_1529 4 rfl ?_
  refine V_iconst (y := 1) X dL_law_1531 (by decide) ?_
  refine V_iadd X dL_law_1532 ?_
  refine V_sld (L := L) (xs := xs) X hX hbl hbA hi1 dL_law_1533 ?_
  rw [hp1]
  refine V_bool (t1 := 1541) (t2 := 1542) X dL_law_1534 dL_law_1537 dL_law_1538 dL_law_1541 (by decide) (by decide) rfl ?_
  refine V_aloadr_n X dL_law_1542 3 rfl ?_
  refine V_callSW (As := [.ref x, .int (bz p1), .ref o]) (rest := []) (k1 := k + 2) (n1 := n + 12) X hNc (cL_progress_ok X.2.2.2.2.2.2.2.2.1 w) lwL_218 dL_law_1543 ⟨by show 8 + 1 ≤ R.frames; omega, by show 8 + (4 + 11) + 131 ≤ R.locals; omega⟩ rfl (Nat.le_of_ble_eq_true rfl) ⟨by show k + 2 ≤ R.cells; omega, by show n + 12 ≤ R.slots; omega⟩ (Nat.le_refl _) (Nat.le_refl _) (fun rk h1 w => ?_)
  refine V_istore X dL_law_1546 (by decide) rfl ?_
  refine V_aloadr_n X dL_law_1548 3 rfl ?_
  refine V_aloadr_n X dL_law_1549 1 rfl ?_
  refine V_iload X dL_law_1550 5 rfl ?_
  refine V_iconst (y := 1) X dL_law_1552 (by decide) ?_
  refine V_iadd X dL_law_1553 ?_
  refine V_sld (L := L) (xs := xs) X hX hbl hbA hi1 dL_law_1554 ?_
  rw [hp1]
  refine V_bool (t1 := 1562) (t2 := 1563) X dL_law_1555 dL_law_1558 dL_law_1559 dL_law_1562 (by decide) (by decide) rfl ?_
  obtain ⟨fs, hh, w⟩ := w
  refine V_callVl (As := [.int (bz p1)]) (rest := []) (k1 := k + 2 + 0) (n1 := n + 12 + 0) X (cX12_progress_ok X.2.2.2.2.2.2.2.2.1 w) lkL_221 hh (q9 := (RX12, TX12, 42)) rfl rfl dL_law_1563 ⟨by show 1 + 1 ≤ R.frames; omega, by show 8 + (2 + 11) + 21 ≤ R.locals; omega⟩ rfl (Nat.le_of_ble_eq_true rfl) ⟨by show k + 2 + 0 ≤ R.cells; omega, by show n + 12 + 0 ≤ R.slots; omega⟩ (Nat.le_refl _) (Nat.le_refl _) (fun rb h2 w => ?_)
  refine V_lstore X dL_law_1566 (by decide) rfl ?_
  refine V_aloadr_n X dL_law_1568 4 rfl ?_
  obtain ⟨fs, hh, w⟩ := w
  refine V_callVi (As := []) (rest := []) (k1 := k + 2 + 0 + 0) (n1 := n + 12 + 0 + 0) X (cX12_thrown_ok X.2.2.2.2.2.2.2.2.1 w) lkL_129 hh (q9 := (RX12, TX12, 42)) rfl rfl dL_law_1569 ⟨by show 0 + 1 ≤ R.frames; omega, by show 8 + (1 + 11) + 0 ≤ R.locals; omega⟩ rfl (Nat.le_of_ble_eq_true rfl) ⟨by show k + 2 + 0 + 0 ≤ R.cells; omega, by show n + 12 + 0 + 0 ≤ R.slots; omega⟩ (Nat.le_refl _) (Nat.le_refl _) (fun rc h3 w => ?_)
  refine V_iload X dL_law_1572 1 rfl ?_
  refine V_icmp_eq (tgt := 1579) X dL_law_1574 (by decide) (fun z => ?_) (fun z => absurd w.1 z)
  replace w := w.2
  refine V_iload X dL_law_1579 1 rfl ?_
  have fin : V p l e R s m args below meth c Z G A 8 h3 (k + 2 + 0 + 0) (n + 12 + 0 + 0) 1595 [(6, .long rb), (5, .int rk), (0, .ref b), (1, .ref x), (2, .ref mm), (3, .ref o), (4, .int v4)] [] := by
    refine V_goto (tgt := 2388) X dL_law_1595 (by decide) ?_
    refine V.widen (k1 := k + 300) (n1 := n + 5000) (by omega) (by omega) ?_
    exact V.sub [2, 3, 4, 5, 6] rfl (kk _ w.2)
  refine V_if_ne (tgt := 1595) X dL_law_1581 (by decide) (fun z => fin) (fun z => ?_)
  refine V_aloadr_n X dL_law_1584 5 rfl ?_
  refine V_iconst (y := 0) X dL_law_1585 (by decide) ?_
  obtain ⟨N9, g9, hh9, hi9, w9⟩ := w.1 z
  refine V_lald X dL_law_1586 hh9 hi9 ?_
  refine V_lload X dL_law_1587 0 rfl ?_
  refine V_lcmp X dL_law_1589 ?_
  exact V_if_eq (tgt := 1595) X dL_law_1590 (by decide) (fun z => fin) (fun z => absurd ((lg_cmp_eq _ _).mpr w9) z)
def vLc26 (t0 : Nat) (Kc : gH → Prop) (h : gH) (x mm o : Nat) (p1 : Int32) : Prop := vL_stateLength t0 (fun rk h1 => io h1 mm 15 (vX12_stateLength (fun rb h2 => io h2 mm 15 (vX12_thrown (fun rc h3 => rc = rk ∧ ((rk = 0 → ll h3 o 0 (fun y9 => y9 = Int32.toInt64 rb)) ∧ Kc h3)) h2 mm)) h1 mm p1)) h x p1 o
set_option maxRecDepth 100000 in
set_option maxHeartbeats 4000000 in
theorem tLc26 {p : Program} {l : Launch} {e : Env} {R : Room} {s : State} {m : MethodId} {args : Array Value} {below : List Frame} {meth : Method} {c : Code} {Z : State → Prop} {G : gG} {A : Nat → Prop} {h : gH} {k n b L x mm o : Nat} {xs : Nat → Int32} {v4 : Int32} {Kc : gH → Prop} (X : gC p l s m args meth c G A cL_law 8 (some .boolean) RL) (hNc : gNc s) (hX : va_X b L xs s s.heap) (hbl : b < s.heap.size) (hbA : ¬ A b) (hRf : 64 ≤ R.frames) (hRl : 2000 ≤ R.locals) (hk : k + 300 ≤ R.cells) (hn : n + 5000 ≤ R.slots) {p1 : Int32} (hi1 : vp_in (v4 + 1) L) (hp1 : xs (Int32.toNatClampNeg (v4 + 1)) = p1) (w : vLc26 G.2.2.1 Kc h x mm o p1) (kk : ∀ h' : gH, Kc h' → V p l e R s m args below meth c Z G A 8 h' (k + 300) (n + 5000) 2388 [(0, .ref b), (1, .ref x), (2, .ref mm), (3, .ref o), (4, .int v4)] []) : V p l e R s m args below meth c Z G A 8 h k n 1598 [(0, .ref b), (1, .ref x), (2, .ref mm), (3, .ref o), (4, .int v4)] [] := by
  refine V_aloadr_n X dL_law_1598 1 rfl ?_
  refine V_aloadr_n X dL_law_1599 0 rfl ?_
  refine V_iload X dL_law_1600 4 rfl ?_
  refine V_iconst (y := 1) X dL_law_1602 (by decide) ?_
  refine V_iadd X dL_law_1603 ?_
  refine V_sld (L := L) (xs := xs) X hX hbl hbA hi1 dL_law_1604 ?_
  rw [hp1]
  refine V_aloadr_n X dL_law_1605 3 rfl ?_
  refine V_callSW (As := [.ref x, .int p1, .ref o]) (rest := []) (k1 := k + 1) (n1 := n + 6) X hNc (cL_stateLength_ok X.2.2.2.2.2.2.2.2.1 w) lwL_222 dL_law_1606 ⟨by show 11 + 1 ≤ R.frames; omega, by show 8 + (4 + 11) + 278 ≤ R.locals; omega⟩ rfl (Nat.le_of_ble_eq_true rfl) ⟨by show k + 1 ≤ R.cells; omega, by show n + 6 ≤ R.slots; omega⟩ (Nat.le_refl _) (Nat.le_refl _) (fun rk h1 w => ?_)
  refine V_istore X dL_law_1609 (by decide) rfl ?_
  refine V_aloadr_n X dL_law_1611 3 rfl ?_
  refine V_aloadr_n X dL_law_1612 1 rfl ?_
  refine V_iload X dL_law_1613 5 rfl ?_
  refine V_iconst (y := 1) X dL_law_1615 (by decide) ?_
  refine V_iadd X dL_law_1616 ?_
  refine V_sld (L := L) (xs := xs) X hX hbl hbA hi1 dL_law_1617 ?_
  rw [hp1]
  obtain ⟨fs, hh, w⟩ := w
  refine V_callVi (As := [.int p1]) (rest := []) (k1 := k + 1 + 0) (n1 := n + 6 + 0) X (cX12_stateLength_ok X.2.2.2.2.2.2.2.2.1 w) lkL_224 hh (q9 := (RX12, TX12, 42)) rfl rfl dL_law_1618 ⟨by show 3 + 1 ≤ R.frames; omega, by show 8 + (2 + 11) + 80 ≤ R.locals; omega⟩ rfl (Nat.le_of_ble_eq_true rfl) ⟨by show k + 1 + 0 ≤ R.cells; omega, by show n + 6 + 0 ≤ R.slots; omega⟩ (Nat.le_refl _) (Nat.le_refl _) (fun rb h2 w => ?_)
  refine V_istore X dL_law_1621 (by decide) rfl ?_
  refine V_aloadr_n X dL_law_1623 4 rfl ?_
  obtain ⟨fs, hh, w⟩ := w
  refine V_callVi (As := []) (rest := []) (k1 := k + 1 + 0 + 0) (n1 := n + 6 + 0 + 0) X (cX12_thrown_ok X.2.2.2.2.2.2.2.2.1 w) lkL_129 hh (q9 := (RX12, TX12, 42)) rfl rfl dL_law_1624 ⟨by show 0 + 1 ≤ R.frames; omega, by show 8 + (1 + 11) + 0 ≤ R.locals; omega⟩ rfl (Nat.le_of_ble_eq_true rfl) ⟨by show k + 1 + 0 + 0 ≤ R.cells; omega, by show n + 6 + 0 + 0 ≤ R.slots; omega⟩ (Nat.le_refl _) (Nat.le_refl _) (fun rc h3 w => ?_)
  refine V_iload X dL_law_1627 1 rfl ?_
  refine V_icmp_eq (tgt := 1634) X dL_law_1629 (by decide) (fun z => ?_) (fun z => absurd w.1 z)
  replace w := w.2
  refine V_iload X dL_law_1634 1 rfl ?_
  have fin : V p l e R s m args below meth c Z G A 8 h3 (k + 1 + 0 + 0) (n + 6 + 0 + 0) 1651 [(6, .int rb), (5, .int rk), (0, .ref b), (1, .ref x), (2, .ref mm), (3, .ref o), (4, .int v4)] [] := by
    refine V_goto (tgt := 2388) X dL_law_1651 (by decide) ?_
    refine V.widen (k1 := k + 300) (n1 := n + 5000) (by omega) (by omega) ?_
    exact V.sub [2, 3, 4, 5, 6] rfl (kk _ w.2)
  refine V_if_ne (tgt := 1651) X dL_law_1636 (by decide) (fun z => fin) (fun z => ?_)
  refine V_aloadr_n X dL_law_1639 5 rfl ?_
  refine V_iconst (y := 0) X dL_law_1640 (by decide) ?_
  obtain ⟨N9, g9, hh9, hi9, w9⟩ := w.1 z
  refine V_lald X dL_law_1641 hh9 hi9 ?_
  refine V_iload X dL_law_1642 0 rfl ?_
  refine V_i2l X dL_law_1644 ?_
  refine V_lcmp X dL_law_1645 ?_
  exact V_if_eq (tgt := 1651) X dL_law_1646 (by decide) (fun z => fin) (fun z => absurd ((lg_cmp_eq _ _).mpr w9) z)
def vLc27 (t0 : Nat) (Kc : gH → Prop) (h : gH) (x mm o : Nat) (p1 : Int32) (p2 : Int32) : Prop := vL_partWeight t0 (fun rk h1 => io h1 mm 15 (vX12_partWeight (fun rb h2 => io h2 mm 15 (vX12_thrown (fun rc h3 => rc = rk ∧ ((rk = 0 → ll h3 o 0 (fun y9 => y9 = Int32.toInt64 rb)) ∧ Kc h3)) h2 mm)) h1 mm p1 p2)) h x p1 p2 o
set_option maxRecDepth 100000 in
set_option maxHeartbeats 4000000 in
theorem tLc27 {p : Program} {l : Launch} {e : Env} {R : Room} {s : State} {m : MethodId} {args : Array Value} {below : List Frame} {meth : Method} {c : Code} {Z : State → Prop} {G : gG} {A : Nat → Prop} {h : gH} {k n b L x mm o : Nat} {xs : Nat → Int32} {v4 : Int32} {Kc : gH → Prop} (X : gC p l s m args meth c G A cL_law 8 (some .boolean) RL) (hNc : gNc s) (hX : va_X b L xs s s.heap) (hbl : b < s.heap.size) (hbA : ¬ A b) (hRf : 64 ≤ R.frames) (hRl : 2000 ≤ R.locals) (hk : k + 300 ≤ R.cells) (hn : n + 5000 ≤ R.slots) {p1 : Int32} (hi1 : vp_in (v4 + 1) L) (hp1 : xs (Int32.toNatClampNeg (v4 + 1)) = p1) {p2 : Int32} (hi2 : vp_in (v4 + 2) L) (hp2 : xs (Int32.toNatClampNeg (v4 + 2)) = p2) (w : vLc27 G.2.2.1 Kc h x mm o p1 p2) (kk : ∀ h' : gH, Kc h' → V p l e R s m args below meth c Z G A 8 h' (k + 300) (n + 5000) 2388 [(0, .ref b), (1, .ref x), (2, .ref mm), (3, .ref o), (4, .int v4)] []) : V p l e R s m args below meth c Z G A 8 h k n 1654 [(0, .ref b), (1, .ref x), (2, .ref mm), (3, .ref o), (4, .int v4)] [] := by
  refine V_aloadr_n X dL_law_1654 1 rfl ?_
  refine V_aloadr_n X dL_law_1655 0 rfl ?_
  refine V_iload X dL_law_1656 4 rfl ?_
  refine V_iconst (y := 1) X dL_law_1658 (by decide) ?_
  refine V_iadd X dL_law_1659 ?_
  refine V_sld (L := L) (xs := xs) X hX hbl hbA hi1 dL_law_1660 ?_
  rw [hp1]
  refine V_aloadr_n X dL_law_1661 0 rfl ?_
  refine V_iload X dL_law_1662 4 rfl ?_
  refine V_iconst (y := 2) X dL_law_1664 (by decide) ?_
  refine V_iadd X dL_law_1665 ?_
  refine V_sld (L := L) (xs := xs) X hX hbl hbA hi2 dL_law_1666 ?_
  rw [hp2]
  refine V_aloadr_n X dL_law_1667 3 rfl ?_
  refine V_callSW (As := [.ref x, .int p1, .int p2, .ref o]) (rest := []) (k1 := k + 2) (n1 := n + 12) X hNc (cL_partWeight_ok X.2.2.2.2.2.2.2.2.1 w) lwL_225 dL_law_1668 ⟨by show 10 + 1 ≤ R.frames; omega, by show 8 + (5 + 11) + 257 ≤ R.locals; omega⟩ rfl (Nat.le_of_ble_eq_true rfl) ⟨by show k + 2 ≤ R.cells; omega, by show n + 12 ≤ R.slots; omega⟩ (Nat.le_refl _) (Nat.le_refl _) (fun rk h1 w => ?_)
  refine V_istore X dL_law_1671 (by decide) rfl ?_
  refine V_aloadr_n X dL_law_1673 3 rfl ?_
  refine V_aloadr_n X dL_law_1674 1 rfl ?_
  refine V_iload X dL_law_1675 5 rfl ?_
  refine V_iconst (y := 1) X dL_law_1677 (by decide) ?_
  refine V_iadd X dL_law_1678 ?_
  refine V_sld (L := L) (xs := xs) X hX hbl hbA hi1 dL_law_1679 ?_
  rw [hp1]
  refine V_aloadr_n X dL_law_1680 1 rfl ?_
  refine V_iload X dL_law_1681 5 rfl ?_
  refine V_iconst (y := 2) X dL_law_1683 (by decide) ?_
  refine V_iadd X dL_law_1684 ?_
  refine V_sld (L := L) (xs := xs) X hX hbl hbA hi2 dL_law_1685 ?_
  rw [hp2]
  obtain ⟨fs, hh, w⟩ := w
  refine V_callVi (As := [.int p1, .int p2]) (rest := []) (k1 := k + 2 + 0) (n1 := n + 12 + 0) X (cX12_partWeight_ok X.2.2.2.2.2.2.2.2.1 w) lkL_227 hh (q9 := (RX12, TX12, 42)) rfl rfl dL_law_1686 ⟨by show 2 + 1 ≤ R.frames; omega, by show 8 + (3 + 11) + 56 ≤ R.locals; omega⟩ rfl (Nat.le_of_ble_eq_true rfl) ⟨by show k + 2 + 0 ≤ R.cells; omega, by show n + 12 + 0 ≤ R.slots; omega⟩ (Nat.le_refl _) (Nat.le_refl _) (fun rb h2 w => ?_)
  refine V_istore X dL_law_1689 (by decide) rfl ?_
  refine V_aloadr_n X dL_law_1691 4 rfl ?_
  obtain ⟨fs, hh, w⟩ := w
  refine V_callVi (As := []) (rest := []) (k1 := k + 2 + 0 + 0) (n1 := n + 12 + 0 + 0) X (cX12_thrown_ok X.2.2.2.2.2.2.2.2.1 w) lkL_129 hh (q9 := (RX12, TX12, 42)) rfl rfl dL_law_1692 ⟨by show 0 + 1 ≤ R.frames; omega, by show 8 + (1 + 11) + 0 ≤ R.locals; omega⟩ rfl (Nat.le_of_ble_eq_true rfl) ⟨by show k + 2 + 0 + 0 ≤ R.cells; omega, by show n + 12 + 0 + 0 ≤ R.slots; omega⟩ (Nat.le_refl _) (Nat.le_refl _) (fun rc h3 w => ?_)
  refine V_iload X dL_law_1695 1 rfl ?_
  refine V_icmp_eq (tgt := 1702) X dL_law_1697 (by decide) (fun z => ?_) (fun z => absurd w.1 z)
  replace w := w.2
  refine V_iload X dL_law_1702 1 rfl ?_
  have fin : V p l e R s m args below meth c Z G A 8 h3 (k + 2 + 0 + 0) (n + 12 + 0 + 0) 1719 [(6, .int rb), (5, .int rk), (0, .ref b), (1, .ref x), (2, .ref mm), (3, .ref o), (4, .int v4)] [] := by
    refine V_goto (tgt := 2388) X dL_law_1719 (by decide) ?_
    refine V.widen (k1 := k + 300) (n1 := n + 5000) (by omega) (by omega) ?_
    exact V.sub [2, 3, 4, 5, 6] rfl (kk _ w.2)
  refine V_if_ne (tgt := 1719) X dL_law_1704 (by decide) (fun z => fin) (fun z => ?_)
  refine V_aloadr_n X dL_law_1707 5 rfl ?_
  refine V_iconst (y := 0) X dL_law_1708 (by decide) ?_
  obtain ⟨N9, g9, hh9, hi9, w9⟩ := w.1 z
  refine V_lald X dL_law_1709 hh9 hi9 ?_
  refine V_iload X dL_law_1710 0 rfl ?_
  refine V_i2l X dL_law_1712 ?_
  refine V_lcmp X dL_law_1713 ?_
  exact V_if_eq (tgt := 1719) X dL_law_1714 (by decide) (fun z => fin) (fun z => absurd ((lg_cmp_eq _ _).mpr w9) z)
def vLc28 (t0 : Nat) (Kc : gH → Prop) (h : gH) (x mm o : Nat) (p1 : Int32) : Prop := vL_blocked t0 (fun rk h1 => io h1 mm 15 (vX12_blocked (fun rb h2 => io h2 mm 15 (vX12_thrown (fun rc h3 => rc = rk ∧ ((rk = 0 → ll h3 o 0 (fun y9 => y9 = Int32.toInt64 rb)) ∧ Kc h3)) h2 mm)) h1 mm p1)) h x p1 o
set_option maxRecDepth 100000 in
set_option maxHeartbeats 4000000 in
theorem tLc28 {p : Program} {l : Launch} {e : Env} {R : Room} {s : State} {m : MethodId} {args : Array Value} {below : List Frame} {meth : Method} {c : Code} {Z : State → Prop} {G : gG} {A : Nat → Prop} {h : gH} {k n b L x mm o : Nat} {xs : Nat → Int32} {v4 : Int32} {Kc : gH → Prop} (X : gC p l s m args meth c G A cL_law 8 (some .boolean) RL) (hNc : gNc s) (hX : va_X b L xs s s.heap) (hbl : b < s.heap.size) (hbA : ¬ A b) (hRf : 64 ≤ R.frames) (hRl : 2000 ≤ R.locals) (hk : k + 300 ≤ R.cells) (hn : n + 5000 ≤ R.slots) {p1 : Int32} (hi1 : vp_in (v4 + 1) L) (hp1 : xs (Int32.toNatClampNeg (v4 + 1)) = p1) (w : vLc28 G.2.2.1 Kc h x mm o p1) (kk : ∀ h' : gH, Kc h' → V p l e R s m args below meth c Z G A 8 h' (k + 300) (n + 5000) 2388 [(0, .ref b), (1, .ref x), (2, .ref mm), (3, .ref o), (4, .int v4)] []) : V p l e R s m args below meth c Z G A 8 h k n 1722 [(0, .ref b), (1, .ref x), (2, .ref mm), (3, .ref o), (4, .int v4)] [] := by
  refine V_aloadr_n X dL_law_1722 1 rfl ?_
  refine V_aloadr_n X dL_law_1723 0 rfl ?_
  refine V_iload X dL_law_1724 4 rfl ?_
  refine V_iconst (y := 1) X dL_law_1726 (by decide) ?_
  refine V_iadd X dL_law_1727 ?_
  refine V_sld (L := L) (xs := xs) X hX hbl hbA hi1 dL_law_1728 ?_
  rw [hp1]
  refine V_aloadr_n X dL_law_1729 3 rfl ?_
  refine V_callSW (As := [.ref x, .int p1, .ref o]) (rest := []) (k1 := k + 1) (n1 := n + 6) X hNc (cL_blocked_ok X.2.2.2.2.2.2.2.2.1 w) lwL_228 dL_law_1730 ⟨by show 8 + 1 ≤ R.frames; omega, by show 8 + (4 + 11) + 133 ≤ R.locals; omega⟩ rfl (Nat.le_of_ble_eq_true rfl) ⟨by show k + 1 ≤ R.cells; omega, by show n + 6 ≤ R.slots; omega⟩ (Nat.le_refl _) (Nat.le_refl _) (fun rk h1 w => ?_)
  refine V_istore X dL_law_1733 (by decide) rfl ?_
  refine V_aloadr_n X dL_law_1735 3 rfl ?_
  refine V_aloadr_n X dL_law_1736 1 rfl ?_
  refine V_iload X dL_law_1737 5 rfl ?_
  refine V_iconst (y := 1) X dL_law_1739 (by decide) ?_
  refine V_iadd X dL_law_1740 ?_
  refine V_sld (L := L) (xs := xs) X hX hbl hbA hi1 dL_law_1741 ?_
  rw [hp1]
  obtain ⟨fs, hh, w⟩ := w
  refine V_callVi (As := [.int p1]) (rest := []) (k1 := k + 1 + 0) (n1 := n + 6 + 0) X (cX12_blocked_ok X.2.2.2.2.2.2.2.2.1 w) lkL_230 hh (q9 := (RX12, TX12, 42)) rfl rfl dL_law_1742 ⟨by show 4 + 1 ≤ R.frames; omega, by show 8 + (3 + 11) + 90 ≤ R.locals; omega⟩ rfl (Nat.le_of_ble_eq_true rfl) ⟨by show k + 1 + 0 ≤ R.cells; omega, by show n + 6 + 0 ≤ R.slots; omega⟩ (Nat.le_refl _) (Nat.le_refl _) (fun rb h2 w => ?_)
  refine V_istore X dL_law_1745 (by decide) rfl ?_
  refine V_aloadr_n X dL_law_1747 4 rfl ?_
  obtain ⟨fs, hh, w⟩ := w
  refine V_callVi (As := []) (rest := []) (k1 := k + 1 + 0 + 0) (n1 := n + 6 + 0 + 0) X (cX12_thrown_ok X.2.2.2.2.2.2.2.2.1 w) lkL_129 hh (q9 := (RX12, TX12, 42)) rfl rfl dL_law_1748 ⟨by show 0 + 1 ≤ R.frames; omega, by show 8 + (1 + 11) + 0 ≤ R.locals; omega⟩ rfl (Nat.le_of_ble_eq_true rfl) ⟨by show k + 1 + 0 + 0 ≤ R.cells; omega, by show n + 6 + 0 + 0 ≤ R.slots; omega⟩ (Nat.le_refl _) (Nat.le_refl _) (fun rc h3 w => ?_)
  refine V_iload X dL_law_1751 1 rfl ?_
  refine V_icmp_eq (tgt := 1758) X dL_law_1753 (by decide) (fun z => ?_) (fun z => absurd w.1 z)
  replace w := w.2
  refine V_iload X dL_law_1758 1 rfl ?_
  have fin : V p l e R s m args below meth c Z G A 8 h3 (k + 1 + 0 + 0) (n + 6 + 0 + 0) 1775 [(6, .int rb), (5, .int rk), (0, .ref b), (1, .ref x), (2, .ref mm), (3, .ref o), (4, .int v4)] [] := by
    refine V_goto (tgt := 2388) X dL_law_1775 (by decide) ?_
    refine V.widen (k1 := k + 300) (n1 := n + 5000) (by omega) (by omega) ?_
    exact V.sub [2, 3, 4, 5, 6] rfl (kk _ w.2)
  refine V_if_ne (tgt := 1775) X dL_law_1760 (by decide) (fun z => fin) (fun z => ?_)
  refine V_aloadr_n X dL_law_1763 5 rfl ?_
  refine V_iconst (y := 0) X dL_law_1764 (by decide) ?_
  obtain ⟨N9, g9, hh9, hi9, w9⟩ := w.1 z
  refine V_lald X dL_law_1765 hh9 hi9 ?_
  refine V_iload X dL_law_1766 0 rfl ?_
  refine V_i2l X dL_law_1768 ?_
  refine V_lcmp X dL_law_1769 ?_
  exact V_if_eq (tgt := 1775) X dL_law_1770 (by decide) (fun z => fin) (fun z => absurd ((lg_cmp_eq _ _).mpr w9) z)
def vLc29 (t0 : Nat) (Kc : gH → Prop) (h : gH) (x mm o : Nat)  : Prop := io h x 14 (vX11_poseSize t0 (fun ra h1 => io h1 mm 15 (vX12_poseSize (fun rb h2 => ra = rb ∧ Kc h2) h1 mm)) h x)
set_option maxRecDepth 100000 in
set_option maxHeartbeats 4000000 in
theorem tLc29 {p : Program} {l : Launch} {e : Env} {R : Room} {s : State} {m : MethodId} {args : Array Value} {below : List Frame} {meth : Method} {c : Code} {Z : State → Prop} {G : gG} {A : Nat → Prop} {h : gH} {k n b L x mm o : Nat} {xs : Nat → Int32} {v4 : Int32} {Kc : gH → Prop} (X : gC p l s m args meth c G A cL_law 8 (some .boolean) RL) (hNc : gNc s) (hX : va_X b L xs s s.heap) (hbl : b < s.heap.size) (hbA : ¬ A b) (hRf : 64 ≤ R.frames) (hRl : 2000 ≤ R.locals) (hk : k + 300 ≤ R.cells) (hn : n + 5000 ≤ R.slots)  (w : vLc29 G.2.2.1 Kc h x mm o ) (kk : ∀ h' : gH, Kc h' → V p l e R s m args below meth c Z G A 8 h' (k + 300) (n + 5000) 2388 [(0, .ref b), (1, .ref x), (2, .ref mm), (3, .ref o), (4, .int v4)] []) : V p l e R s m args below meth c Z G A 8 h k n 1778 [(0, .ref b), (1, .ref x), (2, .ref mm), (3, .ref o), (4, .int v4)] [] := by
  refine V_aloadr_n X dL_law_1778 1 rfl ?_
  obtain ⟨fs, hh, w⟩ := w
  refine V_callVi (As := []) (rest := []) (k1 := k + 0) (n1 := n + 0) X (cX11_poseSize_ok X.2.2.2.2.2.2.2.2.1 w) lkL_231 hh (q9 := (RX11, TX11, 7)) rfl rfl dL_law_1779 ⟨by show 12 + 1 ≤ R.frames; omega, by show 8 + (1 + 11) + 299 ≤ R.locals; omega⟩ rfl (Nat.le_of_ble_eq_true rfl) ⟨by show k + 0 ≤ R.cells; omega, by show n + 0 ≤ R.slots; omega⟩ (Nat.le_refl _) (Nat.le_refl _) (fun ra h1 w => ?_)
  refine V_aloadr_n X dL_law_1782 2 rfl ?_
  obtain ⟨fs, hh, w⟩ := w
  refine V_callVi (As := []) (rest := [.int ra]) (k1 := k + 0 + 0) (n1 := n + 0 + 0) X (cX12_poseSize_ok X.2.2.2.2.2.2.2.2.1 w) lkL_234 hh (q9 := (RX12, TX12, 42)) rfl rfl dL_law_1783 ⟨by show 4 + 1 ≤ R.frames; omega, by show 8 + (1 + 11) + 104 ≤ R.locals; omega⟩ rfl (Nat.le_of_ble_eq_true rfl) ⟨by show k + 0 + 0 ≤ R.cells; omega, by show n + 0 + 0 ≤ R.slots; omega⟩ (Nat.le_refl _) (Nat.le_refl _) (fun rb h2 w => ?_)
  refine V_icmp_eq (tgt := 2388) X dL_law_1786 (by decide) (fun z => ?_) (fun z => absurd w.1 z)
  replace w := w.2
  refine V.widen (k1 := k + 300) (n1 := n + 5000) (by omega) (by omega) ?_
  exact V.sub [0, 1, 2, 3, 4] rfl (kk _ w)
def vLc30 (t0 : Nat) (Kc : gH → Prop) (h : gH) (x mm o : Nat) (p1 : Int32) : Prop := vL_poseClip t0 (fun rk h1 => io h1 mm 15 (vX12_poseClip (fun rb h2 => io h2 mm 15 (vX12_thrown (fun rc h3 => rc = rk ∧ ((rk = 0 → ll h3 o 0 (fun y9 => y9 = Int32.toInt64 rb)) ∧ Kc h3)) h2 mm)) h1 mm p1)) h x p1 o
set_option maxRecDepth 100000 in
set_option maxHeartbeats 4000000 in
theorem tLc30 {p : Program} {l : Launch} {e : Env} {R : Room} {s : State} {m : MethodId} {args : Array Value} {below : List Frame} {meth : Method} {c : Code} {Z : State → Prop} {G : gG} {A : Nat → Prop} {h : gH} {k n b L x mm o : Nat} {xs : Nat → Int32} {v4 : Int32} {Kc : gH → Prop} (X : gC p l s m args meth c G A cL_law 8 (some .boolean) RL) (hNc : gNc s) (hX : va_X b L xs s s.heap) (hbl : b < s.heap.size) (hbA : ¬ A b) (hRf : 64 ≤ R.frames) (hRl : 2000 ≤ R.locals) (hk : k + 300 ≤ R.cells) (hn : n + 5000 ≤ R.slots) {p1 : Int32} (hi1 : vp_in (v4 + 1) L) (hp1 : xs (Int32.toNatClampNeg (v4 + 1)) = p1) (w : vLc30 G.2.2.1 Kc h x mm o p1) (kk : ∀ h' : gH, Kc h' → V p l e R s m args below meth c Z G A 8 h' (k + 300) (n + 5000) 2388 [(0, .ref b), (1, .ref x), (2, .ref mm), (3, .ref o), (4, .int v4)] []) : V p l e R s m args below meth c Z G A 8 h k n 1791 [(0, .ref b), (1, .ref x), (2, .ref mm), (3, .ref o), (4, .int v4)] [] := by
  refine V_aloadr_n X dL_law_1791 1 rfl ?_
  refine V_aloadr_n X dL_law_1792 0 rfl ?_
  refine V_iload X dL_law_1793 4 rfl ?_
  refine V_iconst (y := 1) X dL_law_1795 (by decide) ?_
  refine V_iadd X dL_law_1796 ?_
  refine V_sld (L := L) (xs := xs) X hX hbl hbA hi1 dL_law_1797 ?_
  rw [hp1]
  refine V_aloadr_n X dL_law_1798 3 rfl ?_
  refine V_callSW (As := [.ref x, .int p1, .ref o]) (rest := []) (k1 := k + 1) (n1 := n + 6) X hNc (cL_poseClip_ok X.2.2.2.2.2.2.2.2.1 w) lwL_235 dL_law_1799 ⟨by show 13 + 1 ≤ R.frames; omega, by show 8 + (4 + 11) + 321 ≤ R.locals; omega⟩ rfl (Nat.le_of_ble_eq_true rfl) ⟨by show k + 1 ≤ R.cells; omega, by show n + 6 ≤ R.slots; omega⟩ (Nat.le_refl _) (Nat.le_refl _) (fun rk h1 w => ?_)
  refine V_istore X dL_law_1802 (by decide) rfl ?_
  refine V_aloadr_n X dL_law_1804 3 rfl ?_
  refine V_aloadr_n X dL_law_1805 1 rfl ?_
  refine V_iload X dL_law_1806 5 rfl ?_
  refine V_iconst (y := 1) X dL_law_1808 (by decide) ?_
  refine V_iadd X dL_law_1809 ?_
  refine V_sld (L := L) (xs := xs) X hX hbl hbA hi1 dL_law_1810 ?_
  rw [hp1]
  obtain ⟨fs, hh, w⟩ := w
  refine V_callVi (As := [.int p1]) (rest := []) (k1 := k + 1 + 0) (n1 := n + 6 + 0) X (cX12_poseClip_ok X.2.2.2.2.2.2.2.2.1 w) lkL_237 hh (q9 := (RX12, TX12, 42)) rfl rfl dL_law_1811 ⟨by show 5 + 1 ≤ R.frames; omega, by show 8 + (2 + 11) + 125 ≤ R.locals; omega⟩ rfl (Nat.le_of_ble_eq_true rfl) ⟨by show k + 1 + 0 ≤ R.cells; omega, by show n + 6 + 0 ≤ R.slots; omega⟩ (Nat.le_refl _) (Nat.le_refl _) (fun rb h2 w => ?_)
  refine V_istore X dL_law_1814 (by decide) rfl ?_
  refine V_aloadr_n X dL_law_1816 4 rfl ?_
  obtain ⟨fs, hh, w⟩ := w
  refine V_callVi (As := []) (rest := []) (k1 := k + 1 + 0 + 0) (n1 := n + 6 + 0 + 0) X (cX12_thrown_ok X.2.2.2.2.2.2.2.2.1 w) lkL_129 hh (q9 := (RX12, TX12, 42)) rfl rfl dL_law_1817 ⟨by show 0 + 1 ≤ R.frames; omega, by show 8 + (1 + 11) + 0 ≤ R.locals; omega⟩ rfl (Nat.le_of_ble_eq_true rfl) ⟨by show k + 1 + 0 + 0 ≤ R.cells; omega, by show n + 6 + 0 + 0 ≤ R.slots; omega⟩ (Nat.le_refl _) (Nat.le_refl _) (fun rc h3 w => ?_)
  refine V_iload X dL_law_1820 1 rfl ?_
  refine V_icmp_eq (tgt := 1827) X dL_law_1822 (by decide) (fun z => ?_) (fun z => absurd w.1 z)
  replace w := w.2
  refine V_iload X dL_law_1827 1 rfl ?_
  have fin : V p l e R s m args below meth c Z G A 8 h3 (k + 1 + 0 + 0) (n + 6 + 0 + 0) 1844 [(6, .int rb), (5, .int rk), (0, .ref b), (1, .ref x), (2, .ref mm), (3, .ref o), (4, .int v4)] [] := by
    refine V_goto (tgt := 2388) X dL_law_1844 (by decide) ?_
    refine V.widen (k1 := k + 300) (n1 := n + 5000) (by omega) (by omega) ?_
    exact V.sub [2, 3, 4, 5, 6] rfl (kk _ w.2)
  refine V_if_ne (tgt := 1844) X dL_law_1829 (by decide) (fun z => fin) (fun z => ?_)
  refine V_aloadr_n X dL_law_1832 5 rfl ?_
  refine V_iconst (y := 0) X dL_law_1833 (by decide) ?_
  obtain ⟨N9, g9, hh9, hi9, w9⟩ := w.1 z
  refine V_lald X dL_law_1834 hh9 hi9 ?_
  refine V_iload X dL_law_1835 0 rfl ?_
  refine V_i2l X dL_law_1837 ?_
  refine V_lcmp X dL_law_1838 ?_
  exact V_if_eq (tgt := 1844) X dL_law_1839 (by decide) (fun z => fin) (fun z => absurd ((lg_cmp_eq _ _).mpr w9) z)
def vLc31 (t0 : Nat) (Kc : gH → Prop) (h : gH) (x mm o : Nat) (p1 : Int32) : Prop := vL_poseTime t0 (fun rk h1 => io h1 mm 15 (vX12_poseTime (fun rb h2 => io h2 mm 15 (vX12_thrown (fun rc h3 => rc = rk ∧ ((rk = 0 → ll h3 o 0 (fun y9 => y9 = Int32.toInt64 rb)) ∧ Kc h3)) h2 mm)) h1 mm p1)) h x p1 o
set_option maxRecDepth 100000 in
set_option maxHeartbeats 4000000 in
theorem tLc31 {p : Program} {l : Launch} {e : Env} {R : Room} {s : State} {m : MethodId} {args : Array Value} {below : List Frame} {meth : Method} {c : Code} {Z : State → Prop} {G : gG} {A : Nat → Prop} {h : gH} {k n b L x mm o : Nat} {xs : Nat → Int32} {v4 : Int32} {Kc : gH → Prop} (X : gC p l s m args meth c G A cL_law 8 (some .boolean) RL) (hNc : gNc s) (hX : va_X b L xs s s.heap) (hbl : b < s.heap.size) (hbA : ¬ A b) (hRf : 64 ≤ R.frames) (hRl : 2000 ≤ R.locals) (hk : k + 300 ≤ R.cells) (hn : n + 5000 ≤ R.slots) {p1 : Int32} (hi1 : vp_in (v4 + 1) L) (hp1 : xs (Int32.toNatClampNeg (v4 + 1)) = p1) (w : vLc31 G.2.2.1 Kc h x mm o p1) (kk : ∀ h' : gH, Kc h' → V p l e R s m args below meth c Z G A 8 h' (k + 300) (n + 5000) 2388 [(0, .ref b), (1, .ref x), (2, .ref mm), (3, .ref o), (4, .int v4)] []) : V p l e R s m args below meth c Z G A 8 h k n 1847 [(0, .ref b), (1, .ref x), (2, .ref mm), (3, .ref o), (4, .int v4)] [] := by
  refine V_aloadr_n X dL_law_1847 1 rfl ?_
  refine V_aloadr_n X dL_law_1848 0 rfl ?_
  refine V_iload X dL_law_1849 4 rfl ?_
  refine V_iconst (y := 1) X dL_law_1851 (by decide) ?_
  refine V_iadd X dL_law_1852 ?_
  refine V_sld (L := L) (xs := xs) X hX hbl hbA hi1 dL_law_1853 ?_
  rw [hp1]
  refine V_aloadr_n X dL_law_1854 3 rfl ?_
  refine V_callSW (As := [.ref x, .int p1, .ref o]) (rest := []) (k1 := k + 1) (n1 := n + 6) X hNc (cL_poseTime_ok X.2.2.2.2.2.2.2.2.1 w) lwL_238 dL_law_1855 ⟨by show 13 + 1 ≤ R.frames; omega, by show 8 + (4 + 11) + 321 ≤ R.locals; omega⟩ rfl (Nat.le_of_ble_eq_true rfl) ⟨by show k + 1 ≤ R.cells; omega, by show n + 6 ≤ R.slots; omega⟩ (Nat.le_refl _) (Nat.le_refl _) (fun rk h1 w => ?_)
  refine V_istore X dL_law_1858 (by decide) rfl ?_
  refine V_aloadr_n X dL_law_1860 3 rfl ?_
  refine V_aloadr_n X dL_law_1861 1 rfl ?_
  refine V_iload X dL_law_1862 5 rfl ?_
  refine V_iconst (y := 1) X dL_law_1864 (by decide) ?_
  refine V_iadd X dL_law_1865 ?_
  refine V_sld (L := L) (xs := xs) X hX hbl hbA hi1 dL_law_1866 ?_
  rw [hp1]
  obtain ⟨fs, hh, w⟩ := w
  refine V_callVi (As := [.int p1]) (rest := []) (k1 := k + 1 + 0) (n1 := n + 6 + 0) X (cX12_poseTime_ok X.2.2.2.2.2.2.2.2.1 w) lkL_240 hh (q9 := (RX12, TX12, 42)) rfl rfl dL_law_1867 ⟨by show 5 + 1 ≤ R.frames; omega, by show 8 + (2 + 11) + 125 ≤ R.locals; omega⟩ rfl (Nat.le_of_ble_eq_true rfl) ⟨by show k + 1 + 0 ≤ R.cells; omega, by show n + 6 + 0 ≤ R.slots; omega⟩ (Nat.le_refl _) (Nat.le_refl _) (fun rb h2 w => ?_)
  refine V_istore X dL_law_1870 (by decide) rfl ?_
  refine V_aloadr_n X dL_law_1872 4 rfl ?_
  obtain ⟨fs, hh, w⟩ := w
  refine V_callVi (As := []) (rest := []) (k1 := k + 1 + 0 + 0) (n1 := n + 6 + 0 + 0) X (cX12_thrown_ok X.2.2.2.2.2.2.2.2.1 w) lkL_129 hh (q9 := (RX12, TX12, 42)) rfl rfl dL_law_1873 ⟨by show 0 + 1 ≤ R.frames; omega, by show 8 + (1 + 11) + 0 ≤ R.locals; omega⟩ rfl (Nat.le_of_ble_eq_true rfl) ⟨by show k + 1 + 0 + 0 ≤ R.cells; omega, by show n + 6 + 0 + 0 ≤ R.slots; omega⟩ (Nat.le_refl _) (Nat.le_refl _) (fun rc h3 w => ?_)
  refine V_iload X dL_law_1876 1 rfl ?_
  refine V_icmp_eq (tgt := 1883) X dL_law_1878 (by decide) (fun z => ?_) (fun z => absurd w.1 z)
  replace w := w.2
  refine V_iload X dL_law_1883 1 rfl ?_
  have fin : V p l e R s m args below meth c Z G A 8 h3 (k + 1 + 0 + 0) (n + 6 + 0 + 0) 1900 [(6, .int rb), (5, .int rk), (0, .ref b), (1, .ref x), (2, .ref mm), (3, .ref o), (4, .int v4)] [] := by
    refine V_goto (tgt := 2388) X dL_law_1900 (by decide) ?_
    refine V.widen (k1 := k + 300) (n1 := n + 5000) (by omega) (by omega) ?_
    exact V.sub [2, 3, 4, 5, 6] rfl (kk _ w.2)
  refine V_if_ne (tgt := 1900) X dL_law_1885 (by decide) (fun z => fin) (fun z => ?_)
  refine V_aloadr_n X dL_law_1888 5 rfl ?_
  refine V_iconst (y := 0) X dL_law_1889 (by decide) ?_
  obtain ⟨N9, g9, hh9, hi9, w9⟩ := w.1 z
  refine V_lald X dL_law_1890 hh9 hi9 ?_
  refine V_iload X dL_law_1891 0 rfl ?_
  refine V_i2l X dL_law_1893 ?_
  refine V_lcmp X dL_law_1894 ?_
  exact V_if_eq (tgt := 1900) X dL_law_1895 (by decide) (fun z => fin) (fun z => absurd ((lg_cmp_eq _ _).mpr w9) z)
def vLc32 (t0 : Nat) (Kc : gH → Prop) (h : gH) (x mm o : Nat) (p1 : Int32) : Prop := vL_poseWeight t0 (fun rk h1 => io h1 mm 15 (vX12_poseWeight (fun rb h2 => io h2 mm 15 (vX12_thrown (fun rc h3 => rc = rk ∧ ((rk = 0 → ll h3 o 0 (fun y9 => y9 = Int32.toInt64 rb)) ∧ Kc h3)) h2 mm)) h1 mm p1)) h x p1 o
set_option maxRecDepth 100000 in
set_option maxHeartbeats 4000000 in
theorem tLc32 {p : Program} {l : Launch} {e : Env} {R : Room} {s : State} {m : MethodId} {args : Array Value} {below : List Frame} {meth : Method} {c : Code} {Z : State → Prop} {G : gG} {A : Nat → Prop} {h : gH} {k n b L x mm o : Nat} {xs : Nat → Int32} {v4 : Int32} {Kc : gH → Prop} (X : gC p l s m args meth c G A cL_law 8 (some .boolean) RL) (hNc : gNc s) (hX : va_X b L xs s s.heap) (hbl : b < s.heap.size) (hbA : ¬ A b) (hRf : 64 ≤ R.frames) (hRl : 2000 ≤ R.locals) (hk : k + 300 ≤ R.cells) (hn : n + 5000 ≤ R.slots) {p1 : Int32} (hi1 : vp_in (v4 + 1) L) (hp1 : xs (Int32.toNatClampNeg (v4 + 1)) = p1) (w : vLc32 G.2.2.1 Kc h x mm o p1) (kk : ∀ h' : gH, Kc h' → V p l e R s m args below meth c Z G A 8 h' (k + 300) (n + 5000) 2388 [(0, .ref b), (1, .ref x), (2, .ref mm), (3, .ref o), (4, .int v4)] []) : V p l e R s m args below meth c Z G A 8 h k n 1903 [(0, .ref b), (1, .ref x), (2, .ref mm), (3, .ref o), (4, .int v4)] [] := by
  refine V_aloadr_n X dL_law_1903 1 rfl ?_
  refine V_aloadr_n X dL_law_1904 0 rfl ?_
  refine V_iload X dL_law_1905 4 rfl ?_
  refine V_iconst (y := 1) X dL_law_1907 (by decide) ?_
  refine V_iadd X dL_law_1908 ?_
  refine V_sld (L := L) (xs := xs) X hX hbl hbA hi1 dL_law_1909 ?_
  rw [hp1]
  refine V_aloadr_n X dL_law_1910 3 rfl ?_
  refine V_callSW (As := [.ref x, .int p1, .ref o]) (rest := []) (k1 := k + 1) (n1 := n + 6) X hNc (cL_poseWeight_ok X.2.2.2.2.2.2.2.2.1 w) lwL_241 dL_law_1911 ⟨by show 13 + 1 ≤ R.frames; omega, by show 8 + (4 + 11) + 321 ≤ R.locals; omega⟩ rfl (Nat.le_of_ble_eq_true rfl) ⟨by show k + 1 ≤ R.cells; omega, by show n + 6 ≤ R.slots; omega⟩ (Nat.le_refl _) (Nat.le_refl _) (fun rk h1 w => ?_)
  refine V_istore X dL_law_1914 (by decide) rfl ?_
  refine V_aloadr_n X dL_law_1916 3 rfl ?_
  refine V_aloadr_n X dL_law_1917 1 rfl ?_
  refine V_iload X dL_law_1918 5 rfl ?_
  refine V_iconst (y := 1) X dL_law_1920 (by decide) ?_
  refine V_iadd X dL_law_1921 ?_
  refine V_sld (L := L) (xs := xs) X hX hbl hbA hi1 dL_law_1922 ?_
  rw [hp1]
  obtain ⟨fs, hh, w⟩ := w
  refine V_callVi (As := [.int p1]) (rest := []) (k1 := k + 1 + 0) (n1 := n + 6 + 0) X (cX12_poseWeight_ok X.2.2.2.2.2.2.2.2.1 w) lkL_243 hh (q9 := (RX12, TX12, 42)) rfl rfl dL_law_1923 ⟨by show 5 + 1 ≤ R.frames; omega, by show 8 + (2 + 11) + 125 ≤ R.locals; omega⟩ rfl (Nat.le_of_ble_eq_true rfl) ⟨by show k + 1 + 0 ≤ R.cells; omega, by show n + 6 + 0 ≤ R.slots; omega⟩ (Nat.le_refl _) (Nat.le_refl _) (fun rb h2 w => ?_)
  refine V_istore X dL_law_1926 (by decide) rfl ?_
  refine V_aloadr_n X dL_law_1928 4 rfl ?_
  obtain ⟨fs, hh, w⟩ := w
  refine V_callVi (As := []) (rest := []) (k1 := k + 1 + 0 + 0) (n1 := n + 6 + 0 + 0) X (cX12_thrown_ok X.2.2.2.2.2.2.2.2.1 w) lkL_129 hh (q9 := (RX12, TX12, 42)) rfl rfl dL_law_1929 ⟨by show 0 + 1 ≤ R.frames; omega, by show 8 + (1 + 11) + 0 ≤ R.locals; omega⟩ rfl (Nat.le_of_ble_eq_true rfl) ⟨by show k + 1 + 0 + 0 ≤ R.cells; omega, by show n + 6 + 0 + 0 ≤ R.slots; omega⟩ (Nat.le_refl _) (Nat.le_refl _) (fun rc h3 w => ?_)
  refine V_iload X dL_law_1932 1 rfl ?_
  refine V_icmp_eq (tgt := 1939) X dL_law_1934 (by decide) (fun z => ?_) (fun z => absurd w.1 z)
  replace w := w.2
  refine V_iload X dL_law_1939 1 rfl ?_
  have fin : V p l e R s m args below meth c Z G A 8 h3 (k + 1 + 0 + 0) (n + 6 + 0 + 0) 1956 [(6, .int rb), (5, .int rk), (0, .ref b), (1, .ref x), (2, .ref mm), (3, .ref o), (4, .int v4)] [] := by
    refine V_goto (tgt := 2388) X dL_law_1956 (by decide) ?_
    refine V.widen (k1 := k + 300) (n1 := n + 5000) (by omega) (by omega) ?_
    exact V.sub [2, 3, 4, 5, 6] rfl (kk _ w.2)
  refine V_if_ne (tgt := 1956) X dL_law_1941 (by decide) (fun z => fin) (fun z => ?_)
  refine V_aloadr_n X dL_law_1944 5 rfl ?_
  refine V_iconst (y := 0) X dL_law_1945 (by decide) ?_
  obtain ⟨N9, g9, hh9, hi9, w9⟩ := w.1 z
  refine V_lald X dL_law_1946 hh9 hi9 ?_
  refine V_iload X dL_law_1947 0 rfl ?_
  refine V_i2l X dL_law_1949 ?_
  refine V_lcmp X dL_law_1950 ?_
  exact V_if_eq (tgt := 1956) X dL_law_1951 (by decide) (fun z => fin) (fun z => absurd ((lg_cmp_eq _ _).mpr w9) z)
def vLc33 (t0 : Nat) (Kc : gH → Prop) (h : gH) (x mm o : Nat)  : Prop := io h x 14 (vX11_fired t0 (fun ra h1 => io h1 mm 15 (vX12_fired (fun rb h2 => ra = rb ∧ Kc h2) h1 mm)) h x)
set_option maxRecDepth 100000 in
set_option maxHeartbeats 4000000 in
theorem tLc33 {p : Program} {l : Launch} {e : Env} {R : Room} {s : State} {m : MethodId} {args : Array Value} {below : List Frame} {meth : Method} {c : Code} {Z : State → Prop} {G : gG} {A : Nat → Prop} {h : gH} {k n b L x mm o : Nat} {xs : Nat → Int32} {v4 : Int32} {Kc : gH → Prop} (X : gC p l s m args meth c G A cL_law 8 (some .boolean) RL) (hNc : gNc s) (hX : va_X b L xs s s.heap) (hbl : b < s.heap.size) (hbA : ¬ A b) (hRf : 64 ≤ R.frames) (hRl : 2000 ≤ R.locals) (hk : k + 300 ≤ R.cells) (hn : n + 5000 ≤ R.slots)  (w : vLc33 G.2.2.1 Kc h x mm o ) (kk : ∀ h' : gH, Kc h' → V p l e R s m args below meth c Z G A 8 h' (k + 300) (n + 5000) 2388 [(0, .ref b), (1, .ref x), (2, .ref mm), (3, .ref o), (4, .int v4)] []) : V p l e R s m args below meth c Z G A 8 h k n 1959 [(0, .ref b), (1, .ref x), (2, .ref mm), (3, .ref o), (4, .int v4)] [] := by
  refine V_aloadr_n X dL_law_1959 1 rfl ?_
  obtain ⟨fs, hh, w⟩ := w
  refine V_callVi (As := []) (rest := []) (k1 := k + 0) (n1 := n + 0) X (cX11_fired_ok X.2.2.2.2.2.2.2.2.1 w) lkL_244 hh (q9 := (RX11, TX11, 7)) rfl rfl dL_law_1960 ⟨by show 0 + 1 ≤ R.frames; omega, by show 8 + (1 + 11) + 0 ≤ R.locals; omega⟩ rfl (Nat.le_of_ble_eq_true rfl) ⟨by show k + 0 ≤ R.cells; omega, by show n + 0 ≤ R.slots; omega⟩ (Nat.le_refl _) (Nat.le_refl _) (fun ra h1 w => ?_)
  refine V_aloadr_n X dL_law_1963 2 rfl ?_
  obtain ⟨fs, hh, w⟩ := w
  refine V_callVi (As := []) (rest := [.int ra]) (k1 := k + 0 + 0) (n1 := n + 0 + 0) X (cX12_fired_ok X.2.2.2.2.2.2.2.2.1 w) lkL_247 hh (q9 := (RX12, TX12, 42)) rfl rfl dL_law_1964 ⟨by show 0 + 1 ≤ R.frames; omega, by show 8 + (1 + 11) + 0 ≤ R.locals; omega⟩ rfl (Nat.le_of_ble_eq_true rfl) ⟨by show k + 0 + 0 ≤ R.cells; omega, by show n + 0 + 0 ≤ R.slots; omega⟩ (Nat.le_refl _) (Nat.le_refl _) (fun rb h2 w => ?_)
  refine V_icmp_eq (tgt := 2388) X dL_law_1967 (by decide) (fun z => ?_) (fun z => absurd w.1 z)
  replace w := w.2
  refine V.widen (k1 := k + 300) (n1 := n + 5000) (by omega) (by omega) ?_
  exact V.sub [0, 1, 2, 3, 4] rfl (kk _ w)
def vLc34 (t0 : Nat) (Kc : gH → Prop) (h : gH) (x mm o : Nat) (p1 : Int32) (p2 : Int32) : Prop := vL_event t0 (fun rk h1 => io h1 mm 15 (vX12_event (fun rb h2 => io h2 mm 15 (vX12_thrown (fun rc h3 => rc = rk ∧ ((rk = 0 → ll h3 o 0 (fun y9 => y9 = Int32.toInt64 rb)) ∧ Kc h3)) h2 mm)) h1 mm p1 p2)) h x p1 p2 o
set_option maxRecDepth 100000 in
set_option maxHeartbeats 4000000 in
theorem tLc34 {p : Program} {l : Launch} {e : Env} {R : Room} {s : State} {m : MethodId} {args : Array Value} {below : List Frame} {meth : Method} {c : Code} {Z : State → Prop} {G : gG} {A : Nat → Prop} {h : gH} {k n b L x mm o : Nat} {xs : Nat → Int32} {v4 : Int32} {Kc : gH → Prop} (X : gC p l s m args meth c G A cL_law 8 (some .boolean) RL) (hNc : gNc s) (hX : va_X b L xs s s.heap) (hbl : b < s.heap.size) (hbA : ¬ A b) (hRf : 64 ≤ R.frames) (hRl : 2000 ≤ R.locals) (hk : k + 300 ≤ R.cells) (hn : n + 5000 ≤ R.slots) {p1 : Int32} (hi1 : vp_in (v4 + 1) L) (hp1 : xs (Int32.toNatClampNeg (v4 + 1)) = p1) {p2 : Int32} (hi2 : vp_in (v4 + 2) L) (hp2 : xs (Int32.toNatClampNeg (v4 + 2)) = p2) (w : vLc34 G.2.2.1 Kc h x mm o p1 p2) (kk : ∀ h' : gH, Kc h' → V p l e R s m args below meth c Z G A 8 h' (k + 300) (n + 5000) 2388 [(0, .ref b), (1, .ref x), (2, .ref mm), (3, .ref o), (4, .int v4)] []) : V p l e R s m args below meth c Z G A 8 h k n 1972 [(0, .ref b), (1, .ref x), (2, .ref mm), (3, .ref o), (4, .int v4)] [] := by
  refine V_aloadr_n X dL_law_1972 1 rfl ?_
  refine V_aloadr_n X dL_law_1973 0 rfl ?_
  refine V_iload X dL_law_1974 4 rfl ?_
  refine V_iconst (y := 1) X dL_law_1976 (by decide) ?_
  refine V_iadd X dL_law_1977 ?_
  refine V_sld (L := L) (xs := xs) X hX hbl hbA hi1 dL_law_1978 ?_
  rw [hp1]
  refine V_aloadr_n X dL_law_1979 0 rfl ?_
  refine V_iload X dL_law_1980 4 rfl ?_
  refine V_iconst (y := 2) X dL_law_1982 (by decide) ?_
  refine V_iadd X dL_law_1983 ?_
  refine V_sld (L := L) (xs := xs) X hX hbl hbA hi2 dL_law_1984 ?_
  rw [hp2]
  refine V_aloadr_n X dL_law_1985 3 rfl ?_
  refine V_callSW (As := [.ref x, .int p1, .int p2, .ref o]) (rest := []) (k1 := k + 1) (n1 := n + 6) X hNc (cL_event_ok X.2.2.2.2.2.2.2.2.1 w) lwL_248 dL_law_1986 ⟨by show 7 + 1 ≤ R.frames; omega, by show 8 + (5 + 11) + 112 ≤ R.locals; omega⟩ rfl (Nat.le_of_ble_eq_true rfl) ⟨by show k + 1 ≤ R.cells; omega, by show n + 6 ≤ R.slots; omega⟩ (Nat.le_refl _) (Nat.le_refl _) (fun rk h1 w => ?_)
  refine V_istore X dL_law_1989 (by decide) rfl ?_
  refine V_aloadr_n X dL_law_1991 3 rfl ?_
  refine V_aloadr_n X dL_law_1992 1 rfl ?_
  refine V_iload X dL_law_1993 5 rfl ?_
  refine V_iconst (y := 1) X dL_law_1995 (by decide) ?_
  refine V_iadd X dL_law_1996 ?_
  refine V_sld (L := L) (xs := xs) X hX hbl hbA hi1 dL_law_1997 ?_
  rw [hp1]
  refine V_aloadr_n X dL_law_1998 1 rfl ?_
  refine V_iload X dL_law_1999 5 rfl ?_
  refine V_iconst (y := 2) X dL_law_2001 (by decide) ?_
  refine V_iadd X dL_law_2002 ?_
  refine V_sld (L := L) (xs := xs) X hX hbl hbA hi2 dL_law_2003 ?_
  rw [hp2]
  obtain ⟨fs, hh, w⟩ := w
  refine V_callVi (As := [.int p1, .int p2]) (rest := []) (k1 := k + 1 + 0) (n1 := n + 6 + 0) X (cX12_event_ok X.2.2.2.2.2.2.2.2.1 w) lkL_250 hh (q9 := (RX12, TX12, 42)) rfl rfl dL_law_2004 ⟨by show 1 + 1 ≤ R.frames; omega, by show 8 + (3 + 11) + 25 ≤ R.locals; omega⟩ rfl (Nat.le_of_ble_eq_true rfl) ⟨by show k + 1 + 0 ≤ R.cells; omega, by show n + 6 + 0 ≤ R.slots; omega⟩ (Nat.le_refl _) (Nat.le_refl _) (fun rb h2 w => ?_)
  refine V_istore X dL_law_2007 (by decide) rfl ?_
  refine V_aloadr_n X dL_law_2009 4 rfl ?_
  obtain ⟨fs, hh, w⟩ := w
  refine V_callVi (As := []) (rest := []) (k1 := k + 1 + 0 + 0) (n1 := n + 6 + 0 + 0) X (cX12_thrown_ok X.2.2.2.2.2.2.2.2.1 w) lkL_129 hh (q9 := (RX12, TX12, 42)) rfl rfl dL_law_2010 ⟨by show 0 + 1 ≤ R.frames; omega, by show 8 + (1 + 11) + 0 ≤ R.locals; omega⟩ rfl (Nat.le_of_ble_eq_true rfl) ⟨by show k + 1 + 0 + 0 ≤ R.cells; omega, by show n + 6 + 0 + 0 ≤ R.slots; omega⟩ (Nat.le_refl _) (Nat.le_refl _) (fun rc h3 w => ?_)
  refine V_iload X dL_law_2013 1 rfl ?_
  refine V_icmp_eq (tgt := 2020) X dL_law_2015 (by decide) (fun z => ?_) (fun z => absurd w.1 z)
  replace w := w.2
  refine V_iload X dL_law_2020 1 rfl ?_
  have fin : V p l e R s m args below meth c Z G A 8 h3 (k + 1 + 0 + 0) (n + 6 + 0 + 0) 2037 [(6, .int rb), (5, .int rk), (0, .ref b), (1, .ref x), (2, .ref mm), (3, .ref o), (4, .int v4)] [] := by
    refine V_goto (tgt := 2388) X dL_law_2037 (by decide) ?_
    refine V.widen (k1 := k + 300) (n1 := n + 5000) (by omega) (by omega) ?_
    exact V.sub [2, 3, 4, 5, 6] rfl (kk _ w.2)
  refine V_if_ne (tgt := 2037) X dL_law_2022 (by decide) (fun z => fin) (fun z => ?_)
  refine V_aloadr_n X dL_law_2025 5 rfl ?_
  refine V_iconst (y := 0) X dL_law_2026 (by decide) ?_
  obtain ⟨N9, g9, hh9, hi9, w9⟩ := w.1 z
  refine V_lald X dL_law_2027 hh9 hi9 ?_
  refine V_iload X dL_law_2028 0 rfl ?_
  refine V_i2l X dL_law_2030 ?_
  refine V_lcmp X dL_law_2031 ?_
  exact V_if_eq (tgt := 2037) X dL_law_2032 (by decide) (fun z => fin) (fun z => absurd ((lg_cmp_eq _ _).mpr w9) z)
def vLc35 (t0 : Nat) (Kc : gH → Prop) (h : gH) (x mm o : Nat) (p1 : Int32) : Prop := vL_foretell t0 (fun rk h1 => io h1 mm 15 (vX12_foretell (fun rb h2 => io h2 mm 15 (vX12_thrown (fun rc h3 => rc = rk ∧ ((rk = 0 → ll h3 o 0 (fun y9 => y9 = Int32.toInt64 rb)) ∧ Kc h3)) h2 mm)) h1 mm p1)) h x p1 o
set_option maxRecDepth 100000 in
set_option maxHeartbeats 4000000 in
theorem tLc35 {p : Program} {l : Launch} {e : Env} {R : Room} {s : State} {m : MethodId} {args : Array Value} {below : List Frame} {meth : Method} {c : Code} {Z : State → Prop} {G : gG} {A : Nat → Prop} {h : gH} {k n b L x mm o : Nat} {xs : Nat → Int32} {v4 : Int32} {Kc : gH → Prop} (X : gC p l s m args meth c G A cL_law 8 (some .boolean) RL) (hNc : gNc s) (hX : va_X b L xs s s.heap) (hbl : b < s.heap.size) (hbA : ¬ A b) (hRf : 64 ≤ R.frames) (hRl : 2000 ≤ R.locals) (hk : k + 300 ≤ R.cells) (hn : n + 5000 ≤ R.slots) {p1 : Int32} (hi1 : vp_in (v4 + 1) L) (hp1 : xs (Int32.toNatClampNeg (v4 + 1)) = p1) (w : vLc35 G.2.2.1 Kc h x mm o p1) (kk : ∀ h' : gH, Kc h' → V p l e R s m args below meth c Z G A 8 h' (k + 300) (n + 5000) 2388 [(0, .ref b), (1, .ref x), (2, .ref mm), (3, .ref o), (4, .int v4)] []) : V p l e R s m args below meth c Z G A 8 h k n 2040 [(0, .ref b), (1, .ref x), (2, .ref mm), (3, .ref o), (4, .int v4)] [] := by
  refine V_aloadr_n X dL_law_2040 1 rfl ?_
  refine V_aloadr_n X dL_law_2041 0 rfl ?_
  refine V_iload X dL_law_2042 4 rfl ?_
  refine V_iconst (y := 1) X dL_law_2044 (by decide) ?_
  refine V_iadd X dL_law_2045 ?_
  refine V_sld (L := L) (xs := xs) X hX hbl hbA hi1 dL_law_2046 ?_
  rw [hp1]
  refine V_aloadr_n X dL_law_2047 3 rfl ?_
  refine V_callSW (As := [.ref x, .int p1, .ref o]) (rest := []) (k1 := k + 2) (n1 := n + 12) X hNc (cL_foretell_ok X.2.2.2.2.2.2.2.2.1 w) lwL_251 dL_law_2048 ⟨by show 14 + 1 ≤ R.frames; omega, by show 8 + (4 + 11) + 347 ≤ R.locals; omega⟩ rfl (Nat.le_of_ble_eq_true rfl) ⟨by show k + 2 ≤ R.cells; omega, by show n + 12 ≤ R.slots; omega⟩ (Nat.le_refl _) (Nat.le_refl _) (fun rk h1 w => ?_)
  refine V_istore X dL_law_2051 (by decide) rfl ?_
  refine V_aloadr_n X dL_law_2053 3 rfl ?_
  refine V_aloadr_n X dL_law_2054 1 rfl ?_
  refine V_iload X dL_law_2055 5 rfl ?_
  refine V_iconst (y := 1) X dL_law_2057 (by decide) ?_
  refine V_iadd X dL_law_2058 ?_
  refine V_sld (L := L) (xs := xs) X hX hbl hbA hi1 dL_law_2059 ?_
  rw [hp1]
  obtain ⟨fs, hh, w⟩ := w
  refine V_callVi (As := [.int p1]) (rest := []) (k1 := k + 2 + 0) (n1 := n + 12 + 0) X (cX12_foretell_ok X.2.2.2.2.2.2.2.2.1 w) lkL_253 hh (q9 := (RX12, TX12, 42)) rfl rfl dL_law_2060 ⟨by show 7 + 1 ≤ R.frames; omega, by show 8 + (3 + 11) + 186 ≤ R.locals; omega⟩ rfl (Nat.le_of_ble_eq_true rfl) ⟨by show k + 2 + 0 ≤ R.cells; omega, by show n + 12 + 0 ≤ R.slots; omega⟩ (Nat.le_refl _) (Nat.le_refl _) (fun rb h2 w => ?_)
  refine V_istore X dL_law_2063 (by decide) rfl ?_
  refine V_aloadr_n X dL_law_2065 4 rfl ?_
  obtain ⟨fs, hh, w⟩ := w
  refine V_callVi (As := []) (rest := []) (k1 := k + 2 + 0 + 0) (n1 := n + 12 + 0 + 0) X (cX12_thrown_ok X.2.2.2.2.2.2.2.2.1 w) lkL_129 hh (q9 := (RX12, TX12, 42)) rfl rfl dL_law_2066 ⟨by show 0 + 1 ≤ R.frames; omega, by show 8 + (1 + 11) + 0 ≤ R.locals; omega⟩ rfl (Nat.le_of_ble_eq_true rfl) ⟨by show k + 2 + 0 + 0 ≤ R.cells; omega, by show n + 12 + 0 + 0 ≤ R.slots; omega⟩ (Nat.le_refl _) (Nat.le_refl _) (fun rc h3 w => ?_)
  refine V_iload X dL_law_2069 1 rfl ?_
  refine V_icmp_eq (tgt := 2076) X dL_law_2071 (by decide) (fun z => ?_) (fun z => absurd w.1 z)
  replace w := w.2
  refine V_iload X dL_law_2076 1 rfl ?_
  have fin : V p l e R s m args below meth c Z G A 8 h3 (k + 2 + 0 + 0) (n + 12 + 0 + 0) 2093 [(6, .int rb), (5, .int rk), (0, .ref b), (1, .ref x), (2, .ref mm), (3, .ref o), (4, .int v4)] [] := by
    refine V_goto (tgt := 2388) X dL_law_2093 (by decide) ?_
    refine V.widen (k1 := k + 300) (n1 := n + 5000) (by omega) (by omega) ?_
    exact V.sub [2, 3, 4, 5, 6] rfl (kk _ w.2)
  refine V_if_ne (tgt := 2093) X dL_law_2078 (by decide) (fun z => fin) (fun z => ?_)
  refine V_aloadr_n X dL_law_2081 5 rfl ?_
  refine V_iconst (y := 0) X dL_law_2082 (by decide) ?_
  obtain ⟨N9, g9, hh9, hi9, w9⟩ := w.1 z
  refine V_lald X dL_law_2083 hh9 hi9 ?_
  refine V_iload X dL_law_2084 0 rfl ?_
  refine V_i2l X dL_law_2086 ?_
  refine V_lcmp X dL_law_2087 ?_
  exact V_if_eq (tgt := 2093) X dL_law_2088 (by decide) (fun z => fin) (fun z => absurd ((lg_cmp_eq _ _).mpr w9) z)
def vLc36 (t0 : Nat) (Kc : gH → Prop) (h : gH) (x mm o : Nat) (p1 : Int32) : Prop := vL_ticksTo t0 (fun rk h1 => io h1 mm 15 (vX12_ticksTo (fun rb h2 => io h2 mm 15 (vX12_thrown (fun rc h3 => rc = rk ∧ ((rk = 0 → ll h3 o 0 (fun y9 => y9 = Int32.toInt64 rb)) ∧ Kc h3)) h2 mm)) h1 mm p1)) h x p1 o
set_option maxRecDepth 100000 in
set_option maxHeartbeats 4000000 in
theorem tLc36 {p : Program} {l : Launch} {e : Env} {R : Room} {s : State} {m : MethodId} {args : Array Value} {below : List Frame} {meth : Method} {c : Code} {Z : State → Prop} {G : gG} {A : Nat → Prop} {h : gH} {k n b L x mm o : Nat} {xs : Nat → Int32} {v4 : Int32} {Kc : gH → Prop} (X : gC p l s m args meth c G A cL_law 8 (some .boolean) RL) (hNc : gNc s) (hX : va_X b L xs s s.heap) (hbl : b < s.heap.size) (hbA : ¬ A b) (hRf : 64 ≤ R.frames) (hRl : 2000 ≤ R.locals) (hk : k + 300 ≤ R.cells) (hn : n + 5000 ≤ R.slots) {p1 : Int32} (hi1 : vp_in (v4 + 1) L) (hp1 : xs (Int32.toNatClampNeg (v4 + 1)) = p1) (w : vLc36 G.2.2.1 Kc h x mm o p1) (kk : ∀ h' : gH, Kc h' → V p l e R s m args below meth c Z G A 8 h' (k + 300) (n + 5000) 2388 [(0, .ref b), (1, .ref x), (2, .ref mm), (3, .ref o), (4, .int v4)] []) : V p l e R s m args below meth c Z G A 8 h k n 2096 [(0, .ref b), (1, .ref x), (2, .ref mm), (3, .ref o), (4, .int v4)] [] := by
  refine V_aloadr_n X dL_law_2096 1 rfl ?_
  refine V_aloadr_n X dL_law_2097 0 rfl ?_
  refine V_iload X dL_law_2098 4 rfl ?_
  refine V_iconst (y := 1) X dL_law_2100 (by decide) ?_
  refine V_iadd X dL_law_2101 ?_
  refine V_sld (L := L) (xs := xs) X hX hbl hbA hi1 dL_law_2102 ?_
  rw [hp1]
  refine V_aloadr_n X dL_law_2103 3 rfl ?_
  refine V_callSW (As := [.ref x, .int p1, .ref o]) (rest := []) (k1 := k + 1) (n1 := n + 6) X hNc (cL_ticksTo_ok X.2.2.2.2.2.2.2.2.1 w) lwL_254 dL_law_2104 ⟨by show 14 + 1 ≤ R.frames; omega, by show 8 + (4 + 11) + 348 ≤ R.locals; omega⟩ rfl (Nat.le_of_ble_eq_true rfl) ⟨by show k + 1 ≤ R.cells; omega, by show n + 6 ≤ R.slots; omega⟩ (Nat.le_refl _) (Nat.le_refl _) (fun rk h1 w => ?_)
  refine V_istore X dL_law_2107 (by decide) rfl ?_
  refine V_aloadr_n X dL_law_2109 3 rfl ?_
  refine V_aloadr_n X dL_law_2110 1 rfl ?_
  refine V_iload X dL_law_2111 5 rfl ?_
  refine V_iconst (y := 1) X dL_law_2113 (by decide) ?_
  refine V_iadd X dL_law_2114 ?_
  refine V_sld (L := L) (xs := xs) X hX hbl hbA hi1 dL_law_2115 ?_
  rw [hp1]
  obtain ⟨fs, hh, w⟩ := w
  refine V_callVi (As := [.int p1]) (rest := []) (k1 := k + 1 + 0) (n1 := n + 6 + 0) X (cX12_ticksTo_ok X.2.2.2.2.2.2.2.2.1 w) lkL_256 hh (q9 := (RX12, TX12, 42)) rfl rfl dL_law_2116 ⟨by show 7 + 1 ≤ R.frames; omega, by show 8 + (3 + 11) + 186 ≤ R.locals; omega⟩ rfl (Nat.le_of_ble_eq_true rfl) ⟨by show k + 1 + 0 ≤ R.cells; omega, by show n + 6 + 0 ≤ R.slots; omega⟩ (Nat.le_refl _) (Nat.le_refl _) (fun rb h2 w => ?_)
  refine V_istore X dL_law_2119 (by decide) rfl ?_
  refine V_aloadr_n X dL_law_2121 4 rfl ?_
  obtain ⟨fs, hh, w⟩ := w
  refine V_callVi (As := []) (rest := []) (k1 := k + 1 + 0 + 0) (n1 := n + 6 + 0 + 0) X (cX12_thrown_ok X.2.2.2.2.2.2.2.2.1 w) lkL_129 hh (q9 := (RX12, TX12, 42)) rfl rfl dL_law_2122 ⟨by show 0 + 1 ≤ R.frames; omega, by show 8 + (1 + 11) + 0 ≤ R.locals; omega⟩ rfl (Nat.le_of_ble_eq_true rfl) ⟨by show k + 1 + 0 + 0 ≤ R.cells; omega, by show n + 6 + 0 + 0 ≤ R.slots; omega⟩ (Nat.le_refl _) (Nat.le_refl _) (fun rc h3 w => ?_)
  refine V_iload X dL_law_2125 1 rfl ?_
  refine V_icmp_eq (tgt := 2132) X dL_law_2127 (by decide) (fun z => ?_) (fun z => absurd w.1 z)
  replace w := w.2
  refine V_iload X dL_law_2132 1 rfl ?_
  have fin : V p l e R s m args below meth c Z G A 8 h3 (k + 1 + 0 + 0) (n + 6 + 0 + 0) 2149 [(6, .int rb), (5, .int rk), (0, .ref b), (1, .ref x), (2, .ref mm), (3, .ref o), (4, .int v4)] [] := by
    refine V_goto (tgt := 2388) X dL_law_2149 (by decide) ?_
    refine V.widen (k1 := k + 300) (n1 := n + 5000) (by omega) (by omega) ?_
    exact V.sub [2, 3, 4, 5, 6] rfl (kk _ w.2)
  refine V_if_ne (tgt := 2149) X dL_law_2134 (by decide) (fun z => fin) (fun z => ?_)
  refine V_aloadr_n X dL_law_2137 5 rfl ?_
  refine V_iconst (y := 0) X dL_law_2138 (by decide) ?_
  obtain ⟨N9, g9, hh9, hi9, w9⟩ := w.1 z
  refine V_lald X dL_law_2139 hh9 hi9 ?_
  refine V_iload X dL_law_2140 0 rfl ?_
  refine V_i2l X dL_law_2142 ?_
  refine V_lcmp X dL_law_2143 ?_
  exact V_if_eq (tgt := 2149) X dL_law_2144 (by decide) (fun z => fin) (fun z => absurd ((lg_cmp_eq _ _).mpr w9) z)
def vLc37 (t0 : Nat) (Kc : gH → Prop) (h : gH) (x mm o : Nat) (p1 : Int32) (p2 : Int32) : Prop := vL_steps t0 (fun rk h1 => io h1 mm 15 (vX12_steps (fun rb h2 => io h2 mm 15 (vX12_thrown (fun rc h3 => rc = rk ∧ ((rk = 0 → ll h3 o 0 (fun y9 => y9 = Int32.toInt64 rb)) ∧ Kc h3)) h2 mm)) h1 mm p1 p2)) h x p1 p2 o
set_option maxRecDepth 100000 in
set_option maxHeartbeats 4000000 in
theorem tLc37 {p : Program} {l : Launch} {e : Env} {R : Room} {s : State} {m : MethodId} {args : Array Value} {below : List Frame} {meth : Method} {c : Code} {Z : State → Prop} {G : gG} {A : Nat → Prop} {h : gH} {k n b L x mm o : Nat} {xs : Nat → Int32} {v4 : Int32} {Kc : gH → Prop} (X : gC p l s m args meth c G A cL_law 8 (some .boolean) RL) (hNc : gNc s) (hX : va_X b L xs s s.heap) (hbl : b < s.heap.size) (hbA : ¬ A b) (hRf : 64 ≤ R.frames) (hRl : 2000 ≤ R.locals) (hk : k + 300 ≤ R.cells) (hn : n + 5000 ≤ R.slots) {p1 : Int32} (hi1 : vp_in (v4 + 1) L) (hp1 : xs (Int32.toNatClampNeg (v4 + 1)) = p1) {p2 : Int32} (hi2 : vp_in (v4 + 2) L) (hp2 : xs (Int32.toNatClampNeg (v4 + 2)) = p2) (w : vLc37 G.2.2.1 Kc h x mm o p1 p2) (kk : ∀ h' : gH, Kc h' → V p l e R s m args below meth c Z G A 8 h' (k + 300) (n + 5000) 2388 [(0, .ref b), (1, .ref x), (2, .ref mm), (3, .ref o), (4, .int v4)] []) : V p l e R s m args below meth c Z G A 8 h k n 2152 [(0, .ref b), (1, .ref x), (2, .ref mm), (3, .ref o), (4, .int v4)] [] := by
  refine V_aloadr_n X dL_law_2152 1 rfl ?_
  refine V_aloadr_n X dL_law_2153 0 rfl ?_
  refine V_iload X dL_law_2154 4 rfl ?_
  refine V_iconst (y := 1) X dL_law_2156 (by decide) ?_
  refine V_iadd X dL_law_2157 ?_
  refine V_sld (L := L) (xs := xs) X hX hbl hbA hi1 dL_law_2158 ?_
  rw [hp1]
  refine V_aloadr_n X dL_law_2159 0 rfl ?_
  refine V_iload X dL_law_2160 4 rfl ?_
  refine V_iconst (y := 2) X dL_law_2162 (by decide) ?_
  refine V_iadd X dL_law_2163 ?_
  refine V_sld (L := L) (xs := xs) X hX hbl hbA hi2 dL_law_2164 ?_
  rw [hp2]
  refine V_aloadr_n X dL_law_2165 3 rfl ?_
  refine V_callSW (As := [.ref x, .int p1, .int p2, .ref o]) (rest := []) (k1 := k + 2) (n1 := n + 12) X hNc (cL_steps_ok X.2.2.2.2.2.2.2.2.1 w) lwL_257 dL_law_2166 ⟨by show 8 + 1 ≤ R.frames; omega, by show 8 + (5 + 11) + 136 ≤ R.locals; omega⟩ rfl (Nat.le_of_ble_eq_true rfl) ⟨by show k + 2 ≤ R.cells; omega, by show n + 12 ≤ R.slots; omega⟩ (Nat.le_refl _) (Nat.le_refl _) (fun rk h1 w => ?_)
  refine V_istore X dL_law_2169 (by decide) rfl ?_
  refine V_aloadr_n X dL_law_2171 3 rfl ?_
  refine V_aloadr_n X dL_law_2172 1 rfl ?_
  refine V_iload X dL_law_2173 5 rfl ?_
  refine V_iconst (y := 1) X dL_law_2175 (by decide) ?_
  refine V_iadd X dL_law_2176 ?_
  refine V_sld (L := L) (xs := xs) X hX hbl hbA hi1 dL_law_2177 ?_
  rw [hp1]
  refine V_aloadr_n X dL_law_2178 1 rfl ?_
  refine V_iload X dL_law_2179 5 rfl ?_
  refine V_iconst (y := 2) X dL_law_2181 (by decide) ?_
  refine V_iadd X dL_law_2182 ?_
  refine V_sld (L := L) (xs := xs) X hX hbl hbA hi2 dL_law_2183 ?_
  rw [hp2]
  obtain ⟨fs, hh, w⟩ := w
  refine V_callVi (As := [.int p1, .int p2]) (rest := []) (k1 := k + 2 + 0) (n1 := n + 12 + 0) X (cX12_steps_ok X.2.2.2.2.2.2.2.2.1 w) lkL_259 hh (q9 := (RX12, TX12, 42)) rfl rfl dL_law_2184 ⟨by show 2 + 1 ≤ R.frames; omega, by show 8 + (7 + 11) + 46 ≤ R.locals; omega⟩ rfl (Nat.le_of_ble_eq_true rfl) ⟨by show k + 2 + 0 ≤ R.cells; omega, by show n + 12 + 0 ≤ R.slots; omega⟩ (Nat.le_refl _) (Nat.le_refl _) (fun rb h2 w => ?_)
  refine V_istore X dL_law_2187 (by decide) rfl ?_
  refine V_aloadr_n X dL_law_2189 4 rfl ?_
  obtain ⟨fs, hh, w⟩ := w
  refine V_callVi (As := []) (rest := []) (k1 := k + 2 + 0 + 0) (n1 := n + 12 + 0 + 0) X (cX12_thrown_ok X.2.2.2.2.2.2.2.2.1 w) lkL_129 hh (q9 := (RX12, TX12, 42)) rfl rfl dL_law_2190 ⟨by show 0 + 1 ≤ R.frames; omega, by show 8 + (1 + 11) + 0 ≤ R.locals; omega⟩ rfl (Nat.le_of_ble_eq_true rfl) ⟨by show k + 2 + 0 + 0 ≤ R.cells; omega, by show n + 12 + 0 + 0 ≤ R.slots; omega⟩ (Nat.le_refl _) (Nat.le_refl _) (fun rc h3 w => ?_)
  refine V_iload X dL_law_2193 1 rfl ?_
  refine V_icmp_eq (tgt := 2200) X dL_law_2195 (by decide) (fun z => ?_) (fun z => absurd w.1 z)
  replace w := w.2
  refine V_iload X dL_law_2200 1 rfl ?_
  have fin : V p l e R s m args below meth c Z G A 8 h3 (k + 2 + 0 + 0) (n + 12 + 0 + 0) 2217 [(6, .int rb), (5, .int rk), (0, .ref b), (1, .ref x), (2, .ref mm), (3, .ref o), (4, .int v4)] [] := by
    refine V_goto (tgt := 2388) X dL_law_2217 (by decide) ?_
    refine V.widen (k1 := k + 300) (n1 := n + 5000) (by omega) (by omega) ?_
    exact V.sub [2, 3, 4, 5, 6] rfl (kk _ w.2)
  refine V_if_ne (tgt := 2217) X dL_law_2202 (by decide) (fun z => fin) (fun z => ?_)
  refine V_aloadr_n X dL_law_2205 5 rfl ?_
  refine V_iconst (y := 0) X dL_law_2206 (by decide) ?_
  obtain ⟨N9, g9, hh9, hi9, w9⟩ := w.1 z
  refine V_lald X dL_law_2207 hh9 hi9 ?_
  refine V_iload X dL_law_2208 0 rfl ?_
  refine V_i2l X dL_law_2210 ?_
  refine V_lcmp X dL_law_2211 ?_
  exact V_if_eq (tgt := 2217) X dL_law_2212 (by decide) (fun z => fin) (fun z => absurd ((lg_cmp_eq _ _).mpr w9) z)
def vLc38 (t0 : Nat) (Kc : gH → Prop) (h : gH) (x mm o : Nat) (p1 : Int32) : Prop := vL_keep t0 (fun rk h1 => io h1 mm 15 (vX12_keep (fun rb h2 => io h2 mm 15 (vX12_thrown (fun rc h3 => rc = rk ∧ ((rk = 0 → ll h3 o 0 (fun y9 => y9 = Int32.toInt64 rb)) ∧ Kc h3)) h2 mm)) h1 mm p1)) h x p1 o
set_option maxRecDepth 100000 in
set_option maxHeartbeats 4000000 in
theorem tLc38 {p : Program} {l : Launch} {e : Env} {R : Room} {s : State} {m : MethodId} {args : Array Value} {below : List Frame} {meth : Method} {c : Code} {Z : State → Prop} {G : gG} {A : Nat → Prop} {h : gH} {k n b L x mm o : Nat} {xs : Nat → Int32} {v4 : Int32} {Kc : gH → Prop} (X : gC p l s m args meth c G A cL_law 8 (some .boolean) RL) (hNc : gNc s) (hX : va_X b L xs s s.heap) (hbl : b < s.heap.size) (hbA : ¬ A b) (hRf : 64 ≤ R.frames) (hRl : 2000 ≤ R.locals) (hk : k + 300 ≤ R.cells) (hn : n + 5000 ≤ R.slots) {p1 : Int32} (hi1 : vp_in (v4 + 1) L) (hp1 : xs (Int32.toNatClampNeg (v4 + 1)) = p1) (w : vLc38 G.2.2.1 Kc h x mm o p1) (kk : ∀ h' : gH, Kc h' → V p l e R s m args below meth c Z G A 8 h' (k + 300) (n + 5000) 2388 [(0, .ref b), (1, .ref x), (2, .ref mm), (3, .ref o), (4, .int v4)] []) : V p l e R s m args below meth c Z G A 8 h k n 2220 [(0, .ref b), (1, .ref x), (2, .ref mm), (3, .ref o), (4, .int v4)] [] := by
  refine V_aloadr_n X dL_law_2220 1 rfl ?_
  refine V_aloadr_n X dL_law_2221 0 rfl ?_
  refine V_iload X dL_law_2222 4 rfl ?_
  refine V_iconst (y := 1) X dL_law_2224 (by decide) ?_
  refine V_iadd X dL_law_2225 ?_
  refine V_sld (L := L) (xs := xs) X hX hbl hbA hi1 dL_law_2226 ?_
  rw [hp1]
  refine V_aloadr_n X dL_law_2227 3 rfl ?_
  refine V_callSW (As := [.ref x, .int p1, .ref o]) (rest := []) (k1 := k + 2) (n1 := n + 12) X hNc (cL_keep_ok X.2.2.2.2.2.2.2.2.1 w) lwL_260 dL_law_2228 ⟨by show 8 + 1 ≤ R.frames; omega, by show 8 + (4 + 11) + 132 ≤ R.locals; omega⟩ rfl (Nat.le_of_ble_eq_true rfl) ⟨by show k + 2 ≤ R.cells; omega, by show n + 12 ≤ R.slots; omega⟩ (Nat.le_refl _) (Nat.le_refl _) (fun rk h1 w => ?_)
  refine V_istore X dL_law_2231 (by decide) rfl ?_
  refine V_aloadr_n X dL_law_2233 3 rfl ?_
  refine V_aloadr_n X dL_law_2234 1 rfl ?_
  refine V_iload X dL_law_2235 5 rfl ?_
  refine V_iconst (y := 1) X dL_law_2237 (by decide) ?_
  refine V_iadd X dL_law_2238 ?_
  refine V_sld (L := L) (xs := xs) X hX hbl hbA hi1 dL_law_2239 ?_
  rw [hp1]
  obtain ⟨fs, hh, w⟩ := w
  refine V_callVi (As := [.int p1]) (rest := []) (k1 := k + 2 + 0) (n1 := n + 12 + 0) X (cX12_keep_ok X.2.2.2.2.2.2.2.2.1 w) lkL_262 hh (q9 := (RX12, TX12, 42)) rfl rfl dL_law_2240 ⟨by show 1 + 1 ≤ R.frames; omega, by show 8 + (2 + 11) + 25 ≤ R.locals; omega⟩ rfl (Nat.le_of_ble_eq_true rfl) ⟨by show k + 2 + 0 ≤ R.cells; omega, by show n + 12 + 0 ≤ R.slots; omega⟩ (Nat.le_refl _) (Nat.le_refl _) (fun rb h2 w => ?_)
  refine V_istore X dL_law_2243 (by decide) rfl ?_
  refine V_aloadr_n X dL_law_2245 4 rfl ?_
  obtain ⟨fs, hh, w⟩ := w
  refine V_callVi (As := []) (rest := []) (k1 := k + 2 + 0 + 0) (n1 := n + 12 + 0 + 0) X (cX12_thrown_ok X.2.2.2.2.2.2.2.2.1 w) lkL_129 hh (q9 := (RX12, TX12, 42)) rfl rfl dL_law_2246 ⟨by show 0 + 1 ≤ R.frames; omega, by show 8 + (1 + 11) + 0 ≤ R.locals; omega⟩ rfl (Nat.le_of_ble_eq_true rfl) ⟨by show k + 2 + 0 + 0 ≤ R.cells; omega, by show n + 12 + 0 + 0 ≤ R.slots; omega⟩ (Nat.le_refl _) (Nat.le_refl _) (fun rc h3 w => ?_)
  refine V_iload X dL_law_2249 1 rfl ?_
  refine V_icmp_eq (tgt := 2256) X dL_law_2251 (by decide) (fun z => ?_) (fun z => absurd w.1 z)
  replace w := w.2
  refine V_iload X dL_law_2256 1 rfl ?_
  have fin : V p l e R s m args below meth c Z G A 8 h3 (k + 2 + 0 + 0) (n + 12 + 0 + 0) 2273 [(6, .int rb), (5, .int rk), (0, .ref b), (1, .ref x), (2, .ref mm), (3, .ref o), (4, .int v4)] [] := by
    refine V_goto (tgt := 2388) X dL_law_2273 (by decide) ?_
    refine V.widen (k1 := k + 300) (n1 := n + 5000) (by omega) (by omega) ?_
    exact V.sub [2, 3, 4, 5, 6] rfl (kk _ w.2)
  refine V_if_ne (tgt := 2273) X dL_law_2258 (by decide) (fun z => fin) (fun z => ?_)
  refine V_aloadr_n X dL_law_2261 5 rfl ?_
  refine V_iconst (y := 0) X dL_law_2262 (by decide) ?_
  obtain ⟨N9, g9, hh9, hi9, w9⟩ := w.1 z
  refine V_lald X dL_law_2263 hh9 hi9 ?_
  refine V_iload X dL_law_2264 0 rfl ?_
  refine V_i2l X dL_law_2266 ?_
  refine V_lcmp X dL_law_2267 ?_
  exact V_if_eq (tgt := 2273) X dL_law_2268 (by decide) (fun z => fin) (fun z => absurd ((lg_cmp_eq _ _).mpr w9) z)
def vLc39 (t0 : Nat) (Kc : gH → Prop) (h : gH) (x mm o : Nat) (p1 : Int32) : Prop := vL_restore t0 (fun rk h1 => io h1 mm 15 (vX12_restore (fun rb h2 => io h2 mm 15 (vX12_thrown (fun rc h3 => rc = rk ∧ ((rk = 0 → ll h3 o 0 (fun y9 => y9 = Int32.toInt64 rb)) ∧ Kc h3)) h2 mm)) h1 mm p1)) h x p1 o
set_option maxRecDepth 100000 in
set_option maxHeartbeats 4000000 in
theorem tLc39 {p : Program} {l : Launch} {e : Env} {R : Room} {s : State} {m : MethodId} {args : Array Value} {below : List Frame} {meth : Method} {c : Code} {Z : State → Prop} {G : gG} {A : Nat → Prop} {h : gH} {k n b L x mm o : Nat} {xs : Nat → Int32} {v4 : Int32} {Kc : gH → Prop} (X : gC p l s m args meth c G A cL_law 8 (some .boolean) RL) (hNc : gNc s) (hX : va_X b L xs s s.heap) (hbl : b < s.heap.size) (hbA : ¬ A b) (hRf : 64 ≤ R.frames) (hRl : 2000 ≤ R.locals) (hk : k + 300 ≤ R.cells) (hn : n + 5000 ≤ R.slots) {p1 : Int32} (hi1 : vp_in (v4 + 1) L) (hp1 : xs (Int32.toNatClampNeg (v4 + 1)) = p1) (w : vLc39 G.2.2.1 Kc h x mm o p1) (kk : ∀ h' : gH, Kc h' → V p l e R s m args below meth c Z G A 8 h' (k + 300) (n + 5000) 2388 [(0, .ref b), (1, .ref x), (2, .ref mm), (3, .ref o), (4, .int v4)] []) : V p l e R s m args below meth c Z G A 8 h k n 2276 [(0, .ref b), (1, .ref x), (2, .ref mm), (3, .ref o), (4, .int v4)] [] := by
  refine V_aloadr_n X dL_law_2276 1 rfl ?_
  refine V_aloadr_n X dL_law_2277 0 rfl ?_
  refine V_iload X dL_law_2278 4 rfl ?_
  refine V_iconst (y := 1) X dL_law_2280 (by decide) ?_
  refine V_iadd X dL_law_2281 ?_
  refine V_sld (L := L) (xs := xs) X hX hbl hbA hi1 dL_law_2282 ?_
  rw [hp1]
  refine V_aloadr_n X dL_law_2283 3 rfl ?_
  refine V_callSW (As := [.ref x, .int p1, .ref o]) (rest := []) (k1 := k + 2) (n1 := n + 12) X hNc (cL_restore_ok X.2.2.2.2.2.2.2.2.1 w) lwL_263 dL_law_2284 ⟨by show 8 + 1 ≤ R.frames; omega, by show 8 + (4 + 11) + 132 ≤ R.locals; omega⟩ rfl (Nat.le_of_ble_eq_true rfl) ⟨by show k + 2 ≤ R.cells; omega, by show n + 12 ≤ R.slots; omega⟩ (Nat.le_refl _) (Nat.le_refl _) (fun rk h1 w => ?_)
  refine V_istore X dL_law_2287 (by decide) rfl ?_
  refine V_aloadr_n X dL_law_2289 3 rfl ?_
  refine V_aloadr_n X dL_law_2290 1 rfl ?_
  refine V_iload X dL_law_2291 5 rfl ?_
  refine V_iconst (y := 1) X dL_law_2293 (by decide) ?_
  refine V_iadd X dL_law_2294 ?_
  refine V_sld (L := L) (xs := xs) X hX hbl hbA hi1 dL_law_2295 ?_
  rw [hp1]
  obtain ⟨fs, hh, w⟩ := w
  refine V_callVi (As := [.int p1]) (rest := []) (k1 := k + 2 + 0) (n1 := n + 12 + 0) X (cX12_restore_ok X.2.2.2.2.2.2.2.2.1 w) lkL_265 hh (q9 := (RX12, TX12, 42)) rfl rfl dL_law_2296 ⟨by show 1 + 1 ≤ R.frames; omega, by show 8 + (3 + 11) + 25 ≤ R.locals; omega⟩ rfl (Nat.le_of_ble_eq_true rfl) ⟨by show k + 2 + 0 ≤ R.cells; omega, by show n + 12 + 0 ≤ R.slots; omega⟩ (Nat.le_refl _) (Nat.le_refl _) (fun rb h2 w => ?_)
  refine V_istore X dL_law_2299 (by decide) rfl ?_
  refine V_aloadr_n X dL_law_2301 4 rfl ?_
  obtain ⟨fs, hh, w⟩ := w
  refine V_callVi (As := []) (rest := []) (k1 := k + 2 + 0 + 0) (n1 := n + 12 + 0 + 0) X (cX12_thrown_ok X.2.2.2.2.2.2.2.2.1 w) lkL_129 hh (q9 := (RX12, TX12, 42)) rfl rfl dL_law_2302 ⟨by show 0 + 1 ≤ R.frames; omega, by show 8 + (1 + 11) + 0 ≤ R.locals; omega⟩ rfl (Nat.le_of_ble_eq_true rfl) ⟨by show k + 2 + 0 + 0 ≤ R.cells; omega, by show n + 12 + 0 + 0 ≤ R.slots; omega⟩ (Nat.le_refl _) (Nat.le_refl _) (fun rc h3 w => ?_)
  refine V_iload X dL_law_2305 1 rfl ?_
  refine V_icmp_eq (tgt := 2312) X dL_law_2307 (by decide) (fun z => ?_) (fun z => absurd w.1 z)
  replace w := w.2
  refine V_iload X dL_law_2312 1 rfl ?_
  have fin : V p l e R s m args below meth c Z G A 8 h3 (k + 2 + 0 + 0) (n + 12 + 0 + 0) 2329 [(6, .int rb), (5, .int rk), (0, .ref b), (1, .ref x), (2, .ref mm), (3, .ref o), (4, .int v4)] [] := by
    refine V_goto (tgt := 2388) X dL_law_2329 (by decide) ?_
    refine V.widen (k1 := k + 300) (n1 := n + 5000) (by omega) (by omega) ?_
    exact V.sub [2, 3, 4, 5, 6] rfl (kk _ w.2)
  refine V_if_ne (tgt := 2329) X dL_law_2314 (by decide) (fun z => fin) (fun z => ?_)
  refine V_aloadr_n X dL_law_2317 5 rfl ?_
  refine V_iconst (y := 0) X dL_law_2318 (by decide) ?_
  obtain ⟨N9, g9, hh9, hi9, w9⟩ := w.1 z
  refine V_lald X dL_law_2319 hh9 hi9 ?_
  refine V_iload X dL_law_2320 0 rfl ?_
  refine V_i2l X dL_law_2322 ?_
  refine V_lcmp X dL_law_2323 ?_
  exact V_if_eq (tgt := 2329) X dL_law_2324 (by decide) (fun z => fin) (fun z => absurd ((lg_cmp_eq _ _).mpr w9) z)
def vLc40 (t0 : Nat) (Kc : gH → Prop) (h : gH) (x mm o : Nat) (p1 : Int32) : Prop := vL_count t0 (fun rk h1 => io h1 mm 15 (vX12_count (fun rb h2 => io h2 mm 15 (vX12_thrown (fun rc h3 => rc = rk ∧ ((rk = 0 → ll h3 o 0 (fun y9 => y9 = Int32.toInt64 rb)) ∧ Kc h3)) h2 mm)) h1 mm p1)) h x p1 o
set_option maxRecDepth 100000 in
set_option maxHeartbeats 4000000 in
theorem tLc40 {p : Program} {l : Launch} {e : Env} {R : Room} {s : State} {m : MethodId} {args : Array Value} {below : List Frame} {meth : Method} {c : Code} {Z : State → Prop} {G : gG} {A : Nat → Prop} {h : gH} {k n b L x mm o : Nat} {xs : Nat → Int32} {v4 : Int32} {Kc : gH → Prop} (X : gC p l s m args meth c G A cL_law 8 (some .boolean) RL) (hNc : gNc s) (hX : va_X b L xs s s.heap) (hbl : b < s.heap.size) (hbA : ¬ A b) (hRf : 64 ≤ R.frames) (hRl : 2000 ≤ R.locals) (hk : k + 300 ≤ R.cells) (hn : n + 5000 ≤ R.slots) {p1 : Int32} (hi1 : vp_in (v4 + 1) L) (hp1 : xs (Int32.toNatClampNeg (v4 + 1)) = p1) (w : vLc40 G.2.2.1 Kc h x mm o p1) (kk : ∀ h' : gH, Kc h' → V p l e R s m args below meth c Z G A 8 h' (k + 300) (n + 5000) 2388 [(0, .ref b), (1, .ref x), (2, .ref mm), (3, .ref o), (4, .int v4)] []) : V p l e R s m args below meth c Z G A 8 h k n 2332 [(0, .ref b), (1, .ref x), (2, .ref mm), (3, .ref o), (4, .int v4)] [] := by
  refine V_aloadr_n X dL_law_2332 1 rfl ?_
  refine V_aloadr_n X dL_law_2333 0 rfl ?_
  refine V_iload X dL_law_2334 4 rfl ?_
  refine V_iconst (y := 1) X dL_law_2336 (by decide) ?_
  refine V_iadd X dL_law_2337 ?_
  refine V_sld (L := L) (xs := xs) X hX hbl hbA hi1 dL_law_2338 ?_
  rw [hp1]
  refine V_aloadr_n X dL_law_2339 3 rfl ?_
  refine V_callSW (As := [.ref x, .int p1, .ref o]) (rest := []) (k1 := k + 1) (n1 := n + 6) X hNc (cL_count_ok X.2.2.2.2.2.2.2.2.1 w) lwL_266 dL_law_2340 ⟨by show 7 + 1 ≤ R.frames; omega, by show 8 + (4 + 11) + 111 ≤ R.locals; omega⟩ rfl (Nat.le_of_ble_eq_true rfl) ⟨by show k + 1 ≤ R.cells; omega, by show n + 6 ≤ R.slots; omega⟩ (Nat.le_refl _) (Nat.le_refl _) (fun rk h1 w => ?_)
  refine V_istore X dL_law_2343 (by decide) rfl ?_
  refine V_aloadr_n X dL_law_2345 3 rfl ?_
  refine V_aloadr_n X dL_law_2346 1 rfl ?_
  refine V_iload X dL_law_2347 5 rfl ?_
  refine V_iconst (y := 1) X dL_law_2349 (by decide) ?_
  refine V_iadd X dL_law_2350 ?_
  refine V_sld (L := L) (xs := xs) X hX hbl hbA hi1 dL_law_2351 ?_
  rw [hp1]
  obtain ⟨fs, hh, w⟩ := w
  refine V_callVi (As := [.int p1]) (rest := []) (k1 := k + 1 + 0) (n1 := n + 6 + 0) X (cX12_count_ok X.2.2.2.2.2.2.2.2.1 w) lkL_268 hh (q9 := (RX12, TX12, 42)) rfl rfl dL_law_2352 ⟨by show 1 + 1 ≤ R.frames; omega, by show 8 + (2 + 11) + 21 ≤ R.locals; omega⟩ rfl (Nat.le_of_ble_eq_true rfl) ⟨by show k + 1 + 0 ≤ R.cells; omega, by show n + 6 + 0 ≤ R.slots; omega⟩ (Nat.le_refl _) (Nat.le_refl _) (fun rb h2 w => ?_)
  refine V_istore X dL_law_2355 (by decide) rfl ?_
  refine V_aloadr_n X dL_law_2357 4 rfl ?_
  obtain ⟨fs, hh, w⟩ := w
  refine V_callVi (As := []) (rest := []) (k1 := k + 1 + 0 + 0) (n1 := n + 6 + 0 + 0) X (cX12_thrown_ok X.2.2.2.2.2.2.2.2.1 w) lkL_129 hh (q9 := (RX12, TX12, 42)) rfl rfl dL_law_2358 ⟨by show 0 + 1 ≤ R.frames; omega, by show 8 + (1 + 11) + 0 ≤ R.locals; omega⟩ rfl (Nat.le_of_ble_eq_true rfl) ⟨by show k + 1 + 0 + 0 ≤ R.cells; omega, by show n + 6 + 0 + 0 ≤ R.slots; omega⟩ (Nat.le_refl _) (Nat.le_refl _) (fun rc h3 w => ?_)
  refine V_iload X dL_law_2361 1 rfl ?_
  refine V_icmp_eq (tgt := 2368) X dL_law_2363 (by decide) (fun z => ?_) (fun z => absurd w.1 z)
  replace w := w.2
  refine V_iload X dL_law_2368 1 rfl ?_
  have fin : V p l e R s m args below meth c Z G A 8 h3 (k + 1 + 0 + 0) (n + 6 + 0 + 0) 2385 [(6, .int rb), (5, .int rk), (0, .ref b), (1, .ref x), (2, .ref mm), (3, .ref o), (4, .int v4)] [] := by
    refine V_goto (tgt := 2388) X dL_law_2385 (by decide) ?_
    refine V.widen (k1 := k + 300) (n1 := n + 5000) (by omega) (by omega) ?_
    exact V.sub [2, 3, 4, 5, 6] rfl (kk _ w.2)
  refine V_if_ne (tgt := 2385) X dL_law_2370 (by decide) (fun z => fin) (fun z => ?_)
  refine V_aloadr_n X dL_law_2373 5 rfl ?_
  refine V_iconst (y := 0) X dL_law_2374 (by decide) ?_
  obtain ⟨N9, g9, hh9, hi9, w9⟩ := w.1 z
  refine V_lald X dL_law_2375 hh9 hi9 ?_
  refine V_iload X dL_law_2376 0 rfl ?_
  refine V_i2l X dL_law_2378 ?_
  refine V_lcmp X dL_law_2379 ?_
  exact V_if_eq (tgt := 2385) X dL_law_2380 (by decide) (fun z => fin) (fun z => absurd ((lg_cmp_eq _ _).mpr w9) z)
