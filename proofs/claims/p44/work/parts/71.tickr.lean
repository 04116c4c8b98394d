/-! ===== the reference: a tick, ticks, what is foretold ===== -/
section TR
variable {h : gH} {A : dA} {N zz : Nat → Nat} {S C C0 : dC} {P : dP} {M : dM} {tb : Int}
theorem io38 {h' : gH} {C' : dC} {M' : dM} {K : Prop} (Z' : RQ h' A N zz P S C0 C' M') (k : K) : io h' (A 38 0) 15 K := wio Z'.1 ⟨Nat.one_pos, by decide⟩ rfl (by decide) k
theorem rd40 {h' : gH} {C' : dC} {M' : dM} {K : Int32 → Prop} {x : Int32} {m : Nat} (Z' : RQ h' A N zz P S C0 C' M') (hx : x.toInt = (m : Int)) (hm : m < 1160) (k : ∀ y : Int32, y.toInt = M' m → K y) : gr h' (A 38 0) 15 0 (fun r => nn r (fun a => li h' a x K)) := by
  refine wgrs Z'.1 ⟨Nat.one_pos, by decide⟩ rfl rfl (nn_i ?_)
  exact wli Z'.1 ⟨Nat.one_pos, by decide⟩ rfl hx (show m < 1160 from hm) (fun y hy => k y (hy.trans (congrFun Z'.2.2.2 m)))
theorem wr40 {h' : gH} {C' : dC} {M' : dM} {K : gH → Prop} {x y : Int32} {m : Nat} {v : Int} (Z' : RQ h' A N zz P S C0 C' M') (hx : x.toInt = (m : Int)) (hm : m < 1160) (hy : y.toInt = v) (k : ∀ (h2 : gH) (C2 : dC), RQ h2 A N zz P S C0 C2 (um M' m v) → K h2) : gr h' (A 38 0) 15 0 (fun r => nn r (fun a => si h' a x y K)) := by
  obtain ⟨R, E, fr, rfl⟩ := Z'
  refine wgrs R ⟨Nat.one_pos, by decide⟩ rfl rfl (nn_i ?_)
  exact wsi R ⟨Nat.one_pos, by decide⟩ rfl hx (show m < 1160 from hm) hy (fun h2 R2 => k h2 _ ⟨R2, St.up rfl E, Fr.up (by unfold gP; omega) fr, by rw [um_up]⟩)
theorem ri40 {h' : gH} {C' : dC} {M' : dM} {K : gH → Prop} {x : Int32} {f : Int32 → Int32} {m : Nat} {v : Int} (Z' : RQ h' A N zz P S C0 C' M') (hx : x.toInt = (m : Int)) (hm : m < 1160) (hf : ∀ y : Int32, y.toInt = M' m → (f y).toInt = v) (k : ∀ (h2 : gH) (C2 : dC), RQ h2 A N zz P S C0 C2 (um M' m v) → K h2) : gr h' (A 38 0) 15 0 (fun r => nn r (fun a => li h' a x (fun y => si h' a x (f y) K))) := by
  obtain ⟨R, E, fr, rfl⟩ := Z'
  refine wgrs R ⟨Nat.one_pos, by decide⟩ rfl rfl (nn_i ?_)
  refine wli R ⟨Nat.one_pos, by decide⟩ rfl hx (show m < 1160 from hm) (fun y hy => ?_)
  exact wsi R ⟨Nat.one_pos, by decide⟩ rfl hx (show m < 1160 from hm) (hf y hy) (fun h2 R2 => k h2 _ ⟨R2, St.up rfl E, Fr.up (by unfold gP; omega) fr, by rw [um_up]⟩)
theorem b1_in (v : Int) : b1 v = 0 ∨ b1 v = 1 := by unfold b1; split <;> omega
end TR
