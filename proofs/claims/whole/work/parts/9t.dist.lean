/-! ===== how many transitions lead from a state to another ===== -/
def edg (S : dC) (t a b : Nat) : Prop := (t : Int) < S 38 0 21 ∧ (S 60 0 (17 * t) = -1 ∨ S 60 0 (17 * t) = (a : Int)) ∧ S 60 0 (17 * t + 1) = (b : Int)
/-- reached by at most n transitions -/
def rs (S : dC) (f : Nat) : Nat → Nat → Prop
  | 0, s => s = f
  | n + 1, s => rs S f n s ∨ ∃ t a : Nat, (a : Int) < S 38 0 19 ∧ rs S f n a ∧ edg S t a s
def lsD (S : dC) (f s v : Nat) : Prop := rs S f v s ∧ ∀ u, u < v → ¬ rs S f u s
def isD (S : dC) (f s : Nat) (x : Int) : Prop := (x = -1 ∧ ∀ n, ¬ rs S f n s) ∨ ∃ v : Nat, x = (v : Int) ∧ lsD S f s v
section DI
variable {S : dC} {f s : Nat}
theorem rs_mono {n m : Nat} (h : rs S f n s) (hm : n ≤ m) : rs S f m s := by
  induction m with
  | zero =>
    have : n = 0 := by omega
    subst this
    exact h
  | succ m ih =>
    by_cases z : n = m + 1
    · rw [← z]; exact h
    · exact Or.inl (ih (by omega))
theorem lsD_one {v w : Nat} (a : lsD S f s v) (b : lsD S f s w) : v = w := by
  rcases Nat.lt_trichotomy v w with z | z | z
  · exact absurd a.1 (b.2 v z)
  · exact z
  · exact absurd b.1 (a.2 w z)
theorem isD_one {x y : Int} (a : isD S f s x) (b : isD S f s y) : x = y := by
  rcases a with ⟨a1, a2⟩ | ⟨v, a1, a2⟩
  · rcases b with ⟨b1, b2⟩ | ⟨w, b1, b2⟩
    · rw [a1, b1]
    · exact absurd b2.1 (a2 w)
  · rcases b with ⟨b1, b2⟩ | ⟨w, b1, b2⟩
    · exact absurd a2.1 (b2 v)
    · rw [a1, b1, lsD_one a2 b2]
theorem rs_least : ∀ {n : Nat}, rs S f n s → ∃ v, v ≤ n ∧ lsD S f s v
  | 0, h => ⟨0, Nat.le_refl 0, h, fun u hu => absurd hu (Nat.not_lt_zero u)⟩
  | n + 1, h => by
    by_cases z : rs S f n s
    · obtain ⟨v, h1, h2⟩ := rs_least z
      exact ⟨v, by omega, h2⟩
    · exact ⟨n + 1, Nat.le_refl _, h, fun u hu y => z (rs_mono y (by omega))⟩
theorem lsD_prev {v : Nat} (h : lsD S f s (v + 1)) : ∃ a : Nat, (a : Int) < S 38 0 19 ∧ lsD S f a v := by
  obtain ⟨h1, h2⟩ := h
  have h3 := h2 v (by omega)
  rcases h1 with h1 | ⟨t, a, ha, h4, e⟩
  · exact absurd h1 h3
  · refine ⟨a, ha, h4, fun u hu y => h3 ?_⟩
    exact rs_mono (show rs S f (u + 1) s from Or.inr ⟨t, a, ha, y, e⟩) (by omega)
theorem lsD_all : ∀ {v s : Nat}, (s : Int) < S 38 0 19 → lsD S f s v → ∀ u, u ≤ v → ∃ a : Nat, (a : Int) < S 38 0 19 ∧ lsD S f a u
  | 0, s, hs, h, u, hu => by
    have e : u = 0 := by omega
    exact ⟨s, hs, by rw [e]; exact h⟩
  | v + 1, s, hs, h, u, hu => by
    by_cases z : u = v + 1
    · exact ⟨s, hs, by rw [z]; exact h⟩
    · obtain ⟨a, h1, h2⟩ := lsD_prev h
      exact lsD_all h1 h2 u (by omega)
/-- as many places as there are numbers -/
theorem pigeon : ∀ (n v : Nat) (g : Nat → Nat), (∀ u, u ≤ v → g u < n) → (∀ u w, u ≤ v → w ≤ v → g u = g w → u = w) → v + 1 ≤ n
  | 0, v, g, h1, _ => absurd (h1 0 (Nat.zero_le v)) (Nat.not_lt_zero _)
  | n + 1, 0, g, _, _ => by omega
  | n + 1, v + 1, g, h1, h2 => by
    have := pigeon n v (fun u => if g (v + 1) < g u then g u - 1 else g u) (fun u hu => ?_) (fun u w hu hw e => ?_)
    · omega
    · have a := h1 u (by omega)
      have b := h1 (v + 1) (by omega)
      have c : g u ≠ g (v + 1) := fun z => by have := h2 u (v + 1) (by omega) (by omega) z; omega
      show (if g (v + 1) < g u then g u - 1 else g u) < n
      split <;> omega
    · have c : g u ≠ g (v + 1) := fun z => by have := h2 u (v + 1) (by omega) (by omega) z; omega
      have d : g w ≠ g (v + 1) := fun z => by have := h2 w (v + 1) (by omega) (by omega) z; omega
      have e : (if g (v + 1) < g u then g u - 1 else g u) = (if g (v + 1) < g w then g w - 1 else g w) := e
      refine h2 u w (by omega) (by omega) ?_
      split at e <;> split at e <;> omega
theorem lsD_lt {v : Nat} (hs : (s : Int) < S 38 0 19) (h : lsD S f s v) : (v : Int) < S 38 0 19 := by
  have H : ∀ u : Nat, ∃ a : Nat, u ≤ v → (a : Int) < S 38 0 19 ∧ lsD S f a u := fun u => by
    by_cases z : u ≤ v
    · obtain ⟨a, h1⟩ := lsD_all hs h u z
      exact ⟨a, fun _ => h1⟩
    · exact ⟨0, fun y => absurd y z⟩
  obtain ⟨g, hg⟩ := Classical.skolem.mp H
  have := pigeon (S 38 0 19).toNat v g (fun u hu => by have := (hg u hu).1; omega) (fun u w hu hw e => by
    have a := (hg u hu).2
    rw [e] at a
    exact lsD_one a (hg w hw).2)
  omega
end DI
