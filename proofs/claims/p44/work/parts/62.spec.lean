/-! ===== comparisons, each side reckoned ===== -/
theorem cle32 {a b : Int32} {x y : Int} {K1 K2 : Prop} (ha : isV a x) (hb : isV b y) (k1 : x ≤ y → K1) (k2 : ¬ x ≤ y → K2) : (a ≤ b → K1) ∧ (¬ a ≤ b → K2) := by
  unfold isV at ha hb
  rw [fa_le, ha, hb]
  exact ⟨k1, k2⟩
theorem clt32 {a b : Int32} {x y : Int} {K1 K2 : Prop} (ha : isV a x) (hb : isV b y) (k1 : x < y → K1) (k2 : ¬ x < y → K2) : (a < b → K1) ∧ (¬ a < b → K2) := by
  unfold isV at ha hb
  rw [fa_lt, ha, hb]
  exact ⟨k1, k2⟩
theorem ceq32 {a b : Int32} {x y : Int} {K1 K2 : Prop} (ha : isV a x) (hb : isV b y) (k1 : x = y → K1) (k2 : ¬ x = y → K2) : (a = b → K1) ∧ (¬ a = b → K2) := by
  unfold isV at ha hb
  rw [fa_eq, ha, hb]
  exact ⟨k1, k2⟩
theorem cne32 {a b : Int32} {x y : Int} {K1 K2 : Prop} (ha : isV a x) (hb : isV b y) (k1 : ¬ x = y → K1) (k2 : x = y → K2) : (¬ a = b → K1) ∧ (a = b → K2) := by
  unfold isV at ha hb
  rw [fa_eq, ha, hb]
  exact ⟨k1, k2⟩
theorem cle64 {a b : Int64} {x y : Int} {K1 K2 : Prop} (ha : isW a x) (hb : isW b y) (k1 : x ≤ y → K1) (k2 : ¬ x ≤ y → K2) : (a ≤ b → K1) ∧ (¬ a ≤ b → K2) := by
  unfold isW at ha hb
  rw [fa_le64, ha, hb]
  exact ⟨k1, k2⟩
theorem clt64 {a b : Int64} {x y : Int} {K1 K2 : Prop} (ha : isW a x) (hb : isW b y) (k1 : x < y → K1) (k2 : ¬ x < y → K2) : (a < b → K1) ∧ (¬ a < b → K2) := by
  unfold isW at ha hb
  rw [fa_lt64, ha, hb]
  exact ⟨k1, k2⟩
theorem ceq64 {a b : Int64} {x y : Int} {K1 K2 : Prop} (ha : isW a x) (hb : isW b y) (k1 : x = y → K1) (k2 : ¬ x = y → K2) : (a = b → K1) ∧ (¬ a = b → K2) := by
  unfold isW at ha hb
  rw [fa_eq64, ha, hb]
  exact ⟨k1, k2⟩
theorem cne64 {a b : Int64} {x y : Int} {K1 K2 : Prop} (ha : isW a x) (hb : isW b y) (k1 : ¬ x = y → K1) (k2 : x = y → K2) : (¬ a = b → K1) ∧ (a = b → K2) := by
  unfold isW at ha hb
  rw [fa_eq64, ha, hb]
  exact ⟨k1, k2⟩
/-! ===== what a machine's numbers become: its slice M of 290 numbers, over what was added, S ===== -/
abbrev dM : Type := Nat → Int
def um (M : dM) (k : Nat) (v : Int) : dM := fun f => if f = k then v else M f
theorem um_up (C : dC) (j i f : Nat) (v : Int) : up3 C j i f v j i = um (C j i) f v := up3_on C j i f v
theorem um_s (M : dM) (k : Nat) (v : Int) : um M k v k = v := if_pos rfl
theorem um_n (M : dM) {k f : Nat} (v : Int) (h : f ≠ k) : um M k v f = M f := if_neg h
/-- columns that a running call of the reference may write -/
def gP (j f : Nat) : Prop := j = 40 ∨ (66 ≤ j ∧ j ≤ 69) ∨ (77 ≤ j ∧ j ≤ 81) ∨ (j = 38 ∧ ((30 ≤ f ∧ f ≤ 36) ∨ f = 40))
def Fr (C0 C : dC) : Prop := ∀ j i f : Nat, ¬ gP j f → C j i f = C0 j i f
theorem Fr.rf (C : dC) : Fr C C := fun _ _ _ _ => rfl
theorem Fr.tr {C0 C1 C2 : dC} (a : Fr C0 C1) (b : Fr C1 C2) : Fr C0 C2 := fun j i f h => (b j i f h).trans (a j i f h)
theorem Fr.up {C0 C : dC} {j i f : Nat} {v : Int} (hg : gP j f) (a : Fr C0 C) : Fr C0 (up3 C j i f v) := fun j' i' f' h => by
  rw [up3_ne C v fun z => h (by rw [z.1, z.2.2]; exact hg)]
  exact a j' i' f' h
theorem sta_gP {j f : Nat} (h : sta j f = true) : ¬ gP j f := fun g => by
  unfold gP at g
  rcases g with g | g | g | ⟨g, g2⟩
  · subst g; exact absurd h (by simp [sta])
  · have : j = 66 ∨ j = 67 ∨ j = 68 ∨ j = 69 := by omega
    rcases this with z | z | z | z <;> subst z <;> exact absurd h (by simp [sta])
  · have : j = 77 ∨ j = 78 ∨ j = 79 ∨ j = 80 ∨ j = 81 := by omega
    rcases this with z | z | z | z | z <;> subst z <;> exact absurd h (by simp [sta])
  · subst g
    have : f = 25 ∨ f = 30 ∨ f = 31 ∨ f = 32 ∨ f = 33 ∨ f = 34 ∨ f = 35 ∨ f = 36 ∨ f = 40 := by omega
    rcases this with z | z | z | z | z | z | z | z | z <;> subst z <;> exact absurd h (by simp [sta])
theorem St.fr {S C C' : dC} (E : St S C) (a : Fr C C') : St S C' := fun j i f h => (a j i f (sta_gP h)).trans (E j i f h)
/-- the blend of a state's motion -/
noncomputable def bw (S : dC) (M : dM) (s : Nat) (w : Int) (c : Nat) : Int := bl S M 4 (S 55 0 s).toNat w c
def nC (S : dC) : Nat := (S 38 0 8).toNat
def nT (S : dC) : Nat := (S 38 0 21).toNat
noncomputable def lsum (S : dC) (M : dM) (s : Nat) (n : Nat) : Int := fb_si (fun c => bw S M s 1000000 c * S 44 0 c) n
noncomputable def lenS (S : dC) (M : dM) (s : Nat) : Int := if lsum S M s (nC S) / 1000000 < 1 then 1 else lsum S M s (nC S) / 1000000
def prg (M : dM) (t : Nat) : Int := M (t + 1) * 1000000 + M (t + 2)
def advN (M : dM) (t : Nat) (x : Int) : dM := um M (t + 2) (if M (t + 2) + x ≤ 1000000 then M (t + 2) + x else 1000000)
def advL (M : dM) (t : Nat) (x : Int) : dM := um (um M (t + 1) ((prg M t + x) / 1000000)) (t + 2) ((prg M t + x) % 1000000)
def adv (S : dC) (M : dM) (t : Nat) (x : Int) : dM := um (if S 57 0 (M t).toNat = 0 then advN M t x else advL M t x) (t + 3) 0
noncomputable def stp (S : dC) (M : dM) (t : Nat) : Int := 1000000 * S 56 0 (M t).toNat / (100 * lenS S M (M t).toNat)
def durS (S : dC) (t : Nat) : Int := S 60 0 (17 * t + 2)
def shr (S : dC) (M : dM) : Int := 1000000 * M 10 / durS S (M 9).toNat
abbrev syn (S : dC) (M : dM) : Prop := M 20 = 0 ∧ S 58 0 (M 12).toNat ≠ 0 ∧ S 58 0 (M 12).toNat = S 58 0 (M 16).toNat
/-! poses: how many entries, their clips, times, weights -/
abbrev dQ : Type := Nat × (Nat → Int) × (Nat → Int) × (Nat → Int)
def q0 : dQ := (0, fun _ => 0, fun _ => 0, fun _ => 0)
def bef (q : dQ) (c t : Int) (k : Nat) : Prop := q.2.1 k < c ∨ (q.2.1 k = c ∧ q.2.2.1 k < t)
def fk (q : dQ) (c t : Int) : Nat → Nat → Nat
  | 0, k => k
  | m + 1, k => if q.2.1 k < c ∨ (q.2.1 k = c ∧ q.2.2.1 k < t) then fk q c t m (k + 1) else k
def qadd (q : dQ) (c t w : Int) : dQ :=
  if fk q c t q.1 0 < q.1 ∧ q.2.1 (fk q c t q.1 0) = c ∧ q.2.2.1 (fk q c t q.1 0) = t then (q.1, q.2.1, q.2.2.1, fun i => if i = fk q c t q.1 0 then q.2.2.2 i + w else q.2.2.2 i)
  else (q.1 + 1, insF q.2.1 (fk q c t q.1 0) c, insF q.2.2.1 (fk q c t q.1 0) t, insF q.2.2.2 (fk q c t q.1 0) w)
def tmS (S : dC) (M : dM) (t c : Nat) : Int := if M (t + 2) * S 44 0 c / 1000000 ≤ S 44 0 c - 1 then M (t + 2) * S 44 0 c / 1000000 else S 44 0 c - 1
noncomputable def qtrk (S : dC) (M : dM) (t : Nat) (w : Int) : Nat → dQ → dQ
  | 0, q => q
  | c + 1, q => if bw S M (M t).toNat w c ≤ 0 then qtrk S M t w c q else qadd (qtrk S M t w c q) (c : Int) (tmS S M t c) (bw S M (M t).toNat w c)
def qmis (M : dM) (w : Int) (n : Nat) : Int := w - fb_si (fun k => M (24 + 3 * k) * w / 1000000) n
def qfw (M : dM) (w : Int) (k : Nat) : Int := M (24 + 3 * k) * w / 1000000 + (if k = 0 then qmis M w (M 21).toNat else 0)
def qfrz (M : dM) (w : Int) : Nat → dQ → dQ
  | 0, q => q
  | k + 1, q => if qfw M w k ≤ 0 then qfrz M w k q else qadd (qfrz M w k q) (M (22 + 3 * k)) (M (23 + 3 * k)) (qfw M w k)
noncomputable def qpose (S : dC) (M : dM) : dQ := if S 38 0 19 = 0 then q0 else if M 8 = 0 then qtrk S M 12 1000000 (nC S) q0 else
  if M 20 = 1 then qtrk S M 16 (shr S M) (nC S) (qfrz M (1000000 - shr S M) (M 21).toNat q0)
  else qtrk S M 16 (shr S M) (nC S) (qtrk S M 12 (1000000 - shr S M) (nC S) q0)
/-- the reference's columns hold a pose -/
def pzR (C : dC) (q : dQ) : Prop := C 38 0 40 = (q.1 : Int) ∧ ∀ i : Nat, i < q.1 → C 77 0 i = q.2.1 i ∧ C 78 0 i = q.2.2.1 i ∧ C 79 0 i = q.2.2.2 i
/-! candidates -/
abbrev inL (S : dC) (t : Nat) (s : Int) : Prop := S 60 0 (17 * t) = -1 ∨ S 60 0 (17 * t) = s
abbrev isBk (S : dC) (t : Nat) (s : Int) : Prop := S 60 0 (17 * t) = -1 ∧ S 60 0 (17 * t + 1) = s
abbrev inS (S : dC) (M : dM) (t : Nat) : Prop := inL S t (M 12) ∧ (t : Int) ≠ M 9 ∧ ¬ isBk S t (M 16) ∧ (S 60 0 (17 * (M 9).toNat + 6) = 0 ∨ (t : Int) < M 9)
abbrev inT (S : dC) (M : dM) (t : Nat) : Prop := inL S t (M 16) ∧ (t : Int) ≠ M 9 ∧ ¬ isBk S t (M 16)
def modS (S : dC) (M : dM) : Int := if M 11 < 2 then S 60 0 (17 * (M 9).toNat + 5) else 0
def lst (S : dC) (M : dM) (t : Nat) : Int := if M 8 = 0 then (if inL S t (M 12) ∧ ¬ isBk S t (M 12) then 1 else 0)
  else if modS S M = 4 then (if inT S M t then 2 else if inS S M t then 1 else 0)
  else if modS S M = 3 then (if inS S M t then 1 else if inT S M t then 2 else 0)
  else if modS S M = 2 then (if inT S M t then 2 else 0)
  else if modS S M = 1 then (if inS S M t then 1 else 0) else 0
def cnP (S : dC) (t k : Nat) : Int := S 60 0 (17 * t + 8 + 3 * k)
def cnO (S : dC) (t k : Nat) : Int := S 60 0 (17 * t + 8 + 3 * k + 1)
def cnV (S : dC) (t k : Nat) : Int := S 60 0 (17 * t + 8 + 3 * k + 2)
def cnN (S : dC) (t : Nat) : Nat := (S 60 0 (17 * t + 7)).toNat
abbrev hld (S : dC) (M : dM) (t k : Nat) : Prop := (cnO S t k = 0 ∧ cnV S t k < M (cnP S t k).toNat) ∨ (cnO S t k = 1 ∧ M (cnP S t k).toNat < cnV S t k) ∨ (cnO S t k = 2 ∧ M (cnP S t k).toNat = cnV S t k) ∨ (cnO S t k = 3 ∧ M (cnP S t k).toNat ≠ cnV S t k)
def agl (S : dC) (M : dM) (t : Nat) : Nat → Nat → Int
  | 0, _ => 0
  | m + 1, k => if hld S M t k then agl S M t m (k + 1) else 3 + (k : Int)
def trkOf (l : Int) : Nat := if l = 2 then 16 else 12
def agn (S : dC) (M : dM) (t : Nat) (l : Int) : Int := if S 60 0 (17 * t + 3) ≠ -1 ∧ prg M (trkOf l) < S 60 0 (17 * t + 3) * 10000 then 2 else agl S M t (cnN S t) 0
def fO (p : Nat → Bool) : Nat → Nat → Option Nat
  | 0, _ => none
  | m + 1, k => if p k = true then some k else fO p m (k + 1)
def posB (S : dC) (M : dM) (l : Int) (a : Bool) (t : Nat) : Bool := decide (S 60 0 (17 * t) = -1) == a && (decide (lst S M t = l) && decide (agn S M t l = 0))
def frs (S : dC) (M : dM) (l : Int) : Option Nat := match fO (posB S M l true) (nT S) 0 with
  | some t => some t
  | none => fO (posB S M l false) (nT S) 0
def ls0 (S : dC) (M : dM) : Int := if M 8 = 1 ∧ S 60 0 (17 * (M 9).toNat + 5) = 4 then 2 else 1
def pick (S : dC) (M : dM) : Option (Nat × Int) := match frs S M (ls0 S M) with
  | some t => some (t, ls0 S M)
  | none => match frs S M (3 - ls0 S M) with
    | some t => some (t, 3 - ls0 S M)
    | none => none
/-! taking -/
def clr (S : dC) (t : Nat) : Nat → dM → dM
  | 0, M => M
  | k + 1, M => um (clr S t k M) (cnP S t k).toNat (if S 42 0 (cnP S t k).toNat = 2 then 0 else clr S t k M (cnP S t k).toNat)
def cpT (M : dM) : dM := fun f => if 12 ≤ f ∧ f < 16 then M (f + 4) else M f
def endM (M : dM) : dM := um (um (um (um (cpT M) 8 0) 11 0) 20 0) 21 0
def putQ (q : dQ) (M : dM) : dM := fun f => if 22 ≤ f ∧ f < 22 + 3 * q.1 then (if (f - 22) % 3 = 0 then q.2.1 ((f - 22) / 3) else if (f - 22) % 3 = 1 then q.2.2.1 ((f - 22) / 3) else q.2.2.2 ((f - 22) / 3)) else M f
noncomputable def frz0 (S : dC) (M : dM) : dM := um (um (um (putQ (qpose S M) M) 21 ((qpose S M).1 : Int)) 20 1) 11 (M 11 + 1)
noncomputable def frz (S : dC) (M : dM) (l : Int) : dM := if l = 2 then cpT (frz0 S M) else frz0 S M
def trkM (M : dM) (a : Nat) (s p : Int) : dM := um (um (um (um M a s) (a + 1) 0) (a + 2) p) (a + 3) 1
def goB (S : dC) (t : Nat) (M : dM) : dM := trkM M 16 (S 60 0 (17 * t + 1)) (S 60 0 (17 * t + 4) * 10000)
def goP (S : dC) (t : Nat) (M : dM) : dM := if syn S (goB S t M) then um (goB S t M) 18 (if M 14 = 1000000 ∧ S 57 0 (S 60 0 (17 * t + 1)).toNat ≠ 0 then 999999 else M 14) else goB S t M
def goT (S : dC) (t : Nat) (M : dM) : dM := if durS S t = 0 then endM (goP S t M) else um (um (um (goP S t M) 8 1) 9 (t : Int)) 10 0
def idl (M : dM) : dM := um (um (um M 11 0) 20 0) 21 0
noncomputable def takM (S : dC) (M : dM) (t : Nat) (l : Int) : dM := goT S t (if M 8 = 1 then frz S M l else idl M)
noncomputable def tak (S : dC) (M : dM) : dM := match pick S M with
  | none => M
  | some (t, l) => takM S (clr S t (cnN S t) M) t l
/-! events -/
def ntS (M : dM) : dM := if M 166 = 30 then um (fun f => if 167 ≤ f ∧ f < 283 then M (f + 4) else M f) 166 29 else M
def nt0 (M : dM) (tick id c s : Int) : dM := um (um (um (um (um (um M (167 + 4 * (M 166).toNat) tick) (167 + 4 * (M 166).toNat + 1) id) (167 + 4 * (M 166).toNat + 2) c) (167 + 4 * (M 166).toNat + 3) s) 166 (M 166 + 1)) 288 (M 288 + 1)
def ntM (M : dM) (tick id c s : Int) : dM := nt0 (ntS M) tick id c s
def lea (before fresh : Int) : Int := if fresh = 0 then before + 1 else before
def cyc (z least again : Int) : Int := if again ≠ 0 ∧ z < least then (least - z + 1000000 - 1) / 1000000 else 0
abbrev crs (z before fresh after again : Int) : Prop := lea before fresh ≤ cyc z (lea before fresh) again * 1000000 + z ∧ cyc z (lea before fresh) again * 1000000 + z ≤ after
def zOf (S : dC) (c k : Nat) : Int := S 46 0 (5 * c + k) * 1000000 / S 44 0 c
def fiK (S : dC) (s : Nat) (before fresh after tick : Int) (c : Nat) : Nat → dM → dM
  | 0, M => M
  | k + 1, M => if crs (zOf S c k) before fresh after (S 57 0 s) then ntM (fiK S s before fresh after tick c k M) tick (S 47 0 (5 * c + k)) c s else fiK S s before fresh after tick c k M
abbrev hrd (S : dC) (w : Int) : Prop := 0 < w ∧ S 38 0 22 * 1000000 ≤ w * 100
def fiC (S : dC) (T : Nat → Int) (s : Nat) (before fresh after tick : Int) : Nat → dM → dM
  | 0, M => M
  | c + 1, M => if hrd S (T c) then fiK S s before fresh after tick c (S 45 0 c).toNat (fiC S T s before fresh after tick c M) else fiC S T s before fresh after tick c M
noncomputable def fir (S : dC) (s : Nat) (before fresh after share tick : Int) (M : dM) : dM := fiC S (bw S M s share) s before fresh after tick (nC S) M
/-! ticks -/
def mix (S : dC) (M : dM) (a b : Int) : Int := ((1000000 - shr S M) * a + shr S M * b) / 1000000
noncomputable def stB (S : dC) (M : dM) : Int := 1000000 * mix S M (S 56 0 (M 12).toNat) (S 56 0 (M 16).toNat) / (100 * mix S M (lenS S M (M 12).toNat) (lenS S M (M 16).toNat))
noncomputable def adA (S : dC) (M : dM) : dM := if M 20 = 0 then adv S M 12 (stp S M 12) else M
noncomputable def adB (S : dC) (M : dM) : dM := if syn S M then adv S (adv S M 12 (stB S M)) 16 (stB S M) else adv S (adA S M) 16 (stp S (adA S M) 16)
def b1 (v : Int) : Int := if v = 1 then 1 else 0
noncomputable def tkI (S : dC) (M : dM) : dM := fir S (M 12).toNat (prg M 12) (b1 (M 15)) (prg (adv S M 12 (stp S M 12)) 12) 1000000 (M 287) (adv S M 12 (stp S M 12))
noncomputable def tkE (S : dC) (M : dM) : dM := um (adB S M) 10 (adB S M 10 + 1)
noncomputable def tkF (S : dC) (M : dM) : dM := if tkE S M 10 = durS S (M 9).toNat then endM (tkE S M) else tkE S M
noncomputable def tkA (S : dC) (M : dM) : dM := if M 20 = 0 then fir S (M 12).toNat (prg M 12) (b1 (M 15)) (prg (adB S M) 12) (1000000 - shr S (tkE S M)) (M 287) (tkF S M) else tkF S M
noncomputable def tkB (S : dC) (M : dM) : dM := fir S (M 16).toNat (prg M 16) (b1 (M 19)) (prg (adB S M) 16) (shr S (tkE S M)) (M 287) (tkA S M)
noncomputable def tkM (S : dC) (M : dM) : dM := if M 8 = 0 then tkI S M else tkB S M
noncomputable def tk4 (S : dC) (M : dM) : dM := tak S (tak S (tak S (tak S (um M 287 (M 287 + 1)))))
noncomputable def tck (S : dC) (M : dM) : dM := tkM S (tk4 S M)
noncomputable def tcks (S : dC) : Nat → dM → dM
  | 0, M => M
  | n + 1, M => tcks S n (tck S M)
