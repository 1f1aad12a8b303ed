
noncomputable def drA (r : Nat → Int32) (d x : Int32) : Int32 := cif (isN d (kn r)) (cif (inN x 0 2) (r (6 * (tn d) + tn x + 12)) (if x = nI 3 then sc2 r d else cif (inN x 4 6) (r (6 * (tn d) + tn x + 11)) (-2))) (-1)
def byB (r : Nat → Int32) (y : Int32) (k : Nat) : Int32 := if y = 0 then nI (k / 20) else if y = nI 1 then nI (k % 20) else if y = nI 5 then wgt r (nI (k / 20)) else r (tn y + 3 * k + 190)
noncomputable def byA (r : Nat → Int32) (x y : Int32) : Int32 := cif (¬ x < 0 ∧ inN y 0 5) (match rkd r x with
  | none => -5
  | some k => byB r y k) (-2)
noncomputable def ptoA (r : Nat → Int32) (q x : Int32) : Int32 := cif (isN q (mn r)) (cif (inN x 0 3) (r (5 * (tn q) + tn x + 84)) (if x = nI 4 then supp r (tn q) else if x = nI 5 then r (5 * (tn q) + 88) else (-2))) (-1)
noncomputable def ruA (r : Nat → Int32) (a g x : Int32) : Int32 := cif (isN a 6 ∧ isN g 20) (if x = nI 0 then b2 (alw r (tn a) (tn g)) else if x = nI 1 then opI (rulO r (tn a) (tn g)) else if x = nI 2 then (match rulO r (tn a) (tn g) with
  | none => -5
  | some k => r (60 * k + 3 * (tn g) + 193)) else (-2)) (-1)
noncomputable def laA (r : Nat → Int32) (q : Int32) : Int32 := cif (isN q (mn r)) (opI (lackO r (tn q))) (-1)
noncomputable def olA (r : Nat → Int32) (d x : Int32) : Int32 := cif (isN d (kn r)) (cif (inN x 0 1) (match oldI r (dc r (tn d)) 140 with
  | none => -5
  | some k => if x = 0 then nI (cnt (LW r) k) else r (3 * k + 194)) (-2)) (-1)

theorem rul_of {r : Nat → Int32} {a g k : Nat} (h : rulO r a g = some k) : opI (rulO r a g) = nI k := by rw [h]; rfl
theorem rul_is {r : Nat → Int32} {a k : Nat} (h : opI (rulO r a (k % 20)) = nI (k / 20)) (ha : a < 6 := by omega) (hk : k < 140 := by omega) : rulO r a (k % 20) = some (k / 20) := by
  cases e : rulO r a (k % 20) with
  | none =>
    rw [e] at h
    have h2 : (-5 : Int32).toInt = (nI (k / 20)).toInt := congrArg Int32.toInt h
    rw [nI_toInt (by omega)] at h2
    have : (-5 : Int32).toInt = -5 := by decide
    omega
  | some j =>
    have hj := rulO_lt e
    rw [e] at h
    rw [(nI_eq (show j < 2 ^ 31 by omega) (show k / 20 < 2 ^ 31 by omega)).mp h]

theorem fst_lt {P : Nat → Prop} : ∀ {n k : Nat}, fst P n = some k → k < n := by
  intro n
  induction n with
  | zero => intro k h; cases h
  | succ n ih =>
    intro k h
    unfold fst at h
    cases e : fst P n with
    | none =>
      rw [e] at h
      by_cases g : P n
      · have h2 : cif (P n) (some n) none = some k := h
        rw [cif_t g] at h2
        cases h2
        omega
      · have h2 : cif (P n) (some n) none = some k := h
        rw [cif_f g] at h2
        cases h2
    | some j =>
      rw [e] at h
      cases h
      have := ih e
      omega
theorem rkd_lt {r : Nat → Int32} {x : Int32} {k : Nat} (h : rkd r x = some k) : k < 140 := fst_lt h
