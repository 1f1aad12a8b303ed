
/-! what the reference tells of its row 0; counting the bylaws; the first of a kind -/
theorem rwS_0 (S : Nat → Int32) : rwS S 0 = S := by
  funext k
  simp [rwS]
theorem cnt_t {P : Nat → Prop} {n : Nat} (h : P n) : cnt P (n + 1) = cnt P n + 1 := by
  show cnt P n + _ = _
  rw [if_pos h]
theorem cnt_f {P : Nat → Prop} {n : Nat} (h : ¬ P n) : cnt P (n + 1) = cnt P n := by
  show cnt P n + _ = _
  rw [if_neg h]
  rfl
theorem cnt_le (P : Nat → Prop) (n : Nat) : cnt P n ≤ n := by
  induction n with
  | zero => exact Nat.le_refl _
  | succ n ih =>
    by_cases h : P n
    · rw [cnt_t h]; omega
    · rw [cnt_f h]; omega
theorem sw_out {x : Int32} {n : Nat} {m : Int} (hm : m = (n : Int) - 1) (h : ¬ isN x n) : x.toInt < 0 ∨ m < x.toInt := by
  by_cases g : x.toInt < 0
  · exact Or.inl g
  · refine Or.inr ?_
    have hb := Int32.toInt_lt x
    by_cases g2 : x.toInt < n
    · exact absurd ⟨x.toInt.toNat, by omega, i32_of (by omega) (by omega)⟩ h
    · omega
noncomputable def fst (P : Nat → Prop) : Nat → Option Nat
  | 0 => none
  | n + 1 => match fst P n with
    | some j => some j
    | none => cif (P n) (some n) none
theorem fst_n {P : Nat → Prop} {n : Nat} (h : ∀ j, j < n → ¬ P j) : fst P n = none := by
  induction n with
  | zero => rfl
  | succ n ih =>
    unfold fst
    rw [ih (fun j hj => h j (by omega))]
    exact cif_f (h n (by omega))
theorem fst_s {P : Nat → Prop} {i : Nat} (hi : P i) (h : ∀ j, j < i → ¬ P j) : ∀ {n : Nat}, i < n → fst P n = some i := by
  intro n
  induction n with
  | zero => intro q; omega
  | succ n ih =>
    intro q
    unfold fst
    by_cases e : i = n
    · subst e
      rw [fst_n h]
      exact cif_t hi
    · rw [ih (by omega)]
/-- a number, or NONE -/
def opI (o : Option Nat) : Int32 := match o with
  | some k => nI k
  | none => -5
theorem opI_n {o : Option Nat} (h : ∀ k, o = some k → k < 2 ^ 31) : opI o = (-5) ↔ o = none := by
  cases o with
  | none => exact iff_of_true rfl rfl
  | some k =>
    refine iff_of_false (fun q => ?_) (fun q => by cases q)
    have q2 : (nI k).toInt = (-5 : Int32).toInt := congrArg Int32.toInt q
    rw [nI_toInt (h k rfl)] at q2
    have : (-5 : Int32).toInt = -5 := by decide
    omega
def LW (r : Nat → Int32) (k : Nat) : Prop := r (3 * k + 192) ≠ (-5)
noncomputable def rkd (r : Nat → Int32) (x : Int32) : Option Nat := fst (fun k => LW r k ∧ nI (cnt (LW r) k) = x) 140
def rulO (r : Nat → Int32) (c g : Nat) : Option Nat :=
  if r (60 * c + 3 * g + 192) = (-5) ∨ r (3 * g + 552) = (-5) then (if r (60 * c + 3 * g + 192) = (-5) then (if r (3 * g + 552) = (-5) then none else some 6) else some c)
  else if r (60 * c + 3 * g + 193) < r (3 * g + 553) then some 6 else some c
theorem rulO_lt {r : Nat → Int32} {c g k : Nat} (h : rulO r c g = some k) : k = c ∨ k = 6 := by
  unfold rulO at h
  split at h
  · split at h
    · split at h
      · cases h
      · cases h; exact Or.inr rfl
    · cases h; exact Or.inl rfl
  · split at h
    · cases h; exact Or.inr rfl
    · cases h; exact Or.inl rfl
def alw (r : Nat → Int32) (c g : Nat) : Prop := rulO r c g = none ∨ ∃ k, rulO r c g = some k ∧ r (60 * k + 3 * g + 192) = nI 1
def oldS (r : Nat → Int32) (c k : Nat) (o : Option Nat) : Prop := rulO r c (k % 20) = some (k / 20) ∧ (o = none ∨ ∃ j, o = some j ∧ r (3 * k + 194) < r (3 * j + 194))
noncomputable def oldI (r : Nat → Int32) (c n : Nat) : Option Nat := itr (fun k o => cif (oldS r c k o) (some k) o) none n
theorem oldI_lt {r : Nat → Int32} {c : Nat} : ∀ {n k : Nat}, oldI r c n = some k → k < n := by
  intro n
  induction n with
  | zero => intro k h; cases h
  | succ n ih =>
    intro k h
    by_cases g : oldS r c n (oldI r c n)
    · have e : oldI r c (n + 1) = some n := cif_t g
      rw [e] at h
      cases h
      omega
    · have e : oldI r c (n + 1) = oldI r c n := cif_f g
      rw [e] at h
      have := ih h
      omega
def sc2 (r : Nat → Int32) (d : Int32) : Int32 := itr (fun q a => a ||| (((r (5 * q + 88) >>> (d &&& 31)) &&& nI 1) <<< (nI q &&& 31))) (nI 0) (mn r)
noncomputable def freeS (r : Nat → Int32) : Int32 := itr (fun d a => a ||| (b2 (r (6 * d + 14) = (-5)) <<< (nI d &&& 31))) (nI 0) (kn r)
noncomputable def lackO (r : Nat → Int32) (q : Nat) : Option Nat := fst (fun m => refu r q (supp r q + nI m) = 0) 121
