/-! TEXTS: t the characters, n how many, p where the reading stands -/
def isD (t : Nat → Int32) (n p : Nat) : Prop := p < n ∧ inN (t p) 48 57
def dv (t : Nat → Int32) (p : Nat) : Nat := tn (t p) - 48
theorem isD_v {t : Nat → Int32} {n p : Nat} (h : isD t n p) : t p = nI (dv t p + 48) ∧ dv t p ≤ 9 := by
  obtain ⟨-, d, h1, h2, h3⟩ := h
  have e : tn (t p) = d := by rw [h3]; exact tn_nI (by omega)
  unfold dv
  rw [e]
  refine ⟨?_, by omega⟩
  rw [show d - 48 + 48 = d by omega]
  exact h3
def ndC (t : Nat → Int32) (n gr v p : Nat) : Prop := 0 < v ∧ isD t n p ∧ dv t p + 10 * v ≤ gr
noncomputable def nmL (t : Nat → Int32) (n gr : Nat) : Nat → Nat → Nat → Nat × Nat
  | 0, v, p => (v, p)
  | f + 1, v, p => cif (ndC t n gr v p) (nmL t n gr f (dv t p + 10 * v) (p + 1)) (v, p)
/-- a number goes on at p, v so far -/
noncomputable def nmR (t : Nat → Int32) (n gr v p : Nat) : Nat × Nat := nmL t n gr (n - p) v p
theorem nmR_t {t : Nat → Int32} {n gr v p : Nat} (h : ndC t n gr v p) : nmR t n gr v p = nmR t n gr (dv t p + 10 * v) (p + 1) := by
  have hp := h.2.1.1
  unfold nmR
  rw [show n - p = (n - (p + 1)) + 1 by omega]
  exact cif_t h
theorem nmR_f {t : Nat → Int32} {n gr v p : Nat} (h : ¬ ndC t n gr v p) : nmR t n gr v p = (v, p) := by
  unfold nmR
  cases n - p with
  | zero => rfl
  | succ f => exact cif_f h
noncomputable def num (t : Nat → Int32) (n p ls gr : Nat) : Option Nat × Nat := cif (isD t n p ∧ ls ≤ dv t p ∧ dv t p ≤ gr) (some (nmR t n gr (dv t p) (p + 1)).1, (nmR t n gr (dv t p) (p + 1)).2) (none, p)
theorem nmL_ok {t : Nat → Int32} {n gr : Nat} : ∀ {f v p : Nat}, v ≤ gr → p ≤ n → (nmL t n gr f v p).1 ≤ gr ∧ p ≤ (nmL t n gr f v p).2 ∧ (nmL t n gr f v p).2 ≤ n := by
  intro f
  induction f with
  | zero => exact fun h g => ⟨h, Nat.le_refl _, g⟩
  | succ f ih =>
    intro v p h g
    by_cases c : ndC t n gr v p
    · have e : nmL t n gr (f + 1) v p = nmL t n gr f (dv t p + 10 * v) (p + 1) := cif_t c
      rw [e]
      have hp := c.2.1.1
      have := ih (v := dv t p + 10 * v) (p := p + 1) c.2.2 (by omega)
      exact ⟨this.1, by omega, this.2.2⟩
    · have e : nmL t n gr (f + 1) v p = (v, p) := cif_f c
      rw [e]
      exact ⟨h, Nat.le_refl _, g⟩
theorem num_ok {t : Nat → Int32} {n p ls gr p2 : Nat} {o : Option Nat} (h : num t n p ls gr = (o, p2)) (hp : p ≤ n) : p ≤ p2 ∧ p2 ≤ n ∧ (∀ v, o = some v → v ≤ gr ∧ p < p2) := by
  unfold num at h
  by_cases c : isD t n p ∧ ls ≤ dv t p ∧ dv t p ≤ gr
  · rw [cif_t c] at h
    have hp2 := c.1.1
    have := nmL_ok (t := t) (n := n) (gr := gr) (f := n - (p + 1)) (v := dv t p) (p := p + 1) c.2.2 (by omega)
    have e1 : some (nmR t n gr (dv t p) (p + 1)).1 = o := congrArg Prod.fst h
    have e2 : (nmR t n gr (dv t p) (p + 1)).2 = p2 := congrArg Prod.snd h
    unfold nmR at e1 e2
    refine ⟨by omega, by omega, fun v hv => ?_⟩
    rw [hv] at e1
    cases e1
    exact ⟨this.1, by omega⟩
  · rw [cif_f c] at h
    have e1 : none = o := congrArg Prod.fst h
    have e2 : p = p2 := congrArg Prod.snd h
    refine ⟨by omega, by omega, fun v hv => ?_⟩
    rw [← e1] at hv
    cases hv
def isC (t : Nat → Int32) (n p ch : Nat) : Prop := p < n ∧ t p = nI ch
noncomputable def tkP (t : Nat → Int32) (n p ch : Nat) : Nat := cif (isC t n p ch) (p + 1) p
theorem nI_n5 {v : Nat} (h : v < 2 ^ 31) : ¬ nI v = (-5) := by
  intro q
  have q2 : (nI v).toInt = (-5 : Int32).toInt := congrArg Int32.toInt q
  rw [nI_toInt h] at q2
  have : (-5 : Int32).toInt = -5 := by decide
  omega
theorem u1_sw {G : GG} {k j i : Nat} {F : Nat → Int32} {v : Int32} (h : k ≠ j) : u1 (u1 G j F) k (upd ((u1 G j F) k) i v) = u1 (u1 G k (upd (G k) i v)) j F := by
  rw [u1_n h, u1_comm (Ne.symm h)]
/-- the things of a text: what kind (0 a petition, 1 a seconding, 2 days), four numbers -/
abbrev TH : Type := Nat × Nat × Nat × Nat × Nat
noncomputable def thK (t : Nat → Int32) (n d x g p : Nat) : Option TH × Nat := cif (isC t n p 43) (some (0, d, x, g, 1), p + 1) (cif (isC t n p 45) (some (0, d, x, g, 0), p + 1) (cif (isC t n p 120) (some (0, d, x, g, 2), p + 1) (none, p)))
noncomputable def thP (t : Nat → Int32) (n p : Nat) : Option TH × Nat := match num t n p 0 11 with
  | (none, p1) => (none, p1)
  | (some d, p1) => cif (isC t n p1 58) (match num t n (p1 + 1) 0 6 with
    | (none, p2) => (none, p2)
    | (some x, p2) => cif (isC t n p2 46) (match num t n (p2 + 1) 0 19 with
      | (none, p3) => (none, p3)
      | (some g, p3) => thK t n d x g p3) (none, p2)) (none, p1)
noncomputable def thY (t : Nat → Int32) (n p : Nat) : Option TH × Nat := match num t n p 0 11 with
  | (none, p1) => (none, p1)
  | (some d, p1) => cif (isC t n p1 58) (match num t n (p1 + 1) 0 11 with
    | (none, p2) => (none, p2)
    | (some x, p2) => (some (1, d, x, 0, 0), p2)) (none, p1)
noncomputable def thD (t : Nat → Int32) (n p : Nat) : Option TH × Nat := match num t n p 1 99 with
  | (none, p1) => (none, p1)
  | (some d, p1) => (some (2, d, 0, 0, 0), p1)
/-- a thing is read at p -/
noncomputable def thO (t : Nat → Int32) (n p : Nat) : Option TH × Nat := cif (isC t n p 112) (thP t n (p + 1)) (cif (isC t n p 121) (thY t n (p + 1)) (cif (isC t n p 46) (thD t n (p + 1)) (none, p)))
