
theorem WR_of0 {r y : Nat → Int32} (hW : WR r) (h5 : y 5 = r 5) (h6 : y 6 = nI 0) (h11 : ∃ o, o ≤ 12 ∧ y 11 = nI o) (hd : ∀ d, d < 12 → y (6 * d + 12) = r (6 * d + 12)) : WR y := by
  obtain ⟨⟨w1, w2⟩, ⟨w3, w4⟩, ⟨w5, w6⟩, w7, w8⟩ := hW
  have e1 : kn y = kn r := by unfold kn; rw [h5]
  have e2 : mn y = 0 := by unfold mn; rw [h6]; exact tn_nI (by omega)
  obtain ⟨o, o1, o2⟩ := h11
  have e3 : on y = o := by unfold on; rw [o2]; exact tn_nI (by omega)
  refine ⟨⟨by rw [h5, e1]; exact w1, by omega⟩, ⟨by rw [h6, e2], by omega⟩, ⟨by rw [e3]; exact o2, by omega⟩, fun q hq => by omega, fun d hd2 => ?_⟩
  rw [e1] at hd2
  have a1 : dc y d = dc r d := by unfold dc; rw [hd d (by omega)]
  rw [a1, hd d (by omega)]
  exact w8 d hd2
theorem dayR_WR {r : Nat → Int32} (hW : WR r) : WR (dayR r) := by
  have hE := dayE_WR hW
  unfold dayR
  split
  · exact hE
  · have hk := hW.1.2
    have e5 : hrC (dayE r) 5 = r 5 := by
      rw [hrC_eq hE (by omega) (by omega) (by omega) (by omega) (by omega)]
      unfold dayE
      rw [upd_n (by omega), upd_n (by omega)]
    have h11 := (hrC_WR hE).2.2.1
    refine WR_of0 hW ?_ ?_ ⟨on (hrC (dayE r)), h11.2, ?_⟩ (fun d hd => ?_)
    · rw [noOwn_n (fun d hd => by omega), upd_n (by omega), upd_n (by omega), upd_n (by omega), e5]
    · rw [noOwn_n (fun d hd => by omega), upd_s]
    · rw [noOwn_n (fun d hd => by omega), upd_n (by omega), upd_n (by omega), upd_n (by omega)]
      exact h11.1
    · rw [noOwn_n (fun d2 hd2 => by omega), upd_n (by omega), upd_n (by omega), upd_n (by omega), hrC_eq hE (by omega) (by omega) (by omega) (by omega) (by omega)]
      unfold dayE
      rw [upd_n (by omega), upd_n (by omega)]

/-- a row is copied over another -/
def cpS (S : Nat → Int32) (a b : Nat) : Nat → Int32 := fun j => if 612 * b ≤ j ∧ j < 612 * b + 612 then S (612 * a + (j - 612 * b)) else S j
def cpk (S : Nat → Int32) (a b k : Nat) : Nat → Int32 := fun j => if 612 * b ≤ j ∧ j < 612 * b + k then S (612 * a + (j - 612 * b)) else S j
theorem cpk_0 (S : Nat → Int32) (a b : Nat) : cpk S a b 0 = S := by
  funext j
  unfold cpk
  rw [if_neg (by omega)]
theorem cpk_s {S : Nat → Int32} {a b k : Nat} (hab : a ≠ b) (hk : k < 612) : upd (cpk S a b k) (612 * b + k) (cpk S a b k (612 * a + k)) = cpk S a b (k + 1) := by
  have e : cpk S a b k (612 * a + k) = S (612 * a + k) := by
    unfold cpk
    rw [if_neg (by omega)]
  rw [e]
  funext j
  by_cases h : j = 612 * b + k
  · subst h
    rw [upd_s]
    unfold cpk
    rw [if_pos (by omega)]
    congr 1
    omega
  · rw [upd_n h]
    unfold cpk
    by_cases g : 612 * b ≤ j ∧ j < 612 * b + k
    · rw [if_pos g, if_pos (by omega)]
    · rw [if_neg g, if_neg (by omega)]
theorem cpk_e (S : Nat → Int32) (a b : Nat) : cpk S a b 612 = cpS S a b := rfl
/-- a state is recorded: n are there -/
def rcS (S : Nat → Int32) (n a : Nat) : Nat → Int32 := if n = 4 then cpS (cpS (cpS (cpS S 2 1) 3 2) 4 3) a 4 else cpS S a (n + 1)
theorem upd_u (f : Nat → Int32) (k : Nat) (v w : Int32) : upd (upd f k v) k w = upd f k w := by
  funext j
  by_cases h : j = k
  · subst h
    rw [upd_s, upd_s]
  · rw [upd_n h, upd_n h, upd_n h]
theorem u1_u1 (G : GG) (k : Nat) (f g : Nat → Int32) : u1 (u1 G k f) k g = u1 G k g := by
  funext a
  by_cases h : a = k
  · simp [u1, h]
  · simp [u1, h]
theorem u1_comm {G : GG} {k j : Nat} (h : k ≠ j) (f g : Nat → Int32) : u1 (u1 G k f) j g = u1 (u1 G j g) k f := by
  funext a
  by_cases h1 : a = j
  · subst h1
    simp [u1, Ne.symm h]
  · by_cases h2 : a = k
    · simp [u1, h1, h2, h]
    · simp [u1, h1, h2]
