/-! truth values as ints; numbers in a range; small facts -/
noncomputable def b2 (P : Prop) : Int32 := @ite _ P (Classical.propDecidable P) 1 0
theorem b2_t {P : Prop} (h : P) : b2 P = 1 := by unfold b2; exact if_pos h
theorem b2_f {P : Prop} (h : ¬ P) : b2 P = 0 := by unfold b2; exact if_neg h
theorem b2_z {P : Prop} : b2 P = 0 ↔ ¬ P := by
  constructor
  · intro h hp
    rw [b2_t hp] at h
    exact absurd h (by decide)
  · exact b2_f
theorem b2_o {P : Prop} : b2 P = 1 ↔ P := by
  constructor
  · intro h
    apply Classical.byContradiction
    intro hp
    rw [b2_f hp] at h
    exact absurd h (by decide)
  · exact b2_t
theorem b2_c {P P' : Prop} (h : P ↔ P') : b2 P = b2 P' := by rw [propext h]
theorem b2_n (P : Prop) : narrow .boolean (.int (b2 P)) = .int (b2 P) := by
  rcases Classical.em P with h | h
  · rw [b2_t h]; decide
  · rw [b2_f h]; decide
theorem b2_01 (P : Prop) : b2 P = 0 ∨ b2 P = 1 := (Classical.em P).elim (fun h => Or.inr (b2_t h)) (fun h => Or.inl (b2_f h))
/-- the number is a natural one between two others -/
def inN (x : Int32) (a b : Nat) : Prop := ∃ d : Nat, a ≤ d ∧ d ≤ b ∧ x = nI d
def isN (x : Int32) (n : Nat) : Prop := ∃ d : Nat, d < n ∧ x = nI d
theorem i32_le {a b : Int32} : a ≤ b ↔ a.toInt ≤ b.toInt := Int32.le_iff_toInt_le
theorem i32_lt {a b : Int32} : a < b ↔ a.toInt < b.toInt := Int32.lt_iff_toInt_lt
theorem i32_of {x : Int32} {n : Nat} (h : x.toInt = n) (hn : n < 2 ^ 31) : x = nI n := Int32.toInt_inj.mp (by rw [h, nI_toInt hn])
theorem inN_iff {x : Int32} {a b : Nat} (ha : a < 2 ^ 31) (hb : b < 2 ^ 31) : (nI a ≤ x ∧ x ≤ nI b) ↔ inN x a b := by
  constructor
  · rintro ⟨h1, h2⟩
    rw [i32_le, nI_toInt ha] at h1
    rw [i32_le, nI_toInt hb] at h2
    exact ⟨x.toInt.toNat, by omega, by omega, i32_of (by omega) (by omega)⟩
  · rintro ⟨d, h1, h2, rfl⟩
    exact ⟨(nI_leI ha (by omega)).mpr h1, (nI_leI (by omega) hb).mpr h2⟩
theorem isN_in {x : Int32} {n : Nat} (h0 : 0 < n) : inN x 0 (n - 1) ↔ isN x n := ⟨fun ⟨d, _, h, e⟩ => ⟨d, by omega, e⟩, fun ⟨d, h, e⟩ => ⟨d, Nat.zero_le _, by omega, e⟩⟩
theorem isN_iff {x : Int32} {n : Nat} (hn : n < 2 ^ 30) : (nI 0 ≤ x ∧ x ≤ nI n - nI 1) ↔ isN x n := by
  have e : (nI n - nI 1).toInt = (n : Int) - 1 := pk_sub_toInt hn (by decide)
  constructor
  · rintro ⟨h1, h2⟩
    rw [i32_le, nI_toInt (by decide)] at h1
    rw [i32_le, e] at h2
    exact ⟨x.toInt.toNat, by omega, i32_of (by omega) (by omega)⟩
  · rintro ⟨d, h1, rfl⟩
    refine ⟨(nI_leI (by decide) (by omega)).mpr (Nat.zero_le _), ?_⟩
    rw [i32_le, e, nI_toInt (by omega)]
    omega
theorem isN_nI {d n : Nat} (hd : d < 2 ^ 31) (hn : n ≤ 2 ^ 31) : isN (nI d) n ↔ d < n := by
  constructor
  · rintro ⟨j, h1, h2⟩
    rw [nI_eq hd (by omega)] at h2
    omega
  · exact fun h => ⟨d, h, rfl⟩
theorem upd_s (f : Nat → Int32) (k : Nat) (v : Int32) : upd f k v k = v := pk_us
theorem upd_n {f : Nat → Int32} {k j : Nat} {v : Int32} (h : j ≠ k) : upd f k v j = f j := pk_un h
theorem u1_211 (G : GG) (g : Nat → Int32) : u1 G 211 g 211 = g := u1_s G 211 g
