
/-- a hearing was tried: what lies behind the seven rows, the order and the reasons may differ -/
def TrG (G uG : GG) (og g S : Nat → Int32) : Prop := uG = u1 (u1 (u1 G 213 og) 214 g) 211 S ∧ ∀ k, k < 4284 → S k = G 211 k
theorem TrG.rf (G : GG) : TrG G G (G 213) (G 214) (G 211) := ⟨by rw [u1_self, u1_self, u1_self], fun _ _ => rfl⟩
noncomputable def rsA (r : Nat → Int32) (q : Int32) : Int32 := cif (isN q (mn r)) ((hearC r).2.2 (tn q)) (-1)
noncomputable def wpA (r : Nat → Int32) : Int32 := itr (fun q a => a ||| (b2 ((hearC r).2.2 q = 0) <<< (nI q &&& 31))) (nI 0) (mn r)
noncomputable def hdA (r : Nat → Int32) (x : Int32) : Int32 := cif (x < 0) (-2) (cif (isN x (mn r)) (nI (sg r (tn x))) (-5))
noncomputable def ctF (r : Nat → Int32) (a b : Int32) : Nat → Int32
  | 0 => r 2
  | 1 => r 3
  | 2 => r 4
  | 3 => r 5
  | 4 => nI (cnt (LW r) 140)
  | 5 => nI (cnt (fun k => r (3 * k + 192) = nI 0) 140)
  | 6 => r 6
  | 7 => r 7
  | 8 => r 8
  | 9 => r 9
  | 10 => r 10
  | 11 => nI (cnt (fun k => ¬ alw r (k / 20) (k % 20)) 120)
  | 12 => r 0
  | 13 => r 1
  | 14 => a
  | _ => b
noncomputable def ctA (r : Nat → Int32) (a b x : Int32) : Int32 := cif (isN x 16) (ctF r a b (tn x)) (-2)

theorem lt_isN {x : Int32} {n : Nat} (hn : n < 2 ^ 31) : (0 ≤ x ∧ x < nI n) ↔ isN x n := by
  constructor
  · rintro ⟨h1, h2⟩
    rw [i32_le] at h1
    rw [i32_lt, nI_toInt hn] at h2
    have h0 : (0 : Int32).toInt = 0 := by decide
    exact ⟨x.toInt.toNat, by omega, i32_of (by omega) (by omega)⟩
  · rintro ⟨d, h1, rfl⟩
    exact ⟨nI_pos' (by omega), nI_lt h1 hn⟩

theorem rcS_5 (S : Nat → Int32) (n : Nat) (hn : n ≤ 4 := by omega) : REq (rwS S 3060) (cpS (rcS S n 0) 5 0) := by
  intro k hk
  have e : rcS S n 0 (3060 + k) = S (3060 + k) := by
    unfold rcS
    split
    · unfold cpS
      rw [if_neg (by omega), if_neg (by omega), if_neg (by omega), if_neg (by omega)]
    · unfold cpS
      rw [if_neg (by omega)]
  show cpS (rcS S n 0) 5 0 k = S (3060 + k)
  rw [← e]
  unfold cpS
  rw [if_pos (by omega)]
  congr 1
