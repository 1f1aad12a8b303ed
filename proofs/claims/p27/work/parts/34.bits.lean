/-! ===== Int32 by its bits: bt x i ===== -/
def bt (x : Int32) (i : Nat) : Bool := x.toBitVec.getLsbD i
theorem b_ext {x y : Int32} (h : ∀ i, i < 32 → bt x i = bt y i) : x = y := Int32.toBitVec_inj.mp (BitVec.eq_of_getLsbD_eq (fun i hi => h i hi))
theorem b_or (x y : Int32) (i : Nat) : bt (x ||| y) i = (bt x i || bt y i) := by unfold bt; rw [Int32.toBitVec_or, BitVec.getLsbD_or]
theorem b_and (x y : Int32) (i : Nat) : bt (x &&& y) i = (bt x i && bt y i) := by unfold bt; rw [Int32.toBitVec_and, BitVec.getLsbD_and]
theorem b_xor (x y : Int32) (i : Nat) : bt (x ^^^ y) i = (bt x i ^^ bt y i) := by unfold bt; rw [Int32.toBitVec_xor, BitVec.getLsbD_xor]
theorem b_big {x : Int32} {i : Nat} (h : 32 ≤ i) : bt x i = false := BitVec.getLsbD_of_ge _ _ h
theorem b_255 (i : Nat) : bt 255 i = decide (i < 8) := by
  rcases Nat.lt_or_ge i 32 with h | h
  · exact (by decide +kernel : ∀ i, i < 32 → bt 255 i = decide (i < 8)) i h
  · rw [b_big h, decide_eq_false (by omega)]
theorem b_65535 (i : Nat) : bt 65535 i = decide (i < 16) := by
  rcases Nat.lt_or_ge i 32 with h | h
  · exact (by decide +kernel : ∀ i, i < 32 → bt 65535 i = decide (i < 16)) i h
  · rw [b_big h, decide_eq_false (by omega)]
theorem b_m1 : ∀ i, i < 32 → bt (-1) i = true := by decide +kernel
theorem b_0 (i : Nat) : bt 0 i = false := BitVec.getLsbD_zero
theorem s_l : ∀ n, n < 32 → ((nI n &&& 31).toBitVec.smod 32).toNat = n := by decide +kernel
theorem s_u : ∀ n, n < 32 → (((nI n).toUInt32 &&& Int32.toUInt32 31).toBitVec % 32).toNat = n := by decide +kernel
theorem b_shl (n : Nat) (hn : n < 32) (x : Int32) {i : Nat} (hi : i < 32) : bt (x <<< (nI n &&& 31)) i = (decide (n ≤ i) && bt x (i - n)) := by
  unfold bt
  rw [Int32.toBitVec_shiftLeft]
  show (x.toBitVec <<< ((nI n &&& 31).toBitVec.smod 32).toNat).getLsbD i = _
  rw [s_l n hn, BitVec.getLsbD_shiftLeft]
  rcases Nat.lt_or_ge i n with h | h
  · simp [h, Nat.not_le.mpr h]
  · simp [hi, h, Nat.not_lt.mpr h]
theorem b_ushr (n : Nat) (hn : n < 32) (x : Int32) (i : Nat) : bt ((x.toUInt32 >>> ((nI n).toUInt32 &&& Int32.toUInt32 31)).toInt32) i = bt x (n + i) := by
  show (x.toUInt32 >>> ((nI n).toUInt32 &&& Int32.toUInt32 31)).toBitVec.getLsbD i = x.toUInt32.toBitVec.getLsbD (n + i)
  rw [UInt32.toBitVec_shiftRight]
  show (x.toUInt32.toBitVec >>> (((nI n).toUInt32 &&& Int32.toUInt32 31).toBitVec % 32).toNat).getLsbD i = _
  rw [s_u n hn, BitVec.getLsbD_ushiftRight]
theorem b_sshr (n : Nat) (hn : n < 32) (x : Int32) {i : Nat} (hi : i < 32) : bt (x >>> (nI n &&& 31)) i = if n + i < 32 then bt x (n + i) else bt x 31 := by
  unfold bt
  rw [Int32.toBitVec_shiftRight]
  show (x.toBitVec.sshiftRight ((nI n &&& 31).toBitVec.smod 32).toNat).getLsbD i = _
  rw [s_l n hn, BitVec.getLsbD_sshiftRight, BitVec.msb_eq_getLsbD_last]
  simp [hi]
/-! one bit of a set of drones or petitions -/
theorem b_1 : ∀ i, i < 32 → bt (nI 1) i = decide (i = 0) := by decide +kernel
theorem bit_0 {x : Int32} {d : Nat} (hd : d < 32) : bt ((x >>> (nI d &&& 31)) &&& nI 1) 0 = bt x d := by
  rw [b_and, b_sshr d hd x (by omega), if_pos (by omega), b_1 0 (by omega)]
  simp
theorem bit_z {x : Int32} {d : Nat} (hd : d < 32) : (x >>> (nI d &&& 31)) &&& nI 1 = 0 ↔ bt x d = false := by
  have h0 := bit_0 (x := x) hd
  constructor
  · intro h
    rw [h, b_0] at h0
    exact h0.symm
  · intro h
    rcases and1 (x >>> (nI d &&& 31)) with e | e
    · exact e
    · rw [e, h, b_1 0 (by omega)] at h0
      exact absurd h0 (by decide)
theorem bit_o {x : Int32} {d : Nat} (hd : d < 32) : (x >>> (nI d &&& 31)) &&& nI 1 = nI 1 ↔ bt x d = true := by
  have h0 := bit_0 (x := x) hd
  constructor
  · intro h
    rw [h, b_1 0 (by omega)] at h0
    exact h0.symm
  · intro h
    rcases and1 (x >>> (nI d &&& 31)) with e | e
    · rw [e, h, b_0] at h0
      exact absurd h0 (by decide)
    · exact e
theorem b_one {D d : Nat} (hD : D < 32) (hd : d < 32) : bt (nI 1 <<< (nI D &&& 31)) d = decide (d = D) := by
  rw [b_shl D hD _ hd]
  by_cases h : D ≤ d
  · rw [b_1 _ (by omega)]
    by_cases e : d = D
    · simp [e]
    · simp [e, h]
      omega
  · simp [h, show ¬ d = D by omega]
theorem bt_set {x : Int32} {D d : Nat} (hD : D < 32) (hd : d < 32) : bt (x ||| (nI 1 <<< (nI D &&& 31))) d = (bt x d || decide (d = D)) := by
  rw [b_or, b_one hD hd]
theorem bit_and {x : Int32} {D : Nat} (hD : D < 32) : x &&& (nI 1 <<< (nI D &&& 31)) = 0 ↔ bt x D = false := by
  constructor
  · intro h
    have : bt (x &&& (nI 1 <<< (nI D &&& 31))) D = bt x D := by rw [b_and, b_one hD hD]; simp
    rw [h, b_0] at this
    exact this.symm
  · intro h
    refine b_ext (fun i hi => ?_)
    rw [b_and, b_one hD hi, b_0]
    by_cases e : i = D
    · rw [e, h]; rfl
    · simp [e]
/-- a sum whose one summand changes -/
theorem itr_add {F F' : Nat → Int32} {D : Nat} {c : Int32} (a0 : Int32) (hD : F' D = F D + c) : ∀ n, (∀ d, d < n → d ≠ D → F' d = F d) → itr (fun d a => a + F' d) a0 n = itr (fun d a => a + F d) a0 n + (if D < n then c else 0) := by
  intro n
  induction n with
  | zero => intro _; show a0 = a0 + _; rw [if_neg (by omega)]; exact (Int32.add_zero _).symm
  | succ n ih =>
    intro h
    show itr (fun d a => a + F' d) a0 n + F' n = itr (fun d a => a + F d) a0 n + F n + _
    rw [ih (fun d hd => h d (by omega))]
    by_cases e : n = D
    · subst e
      rw [if_neg (by omega), if_pos (by omega), hD, Int32.add_zero, Int32.add_assoc]
    · rw [h n (by omega) e]
      by_cases g : D < n
      · rw [if_pos g, if_pos (by omega), Int32.add_assoc, Int32.add_comm c, ← Int32.add_assoc]
      · rw [if_neg g, if_neg (by omega), Int32.add_zero, Int32.add_zero]
theorem sumN_upd {f : Nat → Int32} {n D : Nat} (hD : D < n) (c : Int32) : sumN (upd f D (f D + c)) n = sumN f n + c := by
  have := itr_add (F := f) (F' := upd f D (f D + c)) (D := D) (c := c) (nI 0) (upd_s _ _ _) n (fun d _ hd => upd_n hd)
  rw [if_pos hD] at this
  exact this
theorem supp_set {r : Nat → Int32} {q D : Nat} (hk : kn r ≤ 12) (hD : D < kn r) (hp : pd r q < 12) (hb0 : bt (r (5 * q + 88)) D = false) : supp (upd r (5 * q + 88) (r (5 * q + 88) ||| (nI 1 <<< (nI D &&& 31)))) q = supp r q + r (6 * D + 13) := by
  obtain ⟨y, hy⟩ : ∃ y, y = upd r (5 * q + 88) (r (5 * q + 88) ||| (nI 1 <<< (nI D &&& 31))) := ⟨_, rfl⟩
  rw [← hy]
  have yn : ∀ k, k ≠ 5 * q + 88 → y k = r k := fun k h => by rw [hy]; exact upd_n h
  have ys : y (5 * q + 88) = r (5 * q + 88) ||| (nI 1 <<< (nI D &&& 31)) := by rw [hy]; exact upd_s _ _ _
  have e1 : kn y = kn r := by unfold kn; rw [yn 5 (by omega)]
  have e2 : pd y q = pd r q := by unfold pd; rw [yn _ (by omega)]
  have key := itr_add (F := fun d => ((r (5 * q + 88) >>> (nI d &&& 31)) &&& nI 1) * r (6 * d + 13)) (F' := fun d => ((y (5 * q + 88) >>> (nI d &&& 31)) &&& nI 1) * y (6 * d + 13)) (D := D) (c := r (6 * D + 13)) (r (6 * (pd r q) + 13)) (by
    show ((y (5 * q + 88) >>> (nI D &&& 31)) &&& nI 1) * y (6 * D + 13) = ((r (5 * q + 88) >>> (nI D &&& 31)) &&& nI 1) * r (6 * D + 13) + r (6 * D + 13)
    rw [ys, (bit_o (by omega)).mpr (by rw [bt_set (by omega) (by omega)]; simp), (bit_z (by omega)).mpr hb0, yn _ (by omega), Int32.zero_mul, Int32.zero_add]
    exact Int32.one_mul _) (kn r) (fun d h1 h2 => by
    show ((y (5 * q + 88) >>> (nI d &&& 31)) &&& nI 1) * y (6 * d + 13) = ((r (5 * q + 88) >>> (nI d &&& 31)) &&& nI 1) * r (6 * d + 13)
    rw [yn (6 * d + 13) (by omega), ys]
    congr 1
    have hbt : bt (r (5 * q + 88) ||| (nI 1 <<< (nI D &&& 31))) d = bt (r (5 * q + 88)) d := by rw [bt_set (by omega) (by omega)]; simp [h2]
    cases g : bt (r (5 * q + 88)) d with
    | false => rw [(bit_z (by omega)).mpr (hbt.trans g), (bit_z (by omega)).mpr g]
    | true => rw [(bit_o (by omega)).mpr (hbt.trans g), (bit_o (by omega)).mpr g])
  rw [if_pos hD] at key
  unfold supp
  rw [e1, e2, yn (6 * (pd r q) + 13) (by omega)]
  exact key
/-- a petition's support is a small number, at least 1 -/
theorem supp_nat {r : Nat → Int32} {q : Nat} (hk : kn r ≤ 12) (hp : pd r q < kn r) (hw : ∀ d, d < kn r → ∃ w, 1 ≤ w ∧ w ≤ 9 ∧ r (6 * d + 13) = nI w) : ∃ v, 1 ≤ v ∧ v ≤ 117 ∧ supp r q = nI v := by
  obtain ⟨w0, a1, a2, a3⟩ := hw _ hp
  have key : ∀ n, n ≤ kn r → ∃ v, 1 ≤ v ∧ v ≤ 9 + 9 * n ∧ itr (fun d a => a + ((r (5 * q + 88) >>> (nI d &&& 31)) &&& nI 1) * r (6 * d + 13)) (r (6 * (pd r q) + 13)) n = nI v := by
    intro n
    induction n with
    | zero => exact fun _ => ⟨w0, a1, by omega, a3⟩
    | succ n ih =>
      intro hn
      obtain ⟨v, v1, v2, v3⟩ := ih (by omega)
      obtain ⟨w, w1, w2, w3⟩ := hw n (by omega)
      have e : itr (fun d a => a + ((r (5 * q + 88) >>> (nI d &&& 31)) &&& nI 1) * r (6 * d + 13)) (r (6 * (pd r q) + 13)) (n + 1) = nI v + ((r (5 * q + 88) >>> (nI n &&& 31)) &&& nI 1) * nI w := by rw [← v3, ← w3]; rfl
      rw [e]
      rcases and1 (r (5 * q + 88) >>> (nI n &&& 31)) with g | g
      · rw [g, Int32.zero_mul, Int32.add_zero]
        exact ⟨v, v1, by omega, rfl⟩
      · rw [g, show nI 1 * nI w = nI w from Int32.one_mul _]
        exact ⟨v + w, by omega, by omega, nI_addc (by omega)⟩
  obtain ⟨v, v1, v2, v3⟩ := key (kn r) (Nat.le_refl _)
  exact ⟨v, v1, by omega, v3⟩
