/-! THE CLASS'S STATE at the cells b .. b+24 stands for the reference's row r -/
noncomputable def sumN (f : Nat → Int32) (n : Nat) : Int32 := itr (fun j a => a + f j) (nI 0) n
def rel (c j : Nat) : Prop := (c = 0 ∧ 5 ≤ j ∧ j ≤ 8) ∨ ((c = 1 ∨ c = 11 ∨ c = 18) ∧ j = 0) ∨ (2 ≤ c ∧ c ≤ 6 ∧ j < 12) ∨ (8 ≤ c ∧ c ≤ 10 ∧ j < 140) ∨ (12 ≤ c ∧ c ≤ 17 ∧ j < 12) ∨ (19 ≤ c ∧ c ≤ 22 ∧ j < 12) ∨ (c = 23 ∧ j < 2)
def RepS (G : GG) (b : Nat) (r : Nat → Int32) : Prop :=
  G (b + 1) 0 = r 5 ∧
  (∀ d, d < kn r → G (b + 2) d = r (6 * d + 12) ∧ G (b + 3) d = r (6 * d + 13) ∧ G (b + 4) d = r (6 * d + 15) ∧ G (b + 5) d = r (6 * d + 16) ∧ G (b + 6) d = r (6 * d + 17) ∧ ∃ w, 1 ≤ w ∧ w ≤ 9 ∧ r (6 * d + 13) = nI w) ∧
  (∀ d, kn r ≤ d → d < 12 → G (b + 4) d = nI 0 ∧ G (b + 5) d = nI 0 ∧ G (b + 6) d = nI 0) ∧
  sumN (G (b + 4)) 12 = r 7 ∧ sumN (G (b + 5)) 12 = r 8 ∧ sumN (G (b + 6)) 12 = r 9
def RepL (G : GG) (b : Nat) (r : Nat → Int32) : Prop :=
  ∀ k, k < 140 → (r (3 * k + 192) = (-5) ∧ G (b + 9) k = nI 0) ∨ (r (3 * k + 192) ≠ (-5) ∧ G (b + 8) k = r (3 * k + 192) ∧ (r (3 * k + 192) = nI 0 ∨ r (3 * k + 192) = nI 1) ∧ G (b + 9) k = r (3 * k + 193) ∧ 0 < r (3 * k + 193) ∧ G (b + 10) k = r (3 * k + 194))
def RepP (G : GG) (b : Nat) (r : Nat → Int32) : Prop :=
  G (b + 11) 0 = r 6 ∧ ∀ q, q < mn r → G (b + 12) q = r (5 * q + 84) ∧ G (b + 13) q = r (5 * q + 85) ∧ G (b + 14) q = r (5 * q + 86) ∧ G (b + 15) q = r (5 * q + 87) ∧ G (b + 16) q = supp r q ∧ G (b + 17) q = r (5 * q + 88) ∧ 0 < supp r q
def RepR (G : GG) (b : Nat) (r : Nat → Int32) : Prop :=
  G (b + 18) 0 = r 11 ∧ ∀ k, k < on r → G (b + 19) k = r (4 * k + 144) ∧ G (b + 20) k = r (4 * k + 145) ∧ G (b + 21) k = r (4 * k + 146) ∧ G (b + 22) k = r (4 * k + 147) ∧ 0 < r (4 * k + 147)
def RepI (G : GG) (b : Nat) (r : Nat → Int32) : Prop :=
  G (b + 23) 0 = r 0 ∧ G (b + 23) 1 = r 1 ∧ G b 5 = r 2 ∧ G b 6 = r 3 ∧ G b 7 = r 4 ∧ G b 8 = r 10
def RepB (r : Nat → Int32) : Prop := ∀ q, q < mn r → ∀ d, kn r ≤ d → d < 12 → (r (5 * q + 88) >>> (nI d &&& 31)) &&& nI 1 = 0
def Rep (G : GG) (b : Nat) (r : Nat → Int32) : Prop := RI r ∧ RepS G b r ∧ RepL G b r ∧ RepP G b r ∧ RepR G b r ∧ RepI G b r ∧ RepB r
theorem sumN_congr {f g : Nat → Int32} {n : Nat} (h : ∀ j, j < n → f j = g j) : sumN f n = sumN g n := itr_congr rfl (fun i hi a => by rw [h i hi])
/-- only the cells' own numbers count -/
theorem Rep_cells {G G' : GG} {b b' : Nat} {r : Nat → Int32} (h : ∀ c j, rel c j → G' (b' + c) j = G (b + c) j) (hR : Rep G b r) : Rep G' b' r := by
  obtain ⟨hI, ⟨s1, s2, s3, s4, s5, s6⟩, hL, ⟨p1, p2⟩, ⟨q1, q2⟩, ⟨i1, i2, i3, i4, i5, i6⟩, hBt⟩ := hR
  have hk := hI.1.1.2
  have hm := hI.1.2.1.2
  have ho := hI.1.2.2.1.2
  have a : ∀ c j, rel c j → G' (b' + c) j = G (b + c) j := h
  refine ⟨hI, ⟨?_, fun d hd => ?_, fun d h1 h2 => ?_, ?_, ?_, ?_⟩, fun k hk => ?_, ⟨?_, fun q hq => ?_⟩, ⟨?_, fun k hk => ?_⟩, ⟨?_, ?_, ?_, ?_, ?_, ?_⟩, hBt⟩
  · rw [a 1 0 (by unfold rel; omega)]; exact s1
  · rw [a 2 d (by unfold rel; omega), a 3 d (by unfold rel; omega), a 4 d (by unfold rel; omega), a 5 d (by unfold rel; omega), a 6 d (by unfold rel; omega)]; exact s2 d hd
  · rw [a 4 d (by unfold rel; omega), a 5 d (by unfold rel; omega), a 6 d (by unfold rel; omega)]; exact s3 d h1 h2
  · rw [← s4]; exact sumN_congr (fun j hj => a 4 j (by unfold rel; omega))
  · rw [← s5]; exact sumN_congr (fun j hj => a 5 j (by unfold rel; omega))
  · rw [← s6]; exact sumN_congr (fun j hj => a 6 j (by unfold rel; omega))
  · rw [a 8 k (by unfold rel; omega), a 9 k (by unfold rel; omega), a 10 k (by unfold rel; omega)]; exact hL k hk
  · rw [a 11 0 (by unfold rel; omega)]; exact p1
  · rw [a 12 q (by unfold rel; omega), a 13 q (by unfold rel; omega), a 14 q (by unfold rel; omega), a 15 q (by unfold rel; omega), a 16 q (by unfold rel; omega), a 17 q (by unfold rel; omega)]; exact p2 q hq
  · rw [a 18 0 (by unfold rel; omega)]; exact q1
  · rw [a 19 k (by unfold rel; omega), a 20 k (by unfold rel; omega), a 21 k (by unfold rel; omega), a 22 k (by unfold rel; omega)]; exact q2 k hk
  · rw [a 23 0 (by unfold rel; omega)]; exact i1
  · rw [a 23 1 (by unfold rel; omega)]; exact i2
  · have := a 0 5 (by unfold rel; omega); rw [Nat.add_zero, Nat.add_zero] at this; rw [this]; exact i3
  · have := a 0 6 (by unfold rel; omega); rw [Nat.add_zero, Nat.add_zero] at this; rw [this]; exact i4
  · have := a 0 7 (by unfold rel; omega); rw [Nat.add_zero, Nat.add_zero] at this; rw [this]; exact i5
  · have := a 0 8 (by unfold rel; omega); rw [Nat.add_zero, Nat.add_zero] at this; rw [this]; exact i6
theorem rel_lt {c j : Nat} (h : rel c j) : c < 24 := by unfold rel at h; omega
theorem Rep_frame {G G' : GG} {b : Nat} {r : Nat → Int32} (h : ∀ k, b ≤ k → k < b + 24 → G' k = G k) (hR : Rep G b r) : Rep G' b r :=
  Rep_cells (fun c j hc => by rw [h _ (by omega) (by have := rel_lt hc; omega)]) hR
theorem IsB.dis {b c : Nat} (h : IsB b) (g : IsB c) (hn : b ≠ c) : b + 25 ≤ c ∨ c + 25 ≤ b := by unfold IsB at *; omega
/-- a row that agrees -/
theorem Rep_req {G : GG} {b : Nat} {r y : Nat → Int32} (h : REq r y) (hR : Rep G b r) : Rep G b y := by
  obtain ⟨hI, ⟨s1, s2, s3, s4, s5, s6⟩, hL, ⟨p1, p2⟩, ⟨q1, q2⟩, ⟨i1, i2, i3, i4, i5, i6⟩, hBt⟩ := hR
  have hk := hI.1.1.2
  have hm := hI.1.2.1.2
  have ho := hI.1.2.2.1.2
  refine ⟨req_RI h hI, ⟨by rw [h 5 (by omega)]; exact s1, fun d hd => ?_, fun d h1 h2 => ?_, by rw [h 7 (by omega)]; exact s4, by rw [h 8 (by omega)]; exact s5, by rw [h 9 (by omega)]; exact s6⟩, fun k hk => ?_, ⟨by rw [h 6 (by omega)]; exact p1, fun q hq => ?_⟩, ⟨by rw [h 11 (by omega)]; exact q1, fun k hk => ?_⟩, ⟨by rw [h 0 (by omega)]; exact i1, by rw [h 1 (by omega)]; exact i2, by rw [h 2 (by omega)]; exact i3, by rw [h 3 (by omega)]; exact i4, by rw [h 4 (by omega)]; exact i5, by rw [h 10 (by omega)]; exact i6⟩, fun q hq d h1 h2 => ?_⟩
  · rw [req_kn h] at hd
    rw [h _ (by omega), h _ (by omega), h _ (by omega), h _ (by omega), h _ (by omega)]; exact s2 d hd
  · rw [req_kn h] at h1
    exact s3 d h1 h2
  · rw [h _ (by omega), h _ (by omega), h _ (by omega)]; exact hL k hk
  · rw [req_mn h] at hq
    rw [h _ (by omega), h _ (by omega), h _ (by omega), h _ (by omega), h _ (by omega), req_supp h hI.1 hq]; exact p2 q hq
  · rw [req_on h] at hk
    rw [h _ (by omega), h _ (by omega), h _ (by omega), h _ (by omega)]; exact q2 k hk
  · rw [req_mn h] at hq
    rw [req_kn h] at h1
    rw [h _ (by omega)]
    exact hBt q hq d h1 h2
theorem RepL_0 {G : GG} {b : Nat} {r : Nat → Int32} (h : RepL G b r) {k : Nat} (hk : k < 140) : 0 < G (b + 9) k ↔ LW r k := by
  rcases h k hk with ⟨a, c⟩ | ⟨a, c, d, e, f, g⟩
  · rw [c]
    exact iff_of_false (by decide) (fun q => q a)
  · rw [e]
    exact iff_of_true f a
theorem RepL_z {G : GG} {b : Nat} {r : Nat → Int32} (h : RepL G b r) {k : Nat} (hk : k < 140) : G (b + 9) k = 0 ↔ r (3 * k + 192) = (-5) := by
  rcases h k hk with ⟨a, c⟩ | ⟨a, c, d, e, f, g⟩
  · exact iff_of_true c a
  · refine iff_of_false (fun q => ?_) a
    rw [← e, q] at f
    exact absurd f (by decide)
