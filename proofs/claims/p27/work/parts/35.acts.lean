/-! THE CLASS: what an act leaves stands for the reference's row behind the same act -/
def frm (G uG : GG) (b : Nat) : Prop := ∀ k, (k < b ∨ b + 25 ≤ k) → uG k = G k
theorem kn_of {y : Nat → Int32} {n : Nat} (h : y 5 = nI n) (hn : n < 2 ^ 31 := by omega) : kn y = n := by unfold kn; rw [h]; exact tn_nI hn
theorem mn_of {y : Nat → Int32} {n : Nat} (h : y 6 = nI n) (hn : n < 2 ^ 31 := by omega) : mn y = n := by unfold mn; rw [h]; exact tn_nI hn
theorem RepS_w {G : GG} {b : Nat} {r : Nat → Int32} (hS : RepS G b r) : ∀ d, d < kn r → ∃ w, 1 ≤ w ∧ w ≤ 9 ∧ r (6 * d + 13) = nI w := fun d hd => (hS.2.1 d hd).2.2.2.2.2
theorem Rep_cm {G uG : GG} {b : Nat} {r : Nat → Int32} (hR : Rep G b r) (hk : kn r ≠ 12) {x w : Int32} (hx : isN x 6) (hw : inN w 1 9) (f : ∀ c, c ≠ 1 → c ≠ 2 → c ≠ 3 → uG (b + c) = G (b + c)) (f1 : uG (b + 1) 0 = nI (kn r + 1)) (f2 : uG (b + 2) = upd (G (b + 2)) (kn r) x) (f3 : uG (b + 3) = upd (G (b + 3)) (kn r) w) : Rep uG b (cmR r x w) := by
  obtain ⟨hI, hS, hL, hP, hQ, hV, hBt⟩ := hR
  have hIy := cmR_RI hI x w
  obtain ⟨⟨w1, w2⟩, ⟨w3, w4⟩, ⟨w5, w6⟩, w7, w8⟩ := hI.1
  obtain ⟨y, hy⟩ : ∃ y, y = cmR r x w := ⟨_, rfl⟩
  rw [← hy] at hIy ⊢
  unfold cmR at hy
  rw [cif_t ⟨hx, hw, hk⟩] at hy
  have hn : ∀ k, k ≠ 5 → (k < 6 * kn r + 12 ∨ 6 * kn r + 18 ≤ k) → y k = r k := fun k a c => by
    rw [hy, upd_n a, upd_n (by omega), upd_n (by omega), upd_n (by omega), upd_n (by omega), upd_n (by omega), upd_n (by omega)]
  have y5 : y 5 = nI (kn r + 1) := by rw [hy, upd_s]
  have y12 : y (6 * kn r + 12) = x := by rw [hy, upd_n (by omega), upd_n (by omega), upd_n (by omega), upd_n (by omega), upd_n (by omega), upd_n (by omega), upd_s]
  have y13 : y (6 * kn r + 13) = w := by rw [hy, upd_n (by omega), upd_n (by omega), upd_n (by omega), upd_n (by omega), upd_n (by omega), upd_s]
  have y15 : y (6 * kn r + 15) = nI 0 := by rw [hy, upd_n (by omega), upd_n (by omega), upd_n (by omega), upd_s]
  have y16 : y (6 * kn r + 16) = nI 0 := by rw [hy, upd_n (by omega), upd_n (by omega), upd_s]
  have y17 : y (6 * kn r + 17) = nI 0 := by rw [hy, upd_n (by omega), upd_s]
  have e1 : kn y = kn r + 1 := kn_of y5
  have e2 : mn y = mn r := by unfold mn; rw [hn 6 (by omega) (by omega)]
  have e3 : on y = on r := by unfold on; rw [hn 11 (by omega) (by omega)]
  have es : ∀ q, q < mn r → supp y q = supp r q := fun q hq => by
    obtain ⟨v1, v2, -⟩ := w7 q hq
    have ep : pd y q = pd r q := by unfold pd; rw [hn _ (by omega) (by omega)]
    have e : supp y q = itr (fun d a => a + ((r (5 * q + 88) >>> (nI d &&& 31)) &&& nI 1) * y (6 * d + 13)) (y (6 * (pd r q) + 13)) (kn r) + ((r (5 * q + 88) >>> (nI (kn r) &&& 31)) &&& nI 1) * y (6 * kn r + 13) := by
      unfold supp
      rw [e1, ep, hn (5 * q + 88) (by omega) (by omega)]
      rfl
    rw [e, hBt q hq (kn r) (Nat.le_refl _) (by omega), Int32.zero_mul, Int32.add_zero]
    exact itr_congr (hn _ (by omega) (by omega)) (fun i hi a => by rw [hn (6 * i + 13) (by omega) (by omega)])
  have eL : ∀ k j, j ≤ 2 → y (3 * k + 192 + j) = r (3 * k + 192 + j) := fun k j hj => hn _ (by omega) (by omega)
  refine ⟨hIy, ⟨f1.trans y5.symm, fun d hd => ?_, fun d h1 h2 => ?_, ?_, ?_, ?_⟩, fun k hk => ?_, ⟨?_, fun q hq => ?_⟩, ⟨?_, fun k hk => ?_⟩, ⟨?_, ?_, ?_, ?_, ?_, ?_⟩, fun q hq d h1 h2 => ?_⟩
  · rw [e1] at hd
    rw [f2, f3, f 4 (by omega) (by omega) (by omega), f 5 (by omega) (by omega) (by omega), f 6 (by omega) (by omega) (by omega)]
    by_cases e : d = kn r
    · subst e
      obtain ⟨z1, z2, z3⟩ := hS.2.2.1 (kn r) (Nat.le_refl _) (by omega)
      rw [upd_s, upd_s, y12, y13, y15, y16, y17]
      obtain ⟨v, g1, g2, g3⟩ := hw
      exact ⟨rfl, rfl, z1, z2, z3, v, g1, g2, g3⟩
    · rw [upd_n e, upd_n e, hn _ (by omega) (by omega), hn _ (by omega) (by omega), hn _ (by omega) (by omega), hn _ (by omega) (by omega), hn _ (by omega) (by omega)]
      exact hS.2.1 d (by omega)
  · rw [f 4 (by omega) (by omega) (by omega), f 5 (by omega) (by omega) (by omega), f 6 (by omega) (by omega) (by omega)]
    exact hS.2.2.1 d (by omega) h2
  · rw [f 4 (by omega) (by omega) (by omega), hn 7 (by omega) (by omega)]; exact hS.2.2.2.1
  · rw [f 5 (by omega) (by omega) (by omega), hn 8 (by omega) (by omega)]; exact hS.2.2.2.2.1
  · rw [f 6 (by omega) (by omega) (by omega), hn 9 (by omega) (by omega)]; exact hS.2.2.2.2.2
  · rw [f 8 (by omega) (by omega) (by omega), f 9 (by omega) (by omega) (by omega), f 10 (by omega) (by omega) (by omega), hn (3 * k + 192) (by omega) (by omega), hn (3 * k + 193) (by omega) (by omega), hn (3 * k + 194) (by omega) (by omega)]
    exact hL k hk
  · rw [f 11 (by omega) (by omega) (by omega), hn 6 (by omega) (by omega)]; exact hP.1
  · rw [e2] at hq
    rw [f 12 (by omega) (by omega) (by omega), f 13 (by omega) (by omega) (by omega), f 14 (by omega) (by omega) (by omega), f 15 (by omega) (by omega) (by omega), f 16 (by omega) (by omega) (by omega), f 17 (by omega) (by omega) (by omega), es q hq, hn _ (by omega) (by omega), hn _ (by omega) (by omega), hn _ (by omega) (by omega), hn _ (by omega) (by omega), hn _ (by omega) (by omega)]
    exact hP.2 q hq
  · rw [f 18 (by omega) (by omega) (by omega), hn 11 (by omega) (by omega)]; exact hQ.1
  · rw [e3] at hk
    rw [f 19 (by omega) (by omega) (by omega), f 20 (by omega) (by omega) (by omega), f 21 (by omega) (by omega) (by omega), f 22 (by omega) (by omega) (by omega), hn _ (by omega) (by omega), hn _ (by omega) (by omega), hn _ (by omega) (by omega), hn _ (by omega) (by omega)]
    exact hQ.2 k hk
  · rw [f 23 (by omega) (by omega) (by omega), hn 0 (by omega) (by omega)]; exact hV.1
  · rw [f 23 (by omega) (by omega) (by omega), hn 1 (by omega) (by omega)]; exact hV.2.1
  · rw [show uG b = G b from f 0 (by omega) (by omega) (by omega), hn 2 (by omega) (by omega)]; exact hV.2.2.1
  · rw [show uG b = G b from f 0 (by omega) (by omega) (by omega), hn 3 (by omega) (by omega)]; exact hV.2.2.2.1
  · rw [show uG b = G b from f 0 (by omega) (by omega) (by omega), hn 4 (by omega) (by omega)]; exact hV.2.2.2.2.1
  · rw [show uG b = G b from f 0 (by omega) (by omega) (by omega), hn 10 (by omega) (by omega)]; exact hV.2.2.2.2.2
  · rw [e2] at hq
    rw [e1] at h1
    rw [hn (5 * q + 88) (by omega) (by omega)]
    exact hBt q hq d (by omega) h2
/-- nothing changes but one number of the row that neither sizes, petitions, weights nor laws hang on, and its cell -/
theorem Rep_mv {G uG : GG} {b : Nat} {r : Nat → Int32} (hR : Rep G b r) {D : Nat} {x : Int32} (hD : D < kn r) (hx : isN x 6) (f : ∀ c, c ≠ 2 → uG (b + c) = G (b + c)) (f2 : uG (b + 2) = upd (G (b + 2)) D x) : Rep uG b (mvR r (nI D) x) := by
  obtain ⟨hI, hS, hL, hP, hQ, hV, hBt⟩ := hR
  have hIy := mvR_RI hI (nI D) x
  obtain ⟨⟨w1, w2⟩, ⟨w3, w4⟩, ⟨w5, w6⟩, w7, w8⟩ := hI.1
  obtain ⟨y, hy⟩ : ∃ y, y = mvR r (nI D) x := ⟨_, rfl⟩
  rw [← hy] at hIy ⊢
  unfold mvR at hy
  rw [cif_t ⟨⟨D, hD, rfl⟩, hx⟩, tn_nI (by omega)] at hy
  have hn : ∀ k, k ≠ 6 * D + 12 → y k = r k := fun k a => by rw [hy, upd_n a]
  have ys : y (6 * D + 12) = x := by rw [hy, upd_s]
  have e1 : kn y = kn r := by unfold kn; rw [hn 5 (by omega)]
  have e2 : mn y = mn r := by unfold mn; rw [hn 6 (by omega)]
  have e3 : on y = on r := by unfold on; rw [hn 11 (by omega)]
  have es : ∀ q, q < mn r → supp y q = supp r q := fun q hq => supp_congr (hn 5 (by omega)) w2 (by have := (w7 q hq).2.1; omega) (hn _ (by omega)) (hn _ (by omega)) (fun d hd => hn _ (by omega))
  refine ⟨hIy, ⟨?_, fun d hd => ?_, fun d h1 h2 => ?_, ?_, ?_, ?_⟩, fun k hk => ?_, ⟨?_, fun q hq => ?_⟩, ⟨?_, fun k hk => ?_⟩, ⟨?_, ?_, ?_, ?_, ?_, ?_⟩, fun q hq d h1 h2 => ?_⟩
  · rw [f 1 (by omega), hn 5 (by omega)]; exact hS.1
  · rw [e1] at hd
    rw [f2, f 3 (by omega), f 4 (by omega), f 5 (by omega), f 6 (by omega), hn (6 * d + 13) (by omega), hn (6 * d + 15) (by omega), hn (6 * d + 16) (by omega), hn (6 * d + 17) (by omega)]
    have := hS.2.1 d hd
    by_cases e : d = D
    · subst e
      rw [upd_s, ys]
      exact ⟨rfl, this.2⟩
    · rw [upd_n e, hn _ (by omega)]
      exact this
  · rw [e1] at h1
    rw [f 4 (by omega), f 5 (by omega), f 6 (by omega)]
    exact hS.2.2.1 d h1 h2
  · rw [f 4 (by omega), hn 7 (by omega)]; exact hS.2.2.2.1
  · rw [f 5 (by omega), hn 8 (by omega)]; exact hS.2.2.2.2.1
  · rw [f 6 (by omega), hn 9 (by omega)]; exact hS.2.2.2.2.2
  · rw [f 8 (by omega), f 9 (by omega), f 10 (by omega), hn (3 * k + 192) (by omega), hn (3 * k + 193) (by omega), hn (3 * k + 194) (by omega)]
    exact hL k hk
  · rw [f 11 (by omega), hn 6 (by omega)]; exact hP.1
  · rw [e2] at hq
    rw [f 12 (by omega), f 13 (by omega), f 14 (by omega), f 15 (by omega), f 16 (by omega), f 17 (by omega), es q hq, hn _ (by omega), hn _ (by omega), hn _ (by omega), hn _ (by omega), hn _ (by omega)]
    exact hP.2 q hq
  · rw [f 18 (by omega), hn 11 (by omega)]; exact hQ.1
  · rw [e3] at hk
    rw [f 19 (by omega), f 20 (by omega), f 21 (by omega), f 22 (by omega), hn _ (by omega), hn _ (by omega), hn _ (by omega), hn _ (by omega)]
    exact hQ.2 k hk
  · rw [f 23 (by omega), hn 0 (by omega)]; exact hV.1
  · rw [f 23 (by omega), hn 1 (by omega)]; exact hV.2.1
  · rw [show uG b = G b from f 0 (by omega), hn 2 (by omega)]; exact hV.2.2.1
  · rw [show uG b = G b from f 0 (by omega), hn 3 (by omega)]; exact hV.2.2.2.1
  · rw [show uG b = G b from f 0 (by omega), hn 4 (by omega)]; exact hV.2.2.2.2.1
  · rw [show uG b = G b from f 0 (by omega), hn 10 (by omega)]; exact hV.2.2.2.2.2
  · rw [e2] at hq
    rw [e1] at h1
    rw [hn (5 * q + 88) (by omega)]
    exact hBt q hq d h1 h2
theorem Rep_st {G uG : GG} {b : Nat} {r : Nat → Int32} (hR : Rep G b r) {j : Nat} {v : Int32} (hj : j ≤ 1) (hv : inN v j 60) (f : ∀ c, c ≠ 23 → uG (b + c) = G (b + c)) (f2 : uG (b + 23) = upd (G (b + 23)) j v) : Rep uG b (stR r (nI j) v) := by
  obtain ⟨hI, hS, hL, hP, hQ, hV, hBt⟩ := hR
  have hIy := stR_RI hI (nI j) v
  obtain ⟨⟨w1, w2⟩, ⟨w3, w4⟩, ⟨w5, w6⟩, w7, w8⟩ := hI.1
  obtain ⟨y, hy⟩ : ∃ y, y = stR r (nI j) v := ⟨_, rfl⟩
  rw [← hy] at hIy ⊢
  unfold stR at hy
  rw [tn_nI (by omega), cif_t ⟨⟨j, by omega, hj, rfl⟩, hv⟩] at hy
  have hn : ∀ k, 2 ≤ k → y k = r k := fun k a => by rw [hy, upd_n (by omega)]
  have e1 : kn y = kn r := by unfold kn; rw [hn 5 (by omega)]
  have e2 : mn y = mn r := by unfold mn; rw [hn 6 (by omega)]
  have e3 : on y = on r := by unfold on; rw [hn 11 (by omega)]
  have es : ∀ q, q < mn r → supp y q = supp r q := fun q hq => supp_congr (hn 5 (by omega)) w2 (by have := (w7 q hq).2.1; omega) (hn _ (by omega)) (hn _ (by omega)) (fun d hd => hn _ (by omega))
  have eS : ∀ i, G (b + 23) i = r i → uG (b + 23) i = y i := fun i hi => by
    rw [f2, hy]
    by_cases e : i = j
    · rw [e, upd_s, upd_s]
    · rw [upd_n e, upd_n e, hi]
  refine ⟨hIy, ⟨?_, fun d hd => ?_, fun d h1 h2 => ?_, ?_, ?_, ?_⟩, fun k hk => ?_, ⟨?_, fun q hq => ?_⟩, ⟨?_, fun k hk => ?_⟩, ⟨eS 0 hV.1, eS 1 hV.2.1, ?_, ?_, ?_, ?_⟩, fun q hq d h1 h2 => ?_⟩
  · rw [f 1 (by omega), hn 5 (by omega)]; exact hS.1
  · rw [e1] at hd
    rw [f 2 (by omega), f 3 (by omega), f 4 (by omega), f 5 (by omega), f 6 (by omega), hn _ (by omega), hn _ (by omega), hn _ (by omega), hn _ (by omega), hn _ (by omega)]
    exact hS.2.1 d hd
  · rw [e1] at h1
    rw [f 4 (by omega), f 5 (by omega), f 6 (by omega)]
    exact hS.2.2.1 d h1 h2
  · rw [f 4 (by omega), hn 7 (by omega)]; exact hS.2.2.2.1
  · rw [f 5 (by omega), hn 8 (by omega)]; exact hS.2.2.2.2.1
  · rw [f 6 (by omega), hn 9 (by omega)]; exact hS.2.2.2.2.2
  · rw [f 8 (by omega), f 9 (by omega), f 10 (by omega), hn (3 * k + 192) (by omega), hn (3 * k + 193) (by omega), hn (3 * k + 194) (by omega)]
    exact hL k hk
  · rw [f 11 (by omega), hn 6 (by omega)]; exact hP.1
  · rw [e2] at hq
    rw [f 12 (by omega), f 13 (by omega), f 14 (by omega), f 15 (by omega), f 16 (by omega), f 17 (by omega), es q hq, hn _ (by omega), hn _ (by omega), hn _ (by omega), hn _ (by omega), hn _ (by omega)]
    exact hP.2 q hq
  · rw [f 18 (by omega), hn 11 (by omega)]; exact hQ.1
  · rw [e3] at hk
    rw [f 19 (by omega), f 20 (by omega), f 21 (by omega), f 22 (by omega), hn _ (by omega), hn _ (by omega), hn _ (by omega), hn _ (by omega)]
    exact hQ.2 k hk
  · rw [show uG b = G b from f 0 (by omega), hn 2 (by omega)]; exact hV.2.2.1
  · rw [show uG b = G b from f 0 (by omega), hn 3 (by omega)]; exact hV.2.2.2.1
  · rw [show uG b = G b from f 0 (by omega), hn 4 (by omega)]; exact hV.2.2.2.2.1
  · rw [show uG b = G b from f 0 (by omega), hn 10 (by omega)]; exact hV.2.2.2.2.2
  · rw [e2] at hq
    rw [e1] at h1
    rw [hn (5 * q + 88) (by omega)]
    exact hBt q hq d h1 h2
