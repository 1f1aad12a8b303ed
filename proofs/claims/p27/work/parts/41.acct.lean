/-! Rep behind one petition's account -/
theorem Rep_ap {G uG : GG} {b : Nat} {r : Nat → Int32} (hR : Rep G b r) {D : Nat} (hD : D < kn r) (f : ∀ c, c ≠ 5 → uG (b + c) = G (b + c)) (f5 : uG (b + 5) = upd (G (b + 5)) D (G (b + 5) D + nI 1)) : Rep uG b (upd (upd r (6 * D + 16) (r (6 * D + 16) + nI 1)) 8 (r 8 + nI 1)) := by
  obtain ⟨hI, hS, hL, hP, hQ, hV, hBt⟩ := hR
  obtain ⟨⟨w1, w2⟩, ⟨w3, w4⟩, ⟨w5, w6⟩, w7, w8⟩ := hI.1
  obtain ⟨y, hy⟩ : ∃ y, y = upd (upd r (6 * D + 16) (r (6 * D + 16) + nI 1)) 8 (r 8 + nI 1) := ⟨_, rfl⟩
  rw [← hy]
  have hn : ∀ k, k ≠ 6 * D + 16 → k ≠ 8 → y k = r k := fun k a c => by rw [hy, upd_n c, upd_n a]
  have ys : y (6 * D + 16) = r (6 * D + 16) + nI 1 := by rw [hy, upd_n (by omega), upd_s]
  have y8 : y 8 = r 8 + nI 1 := by rw [hy, upd_s]
  have hIy : RI y := RI_of hI (hn 5 (by omega) (by omega)) (hn 6 (by omega) (by omega)) (hn 11 (by omega) (by omega)) (fun k a c _ => hn k (by omega) (by omega)) (fun d hd => hn _ (by omega) (by omega)) (fun d hd => hn _ (by omega) (by omega))
  have e1 : kn y = kn r := by unfold kn; rw [hn 5 (by omega) (by omega)]
  have e2 : mn y = mn r := by unfold mn; rw [hn 6 (by omega) (by omega)]
  have e3 : on y = on r := by unfold on; rw [hn 11 (by omega) (by omega)]
  have es : ∀ q, q < mn r → supp y q = supp r q := fun q hq => supp_congr (hn 5 (by omega) (by omega)) w2 (by have := (w7 q hq).2.1; omega) (hn _ (by omega) (by omega)) (hn _ (by omega) (by omega)) (fun d hd => hn _ (by omega) (by omega))
  refine ⟨hIy, ⟨?_, fun d hd => ?_, fun d h1 h2 => ?_, ?_, ?_, ?_⟩, fun k hk => ?_, ⟨?_, fun q hq => ?_⟩, ⟨?_, fun k hk => ?_⟩, ⟨?_, ?_, ?_, ?_, ?_, ?_⟩, fun q hq d h1 h2 => ?_⟩
  · rw [f 1 (by omega), hn 5 (by omega) (by omega)]; exact hS.1
  · rw [e1] at hd
    rw [f 2 (by omega), f 3 (by omega), f 4 (by omega), f5, f 6 (by omega), hn (6 * d + 12) (by omega) (by omega), hn (6 * d + 13) (by omega) (by omega), hn (6 * d + 15) (by omega) (by omega), hn (6 * d + 17) (by omega) (by omega)]
    have := hS.2.1 d hd
    by_cases e : d = D
    · subst e
      rw [upd_s, ys, this.2.2.2.1]
      exact ⟨this.1, this.2.1, this.2.2.1, rfl, this.2.2.2.2⟩
    · rw [upd_n e, hn (6 * d + 16) (by omega) (by omega)]
      exact this
  · rw [e1] at h1
    rw [f 4 (by omega), f5, upd_n (by omega), f 6 (by omega)]
    exact hS.2.2.1 d h1 h2
  · rw [f 4 (by omega), hn 7 (by omega) (by omega)]; exact hS.2.2.2.1
  · rw [f5, sumN_upd (by omega), hS.2.2.2.2.1, y8]
  · rw [f 6 (by omega), hn 9 (by omega) (by omega)]; exact hS.2.2.2.2.2
  · rw [f 8 (by omega), f 9 (by omega), f 10 (by omega), hn (3 * k + 192) (by omega) (by omega), hn (3 * k + 193) (by omega) (by omega), hn (3 * k + 194) (by omega) (by omega)]
    exact hL k hk
  · rw [f 11 (by omega), hn 6 (by omega) (by omega)]; exact hP.1
  · rw [e2] at hq
    rw [f 12 (by omega), f 13 (by omega), f 14 (by omega), f 15 (by omega), f 16 (by omega), f 17 (by omega), es q hq, hn _ (by omega) (by omega), hn _ (by omega) (by omega), hn _ (by omega) (by omega), hn _ (by omega) (by omega), hn _ (by omega) (by omega)]
    exact hP.2 q hq
  · rw [f 18 (by omega), hn 11 (by omega) (by omega)]; exact hQ.1
  · rw [e3] at hk
    rw [f 19 (by omega), f 20 (by omega), f 21 (by omega), f 22 (by omega), hn _ (by omega) (by omega), hn _ (by omega) (by omega), hn _ (by omega) (by omega), hn _ (by omega) (by omega)]
    exact hQ.2 k hk
  · rw [f 23 (by omega), hn 0 (by omega) (by omega)]; exact hV.1
  · rw [f 23 (by omega), hn 1 (by omega) (by omega)]; exact hV.2.1
  · rw [show uG b = G b from f 0 (by omega), hn 2 (by omega) (by omega)]; exact hV.2.2.1
  · rw [show uG b = G b from f 0 (by omega), hn 3 (by omega) (by omega)]; exact hV.2.2.2.1
  · rw [show uG b = G b from f 0 (by omega), hn 4 (by omega) (by omega)]; exact hV.2.2.2.2.1
  · rw [show uG b = G b from f 0 (by omega), hn 10 (by omega) (by omega)]; exact hV.2.2.2.2.2
  · rw [e2] at hq
    rw [e1] at h1
    rw [hn (5 * q + 88) (by omega) (by omega)]
    exact hBt q hq d h1 h2
/-- a refused petition's account -/
def ref1R (r : Nat → Int32) (D q : Nat) : Nat → Int32 := upd (upd (upd (upd (upd (upd (upd r (6 * D + 17) (r (6 * D + 17) + nI 1)) (4 * (on r) + 144) (nI (pc r q))) (4 * (on r) + 145) (nI (pg r q))) (4 * (on r) + 146) (nI (pk r q))) (4 * (on r) + 147) (supp r q)) 11 (nI (on r + 1))) 9 (r 9 + nI 1)
theorem Rep_af {G uG : GG} {b : Nat} {r : Nat → Int32} (hR : Rep G b r) {D q : Nat} (hD : D < kn r) (hq : q < mn r) (ho : on r < 12) (f : ∀ c, c ≠ 6 → ¬ (18 ≤ c ∧ c ≤ 22) → uG (b + c) = G (b + c)) (f6 : uG (b + 6) = upd (G (b + 6)) D (G (b + 6) D + nI 1)) (f18 : uG (b + 18) 0 = nI (on r + 1)) (f19 : uG (b + 19) = upd (G (b + 19)) (on r) (nI (pc r q))) (f20 : uG (b + 20) = upd (G (b + 20)) (on r) (nI (pg r q))) (f21 : uG (b + 21) = upd (G (b + 21)) (on r) (nI (pk r q))) (f22 : uG (b + 22) = upd (G (b + 22)) (on r) (supp r q)) : Rep uG b (ref1R r D q) := by
  obtain ⟨hI, hS, hL, hP, hQ, hV, hBt⟩ := hR
  obtain ⟨⟨w1, w2⟩, ⟨w3, w4⟩, ⟨w5, w6⟩, w7, w8⟩ := hI.1
  obtain ⟨y, hy⟩ : ∃ y, y = ref1R r D q := ⟨_, rfl⟩
  rw [← hy]
  unfold ref1R at hy
  have hn : ∀ k, k ≠ 6 * D + 17 → k ≠ 9 → k ≠ 11 → (k < 4 * on r + 144 ∨ 4 * on r + 148 ≤ k) → y k = r k := fun k a1 a2 a3 a4 => by rw [hy, upd_n a2, upd_n a3, upd_n (by omega), upd_n (by omega), upd_n (by omega), upd_n (by omega), upd_n a1]
  have ys : y (6 * D + 17) = r (6 * D + 17) + nI 1 := by rw [hy, upd_n (by omega), upd_n (by omega), upd_n (by omega), upd_n (by omega), upd_n (by omega), upd_n (by omega), upd_s]
  have y9 : y 9 = r 9 + nI 1 := by rw [hy, upd_s]
  have y11 : y 11 = nI (on r + 1) := by rw [hy, upd_n (by omega), upd_s]
  have z3 : y (4 * on r + 147) = supp r q := by rw [hy, upd_n (by omega), upd_n (by omega), upd_s]
  have z2 : y (4 * on r + 146) = nI (pk r q) := by rw [hy, upd_n (by omega), upd_n (by omega), upd_n (by omega), upd_s]
  have z1 : y (4 * on r + 145) = nI (pg r q) := by rw [hy, upd_n (by omega), upd_n (by omega), upd_n (by omega), upd_n (by omega), upd_s]
  have z0 : y (4 * on r + 144) = nI (pc r q) := by rw [hy, upd_n (by omega), upd_n (by omega), upd_n (by omega), upd_n (by omega), upd_n (by omega), upd_s]
  have e1 : kn y = kn r := by unfold kn; rw [hn 5 (by omega) (by omega) (by omega) (by omega)]
  have e2 : mn y = mn r := by unfold mn; rw [hn 6 (by omega) (by omega) (by omega) (by omega)]
  have e3 : on y = on r + 1 := by unfold on at y11 ⊢; rw [y11]; exact tn_nI (by unfold on at ho; omega)
  have es : ∀ t, t < mn r → supp y t = supp r t := fun t ht => supp_congr (hn 5 (by omega) (by omega) (by omega) (by omega)) w2 (by have := (w7 t ht).2.1; omega) (hn _ (by omega) (by omega) (by omega) (by omega)) (hn _ (by omega) (by omega) (by omega) (by omega)) (fun d hd => hn _ (by omega) (by omega) (by omega) (by omega))
  have ed : ∀ t, t < mn r → pd y t = pd r t := fun t ht => by unfold pd; rw [hn _ (by omega) (by omega) (by omega) (by omega)]
  have hIy : RI y := by
    refine ⟨WR_of hI.1 (hn 5 (by omega) (by omega) (by omega) (by omega)) (hn 6 (by omega) (by omega) (by omega) (by omega)) ⟨on r + 1, by omega, y11⟩ (fun k a c => hn k (by omega) (by omega) (by omega) (by omega)) (fun d hd => hn _ (by omega) (by omega) (by omega) (by omega)), fun t ht => ?_, fun d hd => ?_, ?_⟩
    · rw [e2] at ht
      have := (w7 t ht).2.1
      rw [ed t ht, hn _ (by omega) (by omega) (by omega) (by omega)]
      exact hI.2.1 t ht
    · rw [e1] at hd
      rw [hn _ (by omega) (by omega) (by omega) (by omega), e2]
      rcases hI.2.2.1 d hd with a | ⟨t, a1, a2, a3⟩
      · exact Or.inl a
      · exact Or.inr ⟨t, a1, a2, by rw [ed t a1]; exact a3⟩
    · rw [e1, e2, ← hI.2.2.2]
      exact cnt_congr (fun d hd => by rw [hn _ (by omega) (by omega) (by omega) (by omega)])
  refine ⟨hIy, ⟨?_, fun d hd => ?_, fun d h1 h2 => ?_, ?_, ?_, ?_⟩, fun k hk => ?_, ⟨?_, fun t ht => ?_⟩, ⟨f18.trans y11.symm, fun k hk => ?_⟩, ⟨?_, ?_, ?_, ?_, ?_, ?_⟩, fun t ht d h1 h2 => ?_⟩
  · rw [f 1 (by omega) (by omega), hn 5 (by omega) (by omega) (by omega) (by omega)]; exact hS.1
  · rw [e1] at hd
    rw [f 2 (by omega) (by omega), f 3 (by omega) (by omega), f 4 (by omega) (by omega), f 5 (by omega) (by omega), f6, hn (6 * d + 12) (by omega) (by omega) (by omega) (by omega), hn (6 * d + 13) (by omega) (by omega) (by omega) (by omega), hn (6 * d + 15) (by omega) (by omega) (by omega) (by omega), hn (6 * d + 16) (by omega) (by omega) (by omega) (by omega)]
    have := hS.2.1 d hd
    by_cases e : d = D
    · subst e
      rw [upd_s, ys, this.2.2.2.2.1]
      exact ⟨this.1, this.2.1, this.2.2.1, this.2.2.2.1, rfl, this.2.2.2.2.2⟩
    · rw [upd_n e, hn (6 * d + 17) (by omega) (by omega) (by omega) (by omega)]
      exact this
  · rw [e1] at h1
    rw [f 4 (by omega) (by omega), f 5 (by omega) (by omega), f6, upd_n (by omega)]
    exact hS.2.2.1 d h1 h2
  · rw [f 4 (by omega) (by omega), hn 7 (by omega) (by omega) (by omega) (by omega)]; exact hS.2.2.2.1
  · rw [f 5 (by omega) (by omega), hn 8 (by omega) (by omega) (by omega) (by omega)]; exact hS.2.2.2.2.1
  · rw [f6, sumN_upd (by omega), hS.2.2.2.2.2, y9]
  · rw [f 8 (by omega) (by omega), f 9 (by omega) (by omega), f 10 (by omega) (by omega), hn (3 * k + 192) (by omega) (by omega) (by omega) (by omega), hn (3 * k + 193) (by omega) (by omega) (by omega) (by omega), hn (3 * k + 194) (by omega) (by omega) (by omega) (by omega)]
    exact hL k hk
  · rw [f 11 (by omega) (by omega), hn 6 (by omega) (by omega) (by omega) (by omega)]; exact hP.1
  · rw [e2] at ht
    rw [f 12 (by omega) (by omega), f 13 (by omega) (by omega), f 14 (by omega) (by omega), f 15 (by omega) (by omega), f 16 (by omega) (by omega), f 17 (by omega) (by omega), es t ht, hn (5 * t + 84) (by omega) (by omega) (by omega) (by omega), hn (5 * t + 85) (by omega) (by omega) (by omega) (by omega), hn (5 * t + 86) (by omega) (by omega) (by omega) (by omega), hn (5 * t + 87) (by omega) (by omega) (by omega) (by omega), hn (5 * t + 88) (by omega) (by omega) (by omega) (by omega)]
    exact hP.2 t ht
  · rw [e3] at hk
    rw [f19, f20, f21, f22]
    by_cases e : k = on r
    · subst e
      rw [upd_s, upd_s, upd_s, upd_s, z0, z1, z2, z3]
      exact ⟨rfl, rfl, rfl, rfl, (hP.2 q hq).2.2.2.2.2.2⟩
    · rw [upd_n e, upd_n e, upd_n e, upd_n e, hn (4 * k + 144) (by omega) (by omega) (by omega) (by omega), hn (4 * k + 145) (by omega) (by omega) (by omega) (by omega), hn (4 * k + 146) (by omega) (by omega) (by omega) (by omega), hn (4 * k + 147) (by omega) (by omega) (by omega) (by omega)]
      exact hQ.2 k (by omega)
  · rw [f 23 (by omega) (by omega), hn 0 (by omega) (by omega) (by omega) (by omega)]; exact hV.1
  · rw [f 23 (by omega) (by omega), hn 1 (by omega) (by omega) (by omega) (by omega)]; exact hV.2.1
  · rw [show uG b = G b from f 0 (by omega) (by omega), hn 2 (by omega) (by omega) (by omega) (by omega)]; exact hV.2.2.1
  · rw [show uG b = G b from f 0 (by omega) (by omega), hn 3 (by omega) (by omega) (by omega) (by omega)]; exact hV.2.2.2.1
  · rw [show uG b = G b from f 0 (by omega) (by omega), hn 4 (by omega) (by omega) (by omega) (by omega)]; exact hV.2.2.2.2.1
  · rw [show uG b = G b from f 0 (by omega) (by omega), hn 10 (by omega) (by omega) (by omega) (by omega)]; exact hV.2.2.2.2.2
  · rw [e2] at ht
    rw [e1] at h1
    rw [hn (5 * t + 88) (by omega) (by omega) (by omega) (by omega)]
    exact hBt t ht d h1 h2
