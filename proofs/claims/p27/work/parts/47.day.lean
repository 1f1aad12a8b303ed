/-! a day ends -/
theorem dayE_RI {r : Nat → Int32} (h : RI r) : RI (dayE r) := by
  unfold dayE
  exact RI_of h (by rw [upd_n (by omega), upd_n (by omega)]) (by rw [upd_n (by omega), upd_n (by omega)]) (by rw [upd_n (by omega), upd_n (by omega)]) (fun k a b _ => by rw [upd_n (by omega), upd_n (by omega)]) (fun d hd => by rw [upd_n (by omega), upd_n (by omega)]) (fun d hd => by rw [upd_n (by omega), upd_n (by omega)])
theorem Rep_day {G uG : GG} {b : Nat} {r : Nat → Int32} (hR : Rep G b r) (f : ∀ c, c ≠ 0 → uG (b + c) = G (b + c)) (g5 : uG b 5 = G b 5 + nI 1) (g6 : uG b 6 = G b 6) (g7 : uG b 7 = G b 7 + nI 1) (g8 : uG b 8 = G b 8) : Rep uG b (dayE r) := by
  obtain ⟨hI, hS, hL, hP, hQ, hV, hBt⟩ := hR
  obtain ⟨⟨w1, w2⟩, ⟨w3, w4⟩, ⟨w5, w6⟩, w7, w8⟩ := hI.1
  have hIy := dayE_RI hI
  obtain ⟨y, hy⟩ : ∃ y, y = dayE r := ⟨_, rfl⟩
  rw [← hy] at hIy ⊢
  unfold dayE at hy
  have hn : ∀ k, k ≠ 2 → k ≠ 4 → y k = r k := fun k a c => by rw [hy, upd_n c, upd_n a]
  have z2 : y 2 = r 2 + nI 1 := by rw [hy, upd_n (by omega), upd_s]
  have z4 : y 4 = r 4 + nI 1 := by rw [hy, upd_s]
  have e1 : kn y = kn r := by unfold kn; rw [hn 5 (by omega) (by omega)]
  have e2 : mn y = mn r := by unfold mn; rw [hn 6 (by omega) (by omega)]
  have e3 : on y = on r := by unfold on; rw [hn 11 (by omega) (by omega)]
  have es : ∀ q, q < mn r → supp y q = supp r q := fun q hq => supp_congr (hn 5 (by omega) (by omega)) w2 (by have := (w7 q hq).2.1; omega) (hn _ (by omega) (by omega)) (hn _ (by omega) (by omega)) (fun d hd => hn _ (by omega) (by omega))
  refine ⟨hIy, ⟨?_, fun d hd => ?_, fun d h1 h2 => ?_, ?_, ?_, ?_⟩, fun k hk => ?_, ⟨?_, fun q hq => ?_⟩, ⟨?_, fun k hk => ?_⟩, ⟨?_, ?_, ?_, ?_, ?_, ?_⟩, fun q hq d h1 h2 => ?_⟩
  · rw [f 1 (by omega), hn 5 (by omega) (by omega)]; exact hS.1
  · rw [e1] at hd
    rw [f 2 (by omega), f 3 (by omega), f 4 (by omega), f 5 (by omega), f 6 (by omega), hn _ (by omega) (by omega), hn _ (by omega) (by omega), hn _ (by omega) (by omega), hn _ (by omega) (by omega), hn _ (by omega) (by omega)]
    exact hS.2.1 d hd
  · rw [e1] at h1
    rw [f 4 (by omega), f 5 (by omega), f 6 (by omega)]
    exact hS.2.2.1 d h1 h2
  · rw [f 4 (by omega), hn 7 (by omega) (by omega)]; exact hS.2.2.2.1
  · rw [f 5 (by omega), hn 8 (by omega) (by omega)]; exact hS.2.2.2.2.1
  · rw [f 6 (by omega), hn 9 (by omega) (by omega)]; exact hS.2.2.2.2.2
  · rw [f 8 (by omega), f 9 (by omega), f 10 (by omega), hn (3 * k + 192) (by omega) (by omega), hn (3 * k + 193) (by omega) (by omega), hn (3 * k + 194) (by omega) (by omega)]
    exact hL k hk
  · rw [f 11 (by omega), hn 6 (by omega) (by omega)]; exact hP.1
  · rw [e2] at hq
    rw [f 12 (by omega), f 13 (by omega), f 14 (by omega), f 15 (by omega), f 16 (by omega), f 17 (by omega), es q hq, hn _ (by omega) (by omega), hn _ (by omega) (by omega), hn _ (by omega) (by omega), hn _ (by omega) (by omega), hn _ (by omega) (by omega)]
    exact hP.2 q hq
  · rw [f 18 (by omega), hn 11 (by omega) (by omega)]; exact hQ.1
  · rw [e3] at hk
    rw [f 19 (by omega), f 20 (by omega), f 21 (by omega), f 22 (by omega), hn _ (by omega) (by omega), hn _ (by omega) (by omega), hn _ (by omega) (by omega), hn _ (by omega) (by omega)]
    exact hQ.2 k hk
  · rw [f 23 (by omega), hn 0 (by omega) (by omega)]; exact hV.1
  · rw [f 23 (by omega), hn 1 (by omega) (by omega)]; exact hV.2.1
  · rw [g5, z2, hV.2.2.1]
  · rw [g6, hn 3 (by omega) (by omega)]; exact hV.2.2.2.1
  · rw [g7, z4, hV.2.2.2.2.1]
  · rw [g8, hn 10 (by omega) (by omega)]; exact hV.2.2.2.2.2
  · rw [e2] at hq
    rw [e1] at h1
    rw [hn (5 * q + 88) (by omega) (by omega)]
    exact hBt q hq d h1 h2
