theorem Rep_end {G uG : GG} {b : Nat} {y w : Nat → Int32} (hR : Rep G b y) (hw : w = noOwn (kn y) (upd (upd (upd y 3 (y 3 + nI 1)) 4 (nI 0)) 6 (nI 0))) (hI : RI w) (f : ∀ c, c ≠ 0 → c ≠ 11 → uG (b + c) = G (b + c)) (f11 : uG (b + 11) 0 = nI 0) (g5 : uG b 5 = G b 5) (g6 : uG b 6 = G b 6 + nI 1) (g7 : uG b 7 = nI 0) (g8 : uG b 8 = G b 8) : Rep uG b w := by
  obtain ⟨hIy, hS, hL, hP, hQ, hV, hBt⟩ := hR
  have hk := hIy.1.1.2
  have ho := hIy.1.2.2.1.2
  have hn : ∀ k, k ≠ 3 → k ≠ 4 → k ≠ 6 → (k < 12 ∨ 84 ≤ k ∨ (k - 12) % 6 ≠ 2) → w k = y k := fun k a1 a2 a3 a4 => by rw [hw, noOwn_n (fun d hd => by omega), upd_n a3, upd_n a2, upd_n a1]
  have z3 : w 3 = y 3 + nI 1 := by rw [hw, noOwn_n (fun d hd => by omega), upd_n (by omega), upd_n (by omega), upd_s]
  have z4 : w 4 = nI 0 := by rw [hw, noOwn_n (fun d hd => by omega), upd_n (by omega), upd_s]
  have z6 : w 6 = nI 0 := by rw [hw, noOwn_n (fun d hd => by omega), upd_s]
  have e1 : kn w = kn y := by unfold kn; rw [hn 5 (by omega) (by omega) (by omega) (by omega)]
  have e2 : mn w = 0 := mn_of z6
  have e3 : on w = on y := by unfold on; rw [hn 11 (by omega) (by omega) (by omega) (by omega)]
  refine ⟨hI, ⟨?_, fun d hd => ?_, fun d h1 h2 => ?_, ?_, ?_, ?_⟩, fun k hk => ?_, ⟨f11.trans z6.symm, fun t ht => by omega⟩, ⟨?_, fun k hk => ?_⟩, ⟨?_, ?_, ?_, ?_, ?_, ?_⟩, fun t ht d h1 h2 => by omega⟩
  · rw [f 1 (by omega) (by omega), hn 5 (by omega) (by omega) (by omega) (by omega)]; exact hS.1
  · rw [e1] at hd
    rw [f 2 (by omega) (by omega), f 3 (by omega) (by omega), f 4 (by omega) (by omega), f 5 (by omega) (by omega), f 6 (by omega) (by omega), hn (6 * d + 12) (by omega) (by omega) (by omega) (by omega), hn (6 * d + 13) (by omega) (by omega) (by omega) (by omega), hn (6 * d + 15) (by omega) (by omega) (by omega) (by omega), hn (6 * d + 16) (by omega) (by omega) (by omega) (by omega), hn (6 * d + 17) (by omega) (by omega) (by omega) (by omega)]
    exact hS.2.1 d hd
  · rw [e1] at h1
    rw [f 4 (by omega) (by omega), f 5 (by omega) (by omega), f 6 (by omega) (by omega)]
    exact hS.2.2.1 d h1 h2
  · rw [f 4 (by omega) (by omega), hn 7 (by omega) (by omega) (by omega) (by omega)]; exact hS.2.2.2.1
  · rw [f 5 (by omega) (by omega), hn 8 (by omega) (by omega) (by omega) (by omega)]; exact hS.2.2.2.2.1
  · rw [f 6 (by omega) (by omega), hn 9 (by omega) (by omega) (by omega) (by omega)]; exact hS.2.2.2.2.2
  · rw [f 8 (by omega) (by omega), f 9 (by omega) (by omega), f 10 (by omega) (by omega), hn (3 * k + 192) (by omega) (by omega) (by omega) (by omega), hn (3 * k + 193) (by omega) (by omega) (by omega) (by omega), hn (3 * k + 194) (by omega) (by omega) (by omega) (by omega)]
    exact hL k hk
  · rw [f 18 (by omega) (by omega), hn 11 (by omega) (by omega) (by omega) (by omega)]; exact hQ.1
  · rw [e3] at hk
    rw [f 19 (by omega) (by omega), f 20 (by omega) (by omega), f 21 (by omega) (by omega), f 22 (by omega) (by omega), hn (4 * k + 144) (by omega) (by omega) (by omega) (by omega), hn (4 * k + 145) (by omega) (by omega) (by omega) (by omega), hn (4 * k + 146) (by omega) (by omega) (by omega) (by omega), hn (4 * k + 147) (by omega) (by omega) (by omega) (by omega)]
    exact hQ.2 k hk
  · rw [f 23 (by omega) (by omega), hn 0 (by omega) (by omega) (by omega) (by omega)]; exact hV.1
  · rw [f 23 (by omega) (by omega), hn 1 (by omega) (by omega) (by omega) (by omega)]; exact hV.2.1
  · rw [g5, hn 2 (by omega) (by omega) (by omega) (by omega)]; exact hV.2.2.1
  · rw [g6, z3, hV.2.2.2.1]
  · rw [g7, z4]
  · rw [g8, hn 10 (by omega) (by omega) (by omega) (by omega)]; exact hV.2.2.2.2.2
