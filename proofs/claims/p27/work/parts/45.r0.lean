theorem Rep_r0 {G uG : GG} {b : Nat} {r : Nat → Int32} (hR : Rep G b (hearC r).1) (f : ∀ c, c ≠ 18 → uG (b + c) = G (b + c)) (f18 : uG (b + 18) 0 = nI 0) : Rep uG b (yT r 0) := by
  obtain ⟨hI, hS, hL, hP, hQ, hV, hBt⟩ := hR
  have hla := (hearC_ok r).1
  obtain ⟨⟨w1, w2⟩, ⟨w3, w4⟩, ⟨w5, w6⟩, w7, w8⟩ := hI.1
  have hn : ∀ k, k ≠ 11 → yT r 0 k = (hearC r).1 k := fun k a => by
    unfold yT
    by_cases k9 : k = 9
    · subst k9
      rw [upd_s, hla 9 (by omega) (by omega)]
      exact Int32.add_zero _
    · rw [upd_n k9]
      by_cases k8 : k = 8
      · subst k8
        rw [upd_s, hla 8 (by omega) (by omega)]
        exact Int32.add_zero _
      · rw [upd_n k8]
        exact upd_n (f := (hearC r).1) (k := 11) (v := nI 0) a
  have z11 : yT r 0 11 = nI 0 := by
    unfold yT
    rw [upd_n (by omega), upd_n (by omega)]
    exact upd_s (hearC r).1 11 (nI 0)
  generalize yT r 0 = y at *
  generalize (hearC r).1 = x at *
  have e1 : kn y = kn x := by unfold kn; rw [hn 5 (by omega)]
  have e2 : mn y = mn x := by unfold mn; rw [hn 6 (by omega)]
  have e3 : on y = 0 := by unfold on; rw [z11]; exact tn_nI (by omega)
  have es : ∀ q, q < mn x → supp y q = supp x q := fun q hq => supp_congr (hn 5 (by omega)) w2 (by have := (w7 q hq).2.1; omega) (hn _ (by omega)) (hn _ (by omega)) (fun d hd => hn _ (by omega))
  have ed : ∀ t, t < mn x → pd y t = pd x t := fun t ht => by unfold pd; rw [hn _ (by omega)]
  have hIy : RI y := by
    refine ⟨WR_of hI.1 (hn 5 (by omega)) (hn 6 (by omega)) ⟨0, by omega, z11⟩ (fun k a c => hn k (by omega)) (fun d hd => hn _ (by omega)), fun t ht => ?_, fun d hd => ?_, ?_⟩
    · rw [e2] at ht
      have := (w7 t ht).2.1
      rw [ed t ht, hn _ (by omega)]
      exact hI.2.1 t ht
    · rw [e1] at hd
      rw [hn _ (by omega), e2]
      rcases hI.2.2.1 d hd with a | ⟨t, a1, a2, a3⟩
      · exact Or.inl a
      · exact Or.inr ⟨t, a1, a2, by rw [ed t a1]; exact a3⟩
    · rw [e1, e2, ← hI.2.2.2]
      exact cnt_congr (fun d hd => by rw [hn _ (by omega)])
  refine ⟨hIy, ⟨?_, fun d hd => ?_, fun d h1 h2 => ?_, ?_, ?_, ?_⟩, fun k hk => ?_, ⟨?_, fun q hq => ?_⟩, ⟨f18.trans z11.symm, fun k hk => by omega⟩, ⟨?_, ?_, ?_, ?_, ?_, ?_⟩, fun q hq d h1 h2 => ?_⟩
  · rw [f 1 (by omega), hn 5 (by omega)]; exact hS.1
  · rw [e1] at hd
    rw [f 2 (by omega), f 3 (by omega), f 4 (by omega), f 5 (by omega), f 6 (by omega), hn _ (by omega), hn _ (by omega), hn _ (by omega), hn _ (by omega), hn _ (by omega)]
    exact hS.2.1 d hd
  · rw [e1] at h1
    rw [f 4 (by omega), f 5 (by omega), f 6 (by omega)]
    exact hS.2.2.1 d h1 h2
  · rw [f 4 (by omega), hn 7 (by omega)]; exact hS.2.2.2.1
  · rw [f 5 (by omega), hn 8 (by omega)]; exact hS.2.2.2.2.1
  · rw [f 6 (by omega), hn 9 (by omega)]; exact hS.2.2.2.2.2
  · rw [f 8 (by omega), f 9 (by omega), f 10 (by omega), hn (3 * k + 192) (by omega), hn (3 * k + 193) (by omega), hn (3 * k + 194) (by omega)]
    exact hL k hk
  · rw [f 11 (by omega), hn 6 (by omega)]; exact hP.1
  · rw [e2] at hq
    rw [f 12 (by omega), f 13 (by omega), f 14 (by omega), f 15 (by omega), f 16 (by omega), f 17 (by omega), es q hq, hn _ (by omega), hn _ (by omega), hn _ (by omega), hn _ (by omega), hn _ (by omega)]
    exact hP.2 q hq
  · rw [f 23 (by omega), hn 0 (by omega)]; exact hV.1
  · rw [f 23 (by omega), hn 1 (by omega)]; exact hV.2.1
  · rw [show uG b = G b from f 0 (by omega), hn 2 (by omega)]; exact hV.2.2.1
  · rw [show uG b = G b from f 0 (by omega), hn 3 (by omega)]; exact hV.2.2.2.1
  · rw [show uG b = G b from f 0 (by omega), hn 4 (by omega)]; exact hV.2.2.2.2.1
  · rw [show uG b = G b from f 0 (by omega), hn 10 (by omega)]; exact hV.2.2.2.2.2
  · rw [e2] at hq
    rw [e1] at h1
    rw [hn (5 * q + 88) (by omega)]
    exact hBt q hq d h1 h2
