theorem Rep_pt {G uG : GG} {b : Nat} {r : Nat → Int32} (hR : Rep G b r) {D : Nat} {x g k : Int32} (hD : D < kn r) (hx : inN x 0 6) (hg : isN g 20) (hk : inN k 0 2) (hF : ptF r (nI D) x) (hm : mn r < 12) (f : ∀ c, c ≠ 4 → c ≠ 11 → ¬ (12 ≤ c ∧ c ≤ 17) → uG (b + c) = G (b + c)) (f4 : uG (b + 4) = upd (G (b + 4)) D (G (b + 4) D + nI 1)) (f11 : uG (b + 11) 0 = nI (mn r + 1)) (f12 : uG (b + 12) = upd (G (b + 12)) (mn r) (nI D)) (f13 : uG (b + 13) = upd (G (b + 13)) (mn r) x) (f14 : uG (b + 14) = upd (G (b + 14)) (mn r) g) (f15 : uG (b + 15) = upd (G (b + 15)) (mn r) k) (f16 : uG (b + 16) = upd (G (b + 16)) (mn r) (r (6 * D + 13))) (f17 : uG (b + 17) = upd (G (b + 17)) (mn r) (nI 0)) : Rep uG b (ptR r (nI D) x g k) := by
  obtain ⟨hI, hS, hL, hP, hQ, hV, hBt⟩ := hR
  have hIy := ptR_RI hI (nI D) x g k
  obtain ⟨⟨w1, w2⟩, ⟨w3, w4⟩, ⟨w5, w6⟩, w7, w8⟩ := hI.1
  obtain ⟨y, hy⟩ : ∃ y, y = ptR r (nI D) x g k := ⟨_, rfl⟩
  rw [← hy] at hIy ⊢
  unfold ptR at hy
  rw [cif_t ⟨⟨⟨D, hD, rfl⟩, hx, hg⟩, hk, hF⟩, tn_nI (by omega)] at hy
  have hn : ∀ j, j ≠ 6 → j ≠ 7 → j ≠ 6 * D + 14 → j ≠ 6 * D + 15 → (j < 5 * mn r + 84 ∨ 5 * mn r + 89 ≤ j) → y j = r j := fun j a1 a2 a3 a4 a5 => by
    rw [hy, upd_n a1, upd_n a2, upd_n a4, upd_n a3, upd_n (by omega), upd_n (by omega), upd_n (by omega), upd_n (by omega), upd_n (by omega)]
  have y6 : y 6 = nI (mn r + 1) := by rw [hy, upd_s]
  have y7 : y 7 = r 7 + nI 1 := by rw [hy, upd_n (by omega), upd_s]
  have y15 : y (6 * D + 15) = r (6 * D + 15) + nI 1 := by rw [hy, upd_n (by omega), upd_n (by omega), upd_s]
  have z88 : y (5 * mn r + 88) = nI 0 := by rw [hy, upd_n (by omega), upd_n (by omega), upd_n (by omega), upd_n (by omega), upd_s]
  have z87 : y (5 * mn r + 87) = k := by rw [hy, upd_n (by omega), upd_n (by omega), upd_n (by omega), upd_n (by omega), upd_n (by omega), upd_s]
  have z86 : y (5 * mn r + 86) = g := by rw [hy, upd_n (by omega), upd_n (by omega), upd_n (by omega), upd_n (by omega), upd_n (by omega), upd_n (by omega), upd_s]
  have z85 : y (5 * mn r + 85) = x := by rw [hy, upd_n (by omega), upd_n (by omega), upd_n (by omega), upd_n (by omega), upd_n (by omega), upd_n (by omega), upd_n (by omega), upd_s]
  have z84 : y (5 * mn r + 84) = nI D := by rw [hy, upd_n (by omega), upd_n (by omega), upd_n (by omega), upd_n (by omega), upd_n (by omega), upd_n (by omega), upd_n (by omega), upd_n (by omega), upd_s]
  have e1 : kn y = kn r := by unfold kn; rw [hn 5 (by omega) (by omega) (by omega) (by omega) (by omega)]
  have e2 : mn y = mn r + 1 := mn_of y6
  have e3 : on y = on r := by unfold on; rw [hn 11 (by omega) (by omega) (by omega) (by omega) (by omega)]
  have es : ∀ q, q < mn r → supp y q = supp r q := fun q hq => supp_congr (hn 5 (by omega) (by omega) (by omega) (by omega) (by omega)) w2 (by have := (w7 q hq).2.1; omega) (hn _ (by omega) (by omega) (by omega) (by omega) (by omega)) (hn _ (by omega) (by omega) (by omega) (by omega) (by omega)) (fun d hd => hn _ (by omega) (by omega) (by omega) (by omega) (by omega))
  have zz : ∀ d, d < 32 → (nI 0 >>> (nI d &&& 31)) &&& nI 1 = 0 := fun d hd => (bit_z hd).mpr (b_0 d)
  have esm : supp y (mn r) = r (6 * D + 13) := by
    have ep : pd y (mn r) = D := by unfold pd; rw [z84]; exact tn_nI (by omega)
    have key : ∀ n, n ≤ kn r → itr (fun d a => a + ((nI 0 >>> (nI d &&& 31)) &&& nI 1) * y (6 * d + 13)) (r (6 * D + 13)) n = r (6 * D + 13) := by
      intro n
      induction n with
      | zero => exact fun _ => rfl
      | succ n ih =>
        intro hnn
        show itr _ _ n + _ * _ = _
        rw [ih (by omega), zz n (by omega), Int32.zero_mul, Int32.add_zero]
    unfold supp
    rw [ep, e1, z88, hn (6 * D + 13) (by omega) (by omega) (by omega) (by omega) (by omega)]
    exact key _ (Nat.le_refl _)
  refine ⟨hIy, ⟨?_, fun d hd => ?_, fun d h1 h2 => ?_, ?_, ?_, ?_⟩, fun j hj => ?_, ⟨f11.trans y6.symm, fun q hq => ?_⟩, ⟨?_, fun j hj => ?_⟩, ⟨?_, ?_, ?_, ?_, ?_, ?_⟩, fun q hq d h1 h2 => ?_⟩
  · rw [f 1 (by omega) (by omega) (by omega), hn 5 (by omega) (by omega) (by omega) (by omega) (by omega)]; exact hS.1
  · rw [e1] at hd
    rw [f 2 (by omega) (by omega) (by omega), f 3 (by omega) (by omega) (by omega), f4, f 5 (by omega) (by omega) (by omega), f 6 (by omega) (by omega) (by omega), hn (6 * d + 12) (by omega) (by omega) (by omega) (by omega) (by omega), hn (6 * d + 13) (by omega) (by omega) (by omega) (by omega) (by omega), hn (6 * d + 16) (by omega) (by omega) (by omega) (by omega) (by omega), hn (6 * d + 17) (by omega) (by omega) (by omega) (by omega) (by omega)]
    have := hS.2.1 d hd
    by_cases e : d = D
    · subst e
      rw [upd_s, y15, this.2.2.1]
      exact ⟨this.1, this.2.1, rfl, this.2.2.2⟩
    · rw [upd_n e, hn (6 * d + 15) (by omega) (by omega) (by omega) (by omega) (by omega)]
      exact this
  · rw [e1] at h1
    rw [f4, upd_n (by omega), f 5 (by omega) (by omega) (by omega), f 6 (by omega) (by omega) (by omega)]
    exact hS.2.2.1 d h1 h2
  · rw [f4, sumN_upd (by omega), hS.2.2.2.1, y7]
  · rw [f 5 (by omega) (by omega) (by omega), hn 8 (by omega) (by omega) (by omega) (by omega) (by omega)]; exact hS.2.2.2.2.1
  · rw [f 6 (by omega) (by omega) (by omega), hn 9 (by omega) (by omega) (by omega) (by omega) (by omega)]; exact hS.2.2.2.2.2
  · rw [f 8 (by omega) (by omega) (by omega), f 9 (by omega) (by omega) (by omega), f 10 (by omega) (by omega) (by omega), hn (3 * j + 192) (by omega) (by omega) (by omega) (by omega) (by omega), hn (3 * j + 193) (by omega) (by omega) (by omega) (by omega) (by omega), hn (3 * j + 194) (by omega) (by omega) (by omega) (by omega) (by omega)]
    exact hL j hj
  · rw [e2] at hq
    rw [f12, f13, f14, f15, f16, f17]
    by_cases e : q = mn r
    · subst e
      rw [upd_s, upd_s, upd_s, upd_s, upd_s, upd_s, esm, z84, z85, z86, z87, z88]
      obtain ⟨v, g1, g2, g3⟩ := RepS_w hS D hD
      exact ⟨rfl, rfl, rfl, rfl, rfl, rfl, by rw [g3]; exact nI_lt (a := 0) (by omega) (by omega)⟩
    · rw [upd_n e, upd_n e, upd_n e, upd_n e, upd_n e, upd_n e, es q (by omega), hn (5 * q + 84) (by omega) (by omega) (by omega) (by omega) (by omega), hn (5 * q + 85) (by omega) (by omega) (by omega) (by omega) (by omega), hn (5 * q + 86) (by omega) (by omega) (by omega) (by omega) (by omega), hn (5 * q + 87) (by omega) (by omega) (by omega) (by omega) (by omega), hn (5 * q + 88) (by omega) (by omega) (by omega) (by omega) (by omega)]
      exact hP.2 q (by omega)
  · rw [f 18 (by omega) (by omega) (by omega), hn 11 (by omega) (by omega) (by omega) (by omega) (by omega)]; exact hQ.1
  · rw [e3] at hj
    rw [f 19 (by omega) (by omega) (by omega), f 20 (by omega) (by omega) (by omega), f 21 (by omega) (by omega) (by omega), f 22 (by omega) (by omega) (by omega), hn (4 * j + 144) (by omega) (by omega) (by omega) (by omega) (by omega), hn (4 * j + 145) (by omega) (by omega) (by omega) (by omega) (by omega), hn (4 * j + 146) (by omega) (by omega) (by omega) (by omega) (by omega), hn (4 * j + 147) (by omega) (by omega) (by omega) (by omega) (by omega)]
    exact hQ.2 j hj
  · rw [f 23 (by omega) (by omega) (by omega), hn 0 (by omega) (by omega) (by omega) (by omega) (by omega)]; exact hV.1
  · rw [f 23 (by omega) (by omega) (by omega), hn 1 (by omega) (by omega) (by omega) (by omega) (by omega)]; exact hV.2.1
  · rw [show uG b = G b from f 0 (by omega) (by omega) (by omega), hn 2 (by omega) (by omega) (by omega) (by omega) (by omega)]; exact hV.2.2.1
  · rw [show uG b = G b from f 0 (by omega) (by omega) (by omega), hn 3 (by omega) (by omega) (by omega) (by omega) (by omega)]; exact hV.2.2.2.1
  · rw [show uG b = G b from f 0 (by omega) (by omega) (by omega), hn 4 (by omega) (by omega) (by omega) (by omega) (by omega)]; exact hV.2.2.2.2.1
  · rw [show uG b = G b from f 0 (by omega) (by omega) (by omega), hn 10 (by omega) (by omega) (by omega) (by omega) (by omega)]; exact hV.2.2.2.2.2
  · rw [e2] at hq
    rw [e1] at h1
    by_cases e : q = mn r
    · rw [e, z88]
      exact zz d (by omega)
    · rw [hn (5 * q + 88) (by omega) (by omega) (by omega) (by omega) (by omega)]
      exact hBt q (by omega) d h1 h2
theorem Rep_sc {G uG : GG} {b : Nat} {r : Nat → Int32} (hR : Rep G b r) {D q : Nat} (hD : D < kn r) (hq : q < mn r) (hne : r (5 * q + 84) ≠ nI D) (hnb : ¬ sbit r q (nI D)) (f : ∀ c, c ≠ 16 → c ≠ 17 → uG (b + c) = G (b + c)) (f16 : uG (b + 16) = upd (G (b + 16)) q (G (b + 16) q + r (6 * D + 13))) (f17 : uG (b + 17) = upd (G (b + 17)) q (r (5 * q + 88) ||| (nI 1 <<< (nI D &&& 31)))) : Rep uG b (scR r (nI D) (nI q)) ∧ supp (scR r (nI D) (nI q)) q = G (b + 16) q + r (6 * D + 13) := by
  obtain ⟨hI, hS, hL, hP, hQ, hV, hBt⟩ := hR
  have hIy := scR_RI hI (nI D) (nI q)
  obtain ⟨⟨w1, w2⟩, ⟨w3, w4⟩, ⟨w5, w6⟩, w7, w8⟩ := hI.1
  obtain ⟨y, hy⟩ : ∃ y, y = scR r (nI D) (nI q) := ⟨_, rfl⟩
  rw [← hy] at hIy ⊢
  unfold scR at hy
  rw [tn_nI (by omega), cif_t ⟨⟨⟨D, hD, rfl⟩, ⟨q, hq, rfl⟩⟩, hne, hnb⟩] at hy
  have hb0 : bt (r (5 * q + 88)) D = false := by
    cases g : bt (r (5 * q + 88)) D with
    | false => rfl
    | true => exact absurd ((bit_o (by omega)).mpr g) hnb
  have hn : ∀ k, k ≠ 5 * q + 88 → y k = r k := fun k a => by rw [hy, upd_n a]
  have ys : y (5 * q + 88) = r (5 * q + 88) ||| (nI 1 <<< (nI D &&& 31)) := by rw [hy, upd_s]
  have e1 : kn y = kn r := by unfold kn; rw [hn 5 (by omega)]
  have e2 : mn y = mn r := by unfold mn; rw [hn 6 (by omega)]
  have e3 : on y = on r := by unfold on; rw [hn 11 (by omega)]
  have es : ∀ t, t < mn r → t ≠ q → supp y t = supp r t := fun t ht hne => supp_congr (hn 5 (by omega)) w2 (by have := (w7 t ht).2.1; omega) (hn _ (by omega)) (hn _ (by omega)) (fun d hd => hn _ (by omega))
  have hpq := (w7 q hq).2.1
  have esq : supp y q = supp r q + r (6 * D + 13) := by rw [hy]; exact supp_set w2 hD (by omega) hb0
  have epq : pd y q = pd r q := by unfold pd; rw [hn _ (by omega)]
  have hpos : 0 < supp y q := by
    obtain ⟨v, a1, a2, a3⟩ := supp_nat (r := y) (q := q) (by omega) (by omega) (fun d hd => by rw [hn _ (by omega)]; exact RepS_w hS d (by omega))
    rw [a3]
    exact nI_lt (a := 0) (by omega) (by omega)
  refine ⟨⟨hIy, ⟨?_, fun d hd => ?_, fun d h1 h2 => ?_, ?_, ?_, ?_⟩, fun k hk => ?_, ⟨?_, fun t ht => ?_⟩, ⟨?_, fun k hk => ?_⟩, ⟨?_, ?_, ?_, ?_, ?_, ?_⟩, fun t ht d h1 h2 => ?_⟩, by rw [esq, (hP.2 q hq).2.2.2.2.1]⟩
  · rw [f 1 (by omega) (by omega), hn 5 (by omega)]; exact hS.1
  · rw [e1] at hd
    rw [f 2 (by omega) (by omega), f 3 (by omega) (by omega), f 4 (by omega) (by omega), f 5 (by omega) (by omega), f 6 (by omega) (by omega), hn _ (by omega), hn _ (by omega), hn _ (by omega), hn _ (by omega), hn _ (by omega)]
    exact hS.2.1 d hd
  · rw [e1] at h1
    rw [f 4 (by omega) (by omega), f 5 (by omega) (by omega), f 6 (by omega) (by omega)]
    exact hS.2.2.1 d h1 h2
  · rw [f 4 (by omega) (by omega), hn 7 (by omega)]; exact hS.2.2.2.1
  · rw [f 5 (by omega) (by omega), hn 8 (by omega)]; exact hS.2.2.2.2.1
  · rw [f 6 (by omega) (by omega), hn 9 (by omega)]; exact hS.2.2.2.2.2
  · rw [f 8 (by omega) (by omega), f 9 (by omega) (by omega), f 10 (by omega) (by omega), hn (3 * k + 192) (by omega), hn (3 * k + 193) (by omega), hn (3 * k + 194) (by omega)]
    exact hL k hk
  · rw [f 11 (by omega) (by omega), hn 6 (by omega)]; exact hP.1
  · rw [e2] at ht
    rw [f 12 (by omega) (by omega), f 13 (by omega) (by omega), f 14 (by omega) (by omega), f 15 (by omega) (by omega), f16, f17, hn (5 * t + 84) (by omega), hn (5 * t + 85) (by omega), hn (5 * t + 86) (by omega), hn (5 * t + 87) (by omega)]
    have := hP.2 t ht
    by_cases e : t = q
    · subst e
      rw [upd_s, upd_s, esq, ys, this.2.2.2.2.1]
      exact ⟨this.1, this.2.1, this.2.2.1, this.2.2.2.1, rfl, rfl, by rw [← esq]; exact hpos⟩
    · rw [upd_n e, upd_n e, es t ht e, hn (5 * t + 88) (by omega)]
      exact this
  · rw [f 18 (by omega) (by omega), hn 11 (by omega)]; exact hQ.1
  · rw [e3] at hk
    rw [f 19 (by omega) (by omega), f 20 (by omega) (by omega), f 21 (by omega) (by omega), f 22 (by omega) (by omega), hn _ (by omega), hn _ (by omega), hn _ (by omega), hn _ (by omega)]
    exact hQ.2 k hk
  · rw [f 23 (by omega) (by omega), hn 0 (by omega)]; exact hV.1
  · rw [f 23 (by omega) (by omega), hn 1 (by omega)]; exact hV.2.1
  · rw [show uG b = G b from f 0 (by omega) (by omega), hn 2 (by omega)]; exact hV.2.2.1
  · rw [show uG b = G b from f 0 (by omega) (by omega), hn 3 (by omega)]; exact hV.2.2.2.1
  · rw [show uG b = G b from f 0 (by omega) (by omega), hn 4 (by omega)]; exact hV.2.2.2.2.1
  · rw [show uG b = G b from f 0 (by omega) (by omega), hn 10 (by omega)]; exact hV.2.2.2.2.2
  · rw [e2] at ht
    rw [e1] at h1
    by_cases e : t = q
    · subst e
      rw [ys]
      refine (bit_z (by omega)).mpr ?_
      rw [bt_set (by omega) (by omega), (bit_z (by omega)).mp (hBt t ht d h1 h2)]
      simp [show ¬ d = D by omega]
    · rw [hn (5 * t + 88) (by omega)]
      exact hBt t ht d h1 h2
