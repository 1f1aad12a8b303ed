/-! BOTH SIDES, call by call -/
def PB (l : Launch) (J : JJ) (z : Nat) (ad : Nat → Nat) (y1 : MethodName) (c1 : ByteArray) (m1 d1 : Nat) (y2 : MethodName) (c2 : ByteArray) (m2 d2 : Nat) (As : List Value) (G : GG) : Prop :=
  ∃ (A : Int32) (V : GG) (P1 : Int32 → GG → Prop), MI l J z ad y1 c1 m1 .int d1 (.ref (ad 0) :: As) G P1 ∧ (∀ r u, P1 r u → PubP G A V r u) ∧
    ∀ G1 : GG, (∀ k, 210 ≤ k → G1 k = G k) → Cls G1 V → ∃ P2 : Int32 → GG → Prop, MI l J z ad y2 c2 m2 .int d2 (.ref (ad 210) :: As) G1 P2 ∧ ∀ r u, P2 r u → r = A ∧ Cls u u
theorem Cls.self {G1 V u : GG} (hV : Cls G1 V) (a : ∀ k, k < 210 → u k = G1 k) (b : ∀ j, j < 9 → u 210 j = V 210 j) (c : u 212 = V 212) (d : ∀ k, k < 3672 → u 211 k = V 211 k) : Cls u u := hV.mv (fun k hk => a k (by omega)) b c d
theorem actG_lo {G : GG} {n : Nat} {a : Int32} {r : Nat → Int32} {k : Nat} (h : k < 210) : actG G n a r k = G k := by
  unfold actG
  split
  · rw [u1_n (by omega), u1_n (by omega)]
  · rw [u1_n (by omega)]
theorem actG_212 {G : GG} {n : Nat} {a : Int32} {r : Nat → Int32} : actG G n a r 212 = G 212 := by
  unfold actG
  split
  · rw [u1_n (by decide), u1_n (by decide)]
  · rw [u1_n (by decide)]
theorem actG_211 {G G1 : GG} {n : Nat} {a : Int32} {r : Nat → Int32} : actG G1 n a r 211 = actG G n a r 211 := by
  unfold actG
  split
  · rw [u1_n (by decide), u1_s, u1_n (by decide), u1_s]
  · rw [u1_s, u1_s]
theorem actG_210 {G G1 : GG} {n : Nat} {a : Int32} {r : Nat → Int32} (h : G1 210 = G 210) : actG G1 n a r 210 = actG G n a r 210 := by
  unfold actG
  split
  · rw [u1_s, u1_s, h]
  · rw [u1_n (by decide), u1_n (by decide), h]
theorem act_self {G G1 U : GG} {n : Nat} {a : Int32} {r : Nat → Int32} (hV : Cls G1 (actG G n a r)) (h0 : U 210 = G 210) (h2 : U 212 = G 212) (hl : ∀ k, k < 210 → U k = G1 k) : Cls (actG U n a r) (actG U n a r) :=
  hV.self (fun k hk => (actG_lo hk).trans (hl k hk)) (fun j hj => by rw [actG_210 h0]) (by rw [actG_212, actG_212, h2]) (fun k hk => by rw [actG_211 (G := G)])
theorem pb_come (l : Launch) (J : JJ) (z : Nat) (ad : Nat → Nat) (G : GG) (hC : Cls G G) (x w : Int32) : PB l J z ad yX7_come cX7_come 3 5 yX8_come cX8_come 3 3 [.int x, .int w] G := by
  obtain ⟨n, hn, hH⟩ := hC.2.1
  have hn4 : n ≤ 4 := by obtain ⟨F, a1, a2, a3⟩ := hH; exact a2
  refine ⟨cmA (cpS (G 211) 0 6) x w, actG G n (cmA (cpS (G 211) 0 6) x w) (cmR (cpS (G 211) 0 6) x w), _, c_X7_come l J z ad G n hn hn4 hC x w, fun _ _ h => h, fun G1 hs hV => ?_⟩
  have e0 := hs 210 (by omega)
  have e1 := hs 211 (by omega)
  have e2 := hs 212 (by omega)
  refine ⟨_, c_X8_come l J z ad G1 n (by rw [e0]; exact hn) hn4 (by rw [e1]; exact hC.1.1.1) x w, fun r u h => ?_⟩
  obtain ⟨rfl, rfl⟩ := h
  rw [e1]
  exact ⟨rfl, act_self hV e0 e2 (fun k hk => rfl)⟩
theorem pb_move (l : Launch) (J : JJ) (z : Nat) (ad : Nat → Nat) (G : GG) (hC : Cls G G) (d x : Int32) : PB l J z ad yX7_move cX7_move 3 5 yX8_move cX8_move 3 3 [.int d, .int x] G := by
  obtain ⟨n, hn, hH⟩ := hC.2.1
  have hn4 : n ≤ 4 := by obtain ⟨F, a1, a2, a3⟩ := hH; exact a2
  refine ⟨mvA (cpS (G 211) 0 6) d x, actG G n (mvA (cpS (G 211) 0 6) d x) (mvR (cpS (G 211) 0 6) d x), _, c_X7_move l J z ad G n hn hn4 hC d x, fun _ _ h => h, fun G1 hs hV => ?_⟩
  have e0 := hs 210 (by omega)
  have e1 := hs 211 (by omega)
  have e2 := hs 212 (by omega)
  refine ⟨_, c_X8_move l J z ad G1 n (by rw [e0]; exact hn) hn4 (by rw [e1]; exact hC.1.1.1) d x, fun r u h => ?_⟩
  obtain ⟨rfl, rfl⟩ := h
  rw [e1]
  exact ⟨rfl, act_self hV e0 e2 (fun k hk => rfl)⟩
theorem pb_petition (l : Launch) (J : JJ) (z : Nat) (ad : Nat → Nat) (G : GG) (hC : Cls G G) (d x g k : Int32) : PB l J z ad yX7_petition cX7_petition 5 5 yX8_petition cX8_petition 5 3 [.int d, .int x, .int g, .int k] G := by
  obtain ⟨n, hn, hH⟩ := hC.2.1
  have hn4 : n ≤ 4 := by obtain ⟨F, a1, a2, a3⟩ := hH; exact a2
  refine ⟨ptA (cpS (G 211) 0 6) d x g k, actG G n (ptA (cpS (G 211) 0 6) d x g k) (ptR (cpS (G 211) 0 6) d x g k), _, c_X7_petition l J z ad G n hn hn4 hC d x g k, fun _ _ h => h, fun G1 hs hV => ?_⟩
  have e0 := hs 210 (by omega)
  have e1 := hs 211 (by omega)
  have e2 := hs 212 (by omega)
  refine ⟨_, c_X8_petition l J z ad G1 n (by rw [e0]; exact hn) hn4 (by rw [e1]; exact hC.1.1.1) d x g k, fun r u h => ?_⟩
  obtain ⟨rfl, rfl⟩ := h
  rw [e1]
  exact ⟨rfl, act_self hV e0 e2 (fun k hk => rfl)⟩
theorem pb_second (l : Launch) (J : JJ) (z : Nat) (ad : Nat → Nat) (G : GG) (hC : Cls G G) (d q : Int32) : PB l J z ad yX7_second cX7_second 3 5 yX8_second cX8_second 3 3 [.int d, .int q] G := by
  obtain ⟨n, hn, hH⟩ := hC.2.1
  have hn4 : n ≤ 4 := by obtain ⟨F, a1, a2, a3⟩ := hH; exact a2
  refine ⟨scA (cpS (G 211) 0 6) d q, actG G n (scA (cpS (G 211) 0 6) d q) (scR (cpS (G 211) 0 6) d q), _, c_X7_second l J z ad G n hn hn4 hC d q, fun _ _ h => h, fun G1 hs hV => ?_⟩
  have e0 := hs 210 (by omega)
  have e1 := hs 211 (by omega)
  have e2 := hs 212 (by omega)
  refine ⟨_, c_X8_second l J z ad G1 n (by rw [e0]; exact hn) hn4 (by rw [e1]; exact hC.1.1.1) d q, fun r u h => ?_⟩
  obtain ⟨rfl, rfl⟩ := h
  rw [e1]
  exact ⟨rfl, act_self hV e0 e2 (fun k hk => rfl)⟩
theorem pb_set (l : Launch) (J : JJ) (z : Nat) (ad : Nat → Nat) (G : GG) (hC : Cls G G) (x v : Int32) : PB l J z ad yX7_set cX7_set 3 5 yX8_set cX8_set 3 3 [.int x, .int v] G := by
  obtain ⟨n, hn, hH⟩ := hC.2.1
  have hn4 : n ≤ 4 := by obtain ⟨F, a1, a2, a3⟩ := hH; exact a2
  refine ⟨stA (cpS (G 211) 0 6) x v, actG G n (stA (cpS (G 211) 0 6) x v) (stR (cpS (G 211) 0 6) x v), _, c_X7_set l J z ad G n hn hn4 hC x v, fun _ _ h => h, fun G1 hs hV => ?_⟩
  have e0 := hs 210 (by omega)
  have e1 := hs 211 (by omega)
  have e2 := hs 212 (by omega)
  refine ⟨_, c_X8_set l J z ad G1 n (by rw [e0]; exact hn) hn4 (by rw [e1]; exact hC.1.1.1) x v, fun r u h => ?_⟩
  obtain ⟨rfl, rfl⟩ := h
  rw [e1]
  exact ⟨rfl, act_self hV e0 e2 (fun k hk => rfl)⟩
theorem pb_pass (l : Launch) (J : JJ) (z : Nat) (ad : Nat → Nat) (G : GG) (hC : Cls G G) (t : Int32) : PB l J z ad yX7_pass cX7_pass 2 5 yX8_pass cX8_pass 2 6 [.int t] G := by
  obtain ⟨n, hn, hH⟩ := hC.2.1
  have hn4 : n ≤ 4 := by obtain ⟨F, a1, a2, a3⟩ := hH; exact a2
  refine ⟨edA (cpS (G 211) 0 6) t, actG G n (edA (cpS (G 211) 0 6) t) (edR (cpS (G 211) 0 6) t), _, c_X7_pass l J z ad G n hn hn4 hC t, fun _ _ h => h, fun G1 hs hV => ?_⟩
  have e0 := hs 210 (by omega)
  have e1 := hs 211 (by omega)
  have e2 := hs 212 (by omega)
  refine ⟨_, c_X8_pass l J z ad G1 n (by rw [e0]; exact hn) hn4 (by rw [e1]; exact hC.1.1.1) t, fun r u h => ?_⟩
  obtain ⟨og, g, rfl, rfl⟩ := h
  rw [e1]
  exact ⟨rfl, act_self hV (by rw [u1_n (by decide), u1_n (by decide)]; exact e0) (by rw [u1_n (by decide), u1_n (by decide)]; exact e2) (fun k hk => by rw [u1_n (by omega), u1_n (by omega)])⟩
theorem pb_type (l : Launch) (J : JJ) (z : Nat) (ad : Nat → Nat) (G : GG) (hC : Cls G G) (x : Int32) (hxc : vp_nar .char x = x) : PB l J z ad yX7_type cX7_type 2 1 yX8_type cX8_type 2 0 [.int x] G := by
  obtain ⟨n, hn60, hn⟩ := hC.2.2.2.1.2.2
  refine ⟨_, _, _, c_X7_type l J z ad G n hn hn60 hC x hxc, fun _ _ h => h, fun G1 hs hV => ?_⟩
  have e0 := hs 210 (by omega)
  have e1 := hs 211 (by omega)
  have e2 := hs 212 (by omega)
  refine ⟨_, c_X8_type l J z ad G1 n (by rw [e0]; exact hn) hn60 x, fun r u h => ?_⟩
  obtain ⟨rfl, rfl⟩ := h
  refine ⟨rfl, ?_⟩
  by_cases g : n = 60
  · rw [if_pos g] at hV ⊢
    exact hV.self (fun _ _ => rfl) (fun j hj => by rw [e0]) e2 (fun k hk => by rw [e1])
  · rw [if_neg g] at hV ⊢
    exact hV.self (fun k hk => by rw [u1_n (by omega), u1_n (by omega)]) (fun j hj => by rw [u1_s, u1_s, e0]) (by rw [u1_n (by decide), u1_s, u1_n (by decide), u1_s, e2]) (fun k hk => by rw [u1_n (by decide), u1_n (by decide), u1_n (by decide), u1_n (by decide), e1])
theorem pb_clearText (l : Launch) (J : JJ) (z : Nat) (ad : Nat → Nat) (G : GG) (hC : Cls G G)  : PB l J z ad yX7_clearText cX7_clearText 1 1 yX8_clearText cX8_clearText 2 0 [] G := by
  refine ⟨_, _, _, c_X7_clearText l J z ad G hC, fun _ _ h => h, fun G1 hs hV => ?_⟩
  have e0 := hs 210 (by omega)
  have e1 := hs 211 (by omega)
  have e2 := hs 212 (by omega)
  refine ⟨_, c_X8_clearText l J z ad G1, fun r u h => ?_⟩
  obtain ⟨rfl, rfl⟩ := h
  exact ⟨by rw [e0], hV.self (fun k hk => u1_n (by omega)) (fun j hj => by rw [u1_s, u1_s, e0]) (by rw [u1_n (by decide), u1_n (by decide), e2]) (fun k hk => by rw [u1_n (by decide), u1_n (by decide), e1])⟩
theorem pb_perform (l : Launch) (J : JJ) (z : Nat) (ad : Nat → Nat) (G : GG) (hC : Cls G G)  : PB l J z ad yX7_perform cX7_perform 4 6 yX8_perform cX8_perform 6 7 [] G := by
  obtain ⟨n, hn60, hn⟩ := hC.2.2.2.1.2.2
  obtain ⟨mm, hm, hH⟩ := hC.2.1
  have hm4 : mm ≤ 4 := by obtain ⟨F, a1, a2, a3⟩ := hH; exact a2
  refine ⟨_, _, _, c_X7_perform l J z ad G n mm hn hn60 hm hm4 hC, fun _ _ h => h, fun G1 hs hV => ?_⟩
  have e0 := hs 210 (by omega)
  have e1 := hs 211 (by omega)
  have e2 := hs 212 (by omega)
  refine ⟨_, c_X8_perform l J z ad G1 n mm (by rw [e0]; exact hn) hn60 (by rw [e0]; exact hm) hm4 (by rw [e1]; exact hC.1.1), fun r u h => pf_ref hs hV hn60 hm h⟩
theorem pb_stopped (l : Launch) (J : JJ) (z : Nat) (ad : Nat → Nat) (G : GG) (hC : Cls G G) (x : Int32) : PB l J z ad yX7_stopped cX7_stopped 2 0 yX8_stopped cX8_stopped 2 1 [.int x] G := by
  refine ⟨_, G, _, c_X7_stopped l J z ad G hC x, fun r u h => ⟨h.1, fun k hk => by rw [h.2], by rw [h.2]; exact hC⟩, fun G1 hs hV => ?_⟩
  have e0 := hs 210 (by omega)
  have e1 := hs 211 (by omega)
  have e2 := hs 212 (by omega)
  refine ⟨_, c_X8_stopped l J z ad G1 x, fun r u h => ?_⟩
  obtain ⟨rfl, rfl⟩ := h
  exact ⟨by rw [e0], hV.self (fun _ _ => rfl) (fun j hj => by rw [e0]) e2 (fun k hk => by rw [e1])⟩
theorem pb_undo (l : Launch) (J : JJ) (z : Nat) (ad : Nat → Nat) (G : GG) (hC : Cls G G)  : PB l J z ad yX7_undo cX7_undo 1 4 yX8_undo cX8_undo 1 1 [] G := by
  obtain ⟨n, hn, hH⟩ := hC.2.1
  have hn4 : n ≤ 4 := by obtain ⟨F, a1, a2, a3⟩ := hH; exact a2
  refine ⟨_, _, _, c_X7_undo l J z ad G n hn hn4 hC, fun _ _ h => h, fun G1 hs hV => ?_⟩
  have e0 := hs 210 (by omega)
  have e1 := hs 211 (by omega)
  have e2 := hs 212 (by omega)
  refine ⟨_, c_X8_undo l J z ad G1 n (by rw [e0]; exact hn) hn4, fun r u h => ?_⟩
  obtain ⟨rfl, rfl⟩ := h
  refine ⟨rfl, ?_⟩
  by_cases g : n = 0
  · rw [if_pos g] at hV ⊢
    exact hV.self (fun _ _ => rfl) (fun j hj => by rw [e0]) e2 (fun k hk => by rw [e1])
  · rw [if_neg g] at hV ⊢
    exact hV.self (fun k hk => by rw [u1_n (by omega), u1_n (by omega)]) (fun j hj => by rw [u1_s, u1_s, e0]) (by rw [u1_n (by decide), u1_n (by decide), u1_n (by decide), u1_n (by decide), e2]) (fun k hk => by rw [u1_n (by decide), u1_s, u1_n (by decide), u1_s, e1])
theorem pb_keep (l : Launch) (J : JJ) (z : Nat) (ad : Nat → Nat) (G : GG) (hC : Cls G G)  : PB l J z ad yX7_keep cX7_keep 1 3 yX8_keep cX8_keep 1 2 [] G := by
  refine ⟨_, _, _, c_X7_keep l J z ad G hC, fun _ _ h => h, fun G1 hs hV => ?_⟩
  have e0 := hs 210 (by omega)
  have e1 := hs 211 (by omega)
  have e2 := hs 212 (by omega)
  refine ⟨_, c_X8_keep l J z ad G1 (by rw [e1]; exact hC.1.1.1), fun r u h => ?_⟩
  obtain ⟨rfl, rfl⟩ := h
  exact ⟨by rw [e1], hV.self (fun k hk => by rw [u1_n (by omega), u1_n (by omega)]) (fun j hj => by rw [u1_s, u1_s, e0]) (by rw [u1_n (by decide), u1_n (by decide), u1_n (by decide), u1_n (by decide), e2]) (fun k hk => by rw [u1_n (by decide), u1_s, u1_n (by decide), u1_s, e1])⟩
theorem pb_restore (l : Launch) (J : JJ) (z : Nat) (ad : Nat → Nat) (G : GG) (hC : Cls G G)  : PB l J z ad yX7_restore cX7_restore 1 5 yX8_restore cX8_restore 1 2 [] G := by
  obtain ⟨n, hn, hH⟩ := hC.2.1
  have hn4 : n ≤ 4 := by obtain ⟨F, a1, a2, a3⟩ := hH; exact a2
  have hW : ¬ G 210 2 = 0 → WR (rwS (G 211) 3060) := fun q => by
    rcases hC.2.2.1 with ⟨-, a⟩ | ⟨-, -, a⟩
    · exact absurd a q
    · exact a.1.1
  refine ⟨_, _, _, c_X7_restore l J z ad G n hn hn4 hC, fun _ _ h => h, fun G1 hs hV => ?_⟩
  have e0 := hs 210 (by omega)
  have e1 := hs 211 (by omega)
  have e2 := hs 212 (by omega)
  refine ⟨_, c_X8_restore l J z ad G1 n (by rw [e0]; exact hn) hn4 (by rw [e0, e1]; exact hW), fun r u h => ?_⟩
  obtain ⟨rfl, rfl⟩ := h
  rw [e0, e1]
  refine ⟨rfl, ?_⟩
  by_cases g : G 210 2 = 0
  · rw [if_pos g] at hV ⊢
    exact hV.self (fun _ _ => rfl) (fun j hj => by rw [e0]) e2 (fun k hk => by rw [e1])
  · rw [if_neg g] at hV ⊢
    exact hV.self (fun k hk => by rw [u1_n (by omega), u1_n (by omega)]) (fun j hj => by rw [u1_s, u1_s]) (by rw [u1_n (by decide), u1_n (by decide), u1_n (by decide), u1_n (by decide), e2]) (fun k hk => by rw [u1_n (by decide), u1_s, u1_n (by decide), u1_s])
theorem pb_drone (l : Launch) (J : JJ) (z : Nat) (ad : Nat → Nat) (G : GG) (hC : Cls G G) (d x : Int32) : PB l J z ad yX7_drone cX7_drone 4 1 yX8_drone cX8_drone 3 2 [.int d, .int x] G := by
  refine ⟨_, G, _, c_X7_drone l J z ad G (G 211) hC.1 d x, fun r u h => ⟨h.1, fun k hk => by rw [h.2], by rw [h.2]; exact hC⟩, fun G1 hs hV => ?_⟩
  have e0 := hs 210 (by omega)
  have e1 := hs 211 (by omega)
  have e2 := hs 212 (by omega)
  refine ⟨_, c_X8_drone l J z ad G1 (G1 211) (rwS_0 _) (by rw [e1]; exact hC.1.1.1) d x, fun r u h => ?_⟩
  obtain ⟨rfl, rfl⟩ := h
  exact ⟨by rw [e1], hV.self (fun _ _ => rfl) (fun j hj => by rw [e0]) e2 (fun k hk => by rw [e1])⟩
theorem pb_bylaw (l : Launch) (J : JJ) (z : Nat) (ad : Nat → Nat) (G : GG) (hC : Cls G G) (x y : Int32) : PB l J z ad yX7_bylaw cX7_bylaw 5 1 yX8_bylaw cX8_bylaw 4 2 [.int x, .int y] G := by
  refine ⟨_, G, _, c_X7_bylaw l J z ad G (G 211) hC.1 x y, fun r u h => ⟨h.1, fun k hk => by rw [h.2], by rw [h.2]; exact hC⟩, fun G1 hs hV => ?_⟩
  have e0 := hs 210 (by omega)
  have e1 := hs 211 (by omega)
  have e2 := hs 212 (by omega)
  refine ⟨_, c_X8_bylaw l J z ad G1 (G1 211) (rwS_0 _) (by rw [e1]; exact hC.1.1.1) x y, fun r u h => ?_⟩
  obtain ⟨rfl, rfl⟩ := h
  exact ⟨by rw [e1], hV.self (fun _ _ => rfl) (fun j hj => by rw [e0]) e2 (fun k hk => by rw [e1])⟩
theorem pb_petitionOf (l : Launch) (J : JJ) (z : Nat) (ad : Nat → Nat) (G : GG) (hC : Cls G G) (q x : Int32) : PB l J z ad yX7_petitionOf cX7_petitionOf 4 1 yX8_petitionOf cX8_petitionOf 4 2 [.int q, .int x] G := by
  refine ⟨_, G, _, c_X7_petitionOf l J z ad G (G 211) hC.1 q x, fun r u h => ⟨h.1, fun k hk => by rw [h.2], by rw [h.2]; exact hC⟩, fun G1 hs hV => ?_⟩
  have e0 := hs 210 (by omega)
  have e1 := hs 211 (by omega)
  have e2 := hs 212 (by omega)
  refine ⟨_, c_X8_petitionOf l J z ad G1 (G1 211) (rwS_0 _) (by rw [e1]; exact hC.1.1.1) q x, fun r u h => ?_⟩
  obtain ⟨rfl, rfl⟩ := h
  exact ⟨by rw [e1], hV.self (fun _ _ => rfl) (fun j hj => by rw [e0]) e2 (fun k hk => by rw [e1])⟩
theorem pb_rule (l : Launch) (J : JJ) (z : Nat) (ad : Nat → Nat) (G : GG) (hC : Cls G G) (a g x : Int32) : PB l J z ad yX7_rule cX7_rule 5 3 yX8_rule cX8_rule 5 3 [.int a, .int g, .int x] G := by
  refine ⟨_, G, _, c_X7_rule l J z ad G (G 211) hC.1 a g x, fun r u h => ⟨h.1, fun k hk => by rw [h.2], by rw [h.2]; exact hC⟩, fun G1 hs hV => ?_⟩
  have e0 := hs 210 (by omega)
  have e1 := hs 211 (by omega)
  have e2 := hs 212 (by omega)
  refine ⟨_, c_X8_rule l J z ad G1 (G1 211) (rwS_0 _) (by rw [e1]; exact hC.1.1.1) a g x, fun r u h => ?_⟩
  obtain ⟨rfl, rfl⟩ := h
  exact ⟨by rw [e1], hV.self (fun _ _ => rfl) (fun j hj => by rw [e0]) e2 (fun k hk => by rw [e1])⟩
theorem pb_lacks (l : Launch) (J : JJ) (z : Nat) (ad : Nat → Nat) (G : GG) (hC : Cls G G) (q : Int32) : PB l J z ad yX7_lacks cX7_lacks 4 2 yX8_lacks cX8_lacks 4 3 [.int q] G := by
  refine ⟨_, G, _, c_X7_lacks l J z ad G (G 211) hC.1 q, fun r u h => ⟨h.1, fun k hk => by rw [h.2], by rw [h.2]; exact hC⟩, fun G1 hs hV => ?_⟩
  have e0 := hs 210 (by omega)
  have e1 := hs 211 (by omega)
  have e2 := hs 212 (by omega)
  refine ⟨_, c_X8_lacks l J z ad G1 (G1 211) (rwS_0 _) (by rw [e1]; exact hC.1.1.1) q, fun r u h => ?_⟩
  obtain ⟨rfl, rfl⟩ := h
  exact ⟨by rw [e1], hV.self (fun _ _ => rfl) (fun j hj => by rw [e0]) e2 (fun k hk => by rw [e1])⟩
theorem pb_free (l : Launch) (J : JJ) (z : Nat) (ad : Nat → Nat) (G : GG) (hC : Cls G G)  : PB l J z ad yX7_free cX7_free 2 1 yX8_free cX8_free 3 1 [] G := by
  refine ⟨_, G, _, c_X7_free l J z ad G (G 211) hC.1 , fun r u h => ⟨h.1, fun k hk => by rw [h.2], by rw [h.2]; exact hC⟩, fun G1 hs hV => ?_⟩
  have e0 := hs 210 (by omega)
  have e1 := hs 211 (by omega)
  have e2 := hs 212 (by omega)
  refine ⟨_, c_X8_free l J z ad G1 (G1 211) (rwS_0 _) (by rw [e1]; exact hC.1.1.1) , fun r u h => ?_⟩
  obtain ⟨rfl, rfl⟩ := h
  exact ⟨by rw [e1], hV.self (fun _ _ => rfl) (fun j hj => by rw [e0]) e2 (fun k hk => by rw [e1])⟩
theorem pb_oldest (l : Launch) (J : JJ) (z : Nat) (ad : Nat → Nat) (G : GG) (hC : Cls G G) (d x : Int32) : PB l J z ad yX7_oldest cX7_oldest 4 3 yX8_oldest cX8_oldest 4 3 [.int d, .int x] G := by
  refine ⟨_, G, _, c_X7_oldest l J z ad G (G 211) hC.1 d x, fun r u h => ⟨h.1, fun k hk => by rw [h.2], by rw [h.2]; exact hC⟩, fun G1 hs hV => ?_⟩
  have e0 := hs 210 (by omega)
  have e1 := hs 211 (by omega)
  have e2 := hs 212 (by omega)
  refine ⟨_, c_X8_oldest l J z ad G1 (G1 211) (rwS_0 _) (by rw [e1]; exact hC.1.1.1) d x, fun r u h => ?_⟩
  obtain ⟨rfl, rfl⟩ := h
  exact ⟨by rw [e1], hV.self (fun _ _ => rfl) (fun j hj => by rw [e0]) e2 (fun k hk => by rw [e1])⟩
theorem pb_count (l : Launch) (J : JJ) (z : Nat) (ad : Nat → Nat) (G : GG) (hC : Cls G G) (x : Int32) : PB l J z ad yX7_count cX7_count 2 4 yX8_count cX8_count 2 4 [.int x] G := by
  obtain ⟨n, hn, hH⟩ := hC.2.1
  have h14 : G 101 2 = G 210 1 := by obtain ⟨F, a1, a2, a3, a4, a5⟩ := hH; rw [a4, hn]
  refine ⟨_, G, _, c_X7_count l J z ad G (G 211) hC.1 (G 210 1) (G 210 4) h14 hC.2.2.2.1.1 x, fun r u h => ⟨h.1, fun k hk => by rw [h.2], by rw [h.2]; exact hC⟩, fun G1 hs hV => ?_⟩
  have e0 := hs 210 (by omega)
  have e1 := hs 211 (by omega)
  have e2 := hs 212 (by omega)
  refine ⟨_, c_X8_count l J z ad G1 (G1 211) (rwS_0 _) (by rw [e1]; exact hC.1.1.1) x, fun r u h => ?_⟩
  obtain ⟨rfl, rfl⟩ := h
  exact ⟨by rw [e1, e0], hV.self (fun _ _ => rfl) (fun j hj => by rw [e0]) e2 (fun k hk => by rw [e1])⟩
theorem pb_heard (l : Launch) (J : JJ) (z : Nat) (ad : Nat → Nat) (G : GG) (hC : Cls G G) (x : Int32) : PB l J z ad yX7_heard cX7_heard 2 2 yX8_heard cX8_heard 2 3 [.int x] G := by
  refine ⟨_, G, _, c_X7_heard l J z ad G (G 211) hC.1 x, fun r u h => ⟨h.1, fun k hk => by rw [h.2], by rw [h.2]; exact hC⟩, fun G1 hs hV => ?_⟩
  have e0 := hs 210 (by omega)
  have e1 := hs 211 (by omega)
  have e2 := hs 212 (by omega)
  refine ⟨_, c_X8_heard l J z ad G1 (by rw [e1]; exact hC.1.1.1) x, fun r u h => ?_⟩
  obtain ⟨og, rfl, rfl⟩ := h
  exact ⟨by rw [e1], hV.self (fun k hk => u1_n (by omega)) (fun j hj => by rw [u1_n (by decide), e0]) (by rw [u1_n (by decide)]; exact e2) (fun k hk => by rw [u1_n (by decide), e1])⟩
theorem pb_reason (l : Launch) (J : JJ) (z : Nat) (ad : Nat → Nat) (G : GG) (hC : Cls G G) (q : Int32) : PB l J z ad yX7_reason cX7_reason 2 3 yX8_reason cX8_reason 2 5 [.int q] G := by
  refine ⟨_, G, _, c_X7_reason l J z ad G (G 211) hC.1 q, fun r u h => ⟨h.1, fun k hk => h.2 k (by omega), hC.mv (fun k hk => h.2 k (by omega)) (fun _ _ => rfl) rfl (fun _ _ => rfl)⟩, fun G1 hs hV => ?_⟩
  have e0 := hs 210 (by omega)
  have e1 := hs 211 (by omega)
  have e2 := hs 212 (by omega)
  refine ⟨_, c_X8_reason l J z ad G1 (by rw [e1]; exact hC.1.1.1) q, fun r u h => ?_⟩
  obtain ⟨og, g, S, rfl, rfl, hS⟩ := h
  exact ⟨by rw [e1], hV.self (fun k hk => by rw [u1_n (by omega), u1_n (by omega), u1_n (by omega)]) (fun j hj => by rw [u1_n (by decide), u1_n (by decide), u1_n (by decide), e0]) (by rw [u1_n (by decide), u1_n (by decide), u1_n (by decide)]; exact e2) (fun k hk => by rw [u1_s, hS k (by omega), e1])⟩
theorem pb_wouldPass (l : Launch) (J : JJ) (z : Nat) (ad : Nat → Nat) (G : GG) (hC : Cls G G)  : PB l J z ad yX7_wouldPass cX7_wouldPass 3 3 yX8_wouldPass cX8_wouldPass 3 5 [] G := by
  refine ⟨_, G, _, c_X7_wouldPass l J z ad G (G 211) hC.1 , fun r u h => ⟨h.1, fun k hk => h.2 k (by omega), hC.mv (fun k hk => h.2 k (by omega)) (fun _ _ => rfl) rfl (fun _ _ => rfl)⟩, fun G1 hs hV => ?_⟩
  have e0 := hs 210 (by omega)
  have e1 := hs 211 (by omega)
  have e2 := hs 212 (by omega)
  refine ⟨_, c_X8_wouldPass l J z ad G1 (by rw [e1]; exact hC.1.1.1) , fun r u h => ?_⟩
  obtain ⟨og, g, S, rfl, rfl, hS⟩ := h
  exact ⟨by rw [e1], hV.self (fun k hk => by rw [u1_n (by omega), u1_n (by omega), u1_n (by omega)]) (fun j hj => by rw [u1_n (by decide), u1_n (by decide), u1_n (by decide), e0]) (by rw [u1_n (by decide), u1_n (by decide), u1_n (by decide)]; exact e2) (fun k hk => by rw [u1_s, hS k (by omega), e1])⟩
