/-! THE CLASS: what laws, petitions and refusals tell -/
theorem RepL_st {G : GG} {b : Nat} {r : Nat → Int32} (h : RepL G b r) {x g : Nat} (hx : x ≤ 6) (hg : g < 20) : (r (60 * x + 3 * g + 192) = (-5) ∧ G (b + 9) (g + 20 * x) = nI 0) ∨ (r (60 * x + 3 * g + 192) ≠ (-5) ∧ G (b + 8) (g + 20 * x) = r (60 * x + 3 * g + 192) ∧ (r (60 * x + 3 * g + 192) = nI 0 ∨ r (60 * x + 3 * g + 192) = nI 1) ∧ G (b + 9) (g + 20 * x) = r (60 * x + 3 * g + 193) ∧ 0 < r (60 * x + 3 * g + 193) ∧ G (b + 10) (g + 20 * x) = r (60 * x + 3 * g + 194)) := by
  have := h (g + 20 * x) (by omega)
  rw [show 3 * (g + 20 * x) + 192 = 60 * x + 3 * g + 192 by omega, show 3 * (g + 20 * x) + 193 = 60 * x + 3 * g + 193 by omega, show 3 * (g + 20 * x) + 194 = 60 * x + 3 * g + 194 by omega] at this
  exact this
theorem i32_p {x : Int32} (h : 0 < x) : x ≠ 0 := fun e => by
  rw [e] at h
  exact absurd h (by decide)
/-- which bylaw rules, by the strengths alone -/
theorem rul_cl {G : GG} {b : Nat} {r : Nat → Int32} (h : RepL G b r) {x g : Nat} (hx : x < 6) (hg : g < 20) : rulO r x g = if G (b + 9) (g + 20 * x) = 0 ∧ G (b + 9) (g + 120) = 0 then none else if G (b + 9) (g + 120) ≤ G (b + 9) (g + 20 * x) then some x else some 6 := by
  have h6 := RepL_st h (Nat.le_refl 6) hg
  rw [show 60 * 6 + 3 * g + 192 = 3 * g + 552 by omega, show 60 * 6 + 3 * g + 193 = 3 * g + 553 by omega, show 60 * 6 + 3 * g + 194 = 3 * g + 554 by omega, show g + 20 * 6 = g + 120 by omega] at h6
  have z0 : (nI 0) = (0 : Int32) := rfl
  unfold rulO
  rcases RepL_st h (show x ≤ 6 by omega) hg with ⟨a, c⟩ | ⟨a, -, -, c, d, -⟩ <;> rcases h6 with ⟨a6, c6⟩ | ⟨a6, -, -, c6, d6, -⟩
  · rw [if_pos (Or.inl a), if_pos a, if_pos a6, if_pos ⟨c, c6⟩]
  · rw [if_pos (Or.inl a), if_pos a, if_neg a6, if_neg (fun q => i32_p d6 (c6.symm.trans q.2)), c, c6, if_neg (show ¬ r (3 * g + 553) ≤ nI 0 from Int32.not_le.mpr d6)]
  · rw [if_pos (Or.inr a6), if_neg a, if_neg (fun q => i32_p d (c.symm.trans q.1)), c, c6, if_pos (show nI 0 ≤ r (60 * x + 3 * g + 193) by have d2 := d; rw [i32_lt] at d2; rw [i32_le]; exact Int.le_of_lt d2)]
  · rw [if_neg (fun q => q.elim a a6), if_neg (show ¬ (G (b + 9) (g + 20 * x) = 0 ∧ G (b + 9) (g + 120) = 0) from fun q => i32_p d (c.symm.trans q.1)), c, c6]
    by_cases gg : r (60 * x + 3 * g + 193) < r (3 * g + 553)
    · rw [if_pos gg, if_neg (Int32.not_le.mpr gg)]
    · rw [if_neg gg, if_pos (Int32.not_lt.mp gg)]
theorem alw_not {r : Nat → Int32} {c g : Nat} : ¬ alw r c g ↔ ∃ k, rulO r c g = some k ∧ r (60 * k + 3 * g + 192) ≠ nI 1 := by
  unfold alw
  cases e : rulO r c g with
  | none => exact iff_of_false (fun q => q (Or.inl rfl)) (fun ⟨k, q, _⟩ => by cases q)
  | some k =>
    constructor
    · exact fun q => ⟨k, rfl, fun q2 => q (Or.inr ⟨k, rfl, q2⟩)⟩
    · rintro ⟨k2, q1, q2⟩ (q | ⟨k3, q3, q4⟩)
      · cases q
      · cases q1
        cases q3
        exact q2 q4
theorem rul_LW {r : Nat → Int32} {c g k : Nat} (h : rulO r c g = some k) : r (60 * k + 3 * g + 192) ≠ (-5) := by
  unfold rulO at h
  split at h
  · split at h
    · split at h
      · cases h
      · cases h
        rw [show 60 * 6 + 3 * g + 192 = 3 * g + 552 by omega]
        assumption
    · cases h; assumption
  · rename_i q
    split at h
    · cases h
      rw [show 60 * 6 + 3 * g + 192 = 3 * g + 552 by omega]
      exact fun e => q (Or.inr e)
    · cases h
      exact fun e => q (Or.inl e)
set_option maxHeartbeats 4000000 in
set_option maxRecDepth 100000 in
theorem c_X1_stanceOf (l : Launch) (J : JJ) (z : ZZ) (ad : Nat → Nat) (G : GG) (b : Nat) (hB : IsB b) (r : Nat → Int32) (hR : Rep G b r) (x g : Nat) (hx6 : x ≤ 6) (hg : g < 20) : MI l J z ad yX1_stanceOf cX1_stanceOf 3 .int 0 [.ref (ad (b + 7)), .int (nI x), .int (nI g)] G (fun ans uG => ans = (G (b + 8) (g + 20 * x)) ∧ uG = (G)) := by
  refine MI.go (by decide) (Nat.le_of_ble_eq_true rfl) ?_
  intro pr e s m args below meth c ls Q X h hl hret
  have hx := X.1
  have hb := X.2.1
  have hown := X.2.2.2.1
  have hts := X.2.2.2.2
  have hl : lv_has ls 3 [(0, .ref (ad (b + 7))), (1, .int (nI x)), (2, .int (nI g))] := hl
  have hR0 := hR
  obtain ⟨hI, hS, hL, hP, hQ, hV, hBt⟩ := hR
  have hW := hI.1
  obtain ⟨⟨w1, w2⟩, ⟨w3, w4⟩, ⟨w5, w6⟩, w7, w8⟩ := hI.1
  have k1 : G (b + 1) 0 = nI (kn r) := hS.1.trans w1
  have k2 : G (b + 11) 0 = nI (mn r) := hP.1.trans w3
  have k3 : G (b + 18) 0 = nI (on r) := hQ.1.trans w5
  refine lv_aload_n hx hb dX1_stanceOf_0 rfl (lv_at hl 0 rfl) ?_
  refine fg_X1_9 hB X h dX1_stanceOf_1 ?_
  refine lv_iload_n hx hb dX1_stanceOf_4 rfl (lv_at hl 1 rfl) ?_
  refine lv_bipush (v := nI 20) hx hb dX1_stanceOf_5 (by decide) ?_
  refine lv_imul hx hb dX1_stanceOf_7 ?_
  refine lv_as (y := nI (20 * x)) (nI_mulc (by omega)) ?_
  refine lv_iload_n hx hb dX1_stanceOf_8 rfl (lv_at hl 2 rfl) ?_
  refine lv_iadd hx hb dX1_stanceOf_9 ?_
  refine lv_as (y := nI (g + 20 * x)) (nI_addc (by omega)) ?_
  refine rg_ild X h (b + 8) (hB.lt (by decide)) (sa_8 hB J ad) (g + 20 * x) rfl (by omega) (by decide) dX1_stanceOf_10 ?_
  exact hret (G (b + 8) (g + 20 * x)) G _ _ 11 _ (⟨rfl, rfl⟩) h dX1_stanceOf_11
set_option maxHeartbeats 4000000 in
set_option maxRecDepth 100000 in
theorem c_X1_strengthOf (l : Launch) (J : JJ) (z : ZZ) (ad : Nat → Nat) (G : GG) (b : Nat) (hB : IsB b) (r : Nat → Int32) (hR : Rep G b r) (x g : Nat) (hx6 : x ≤ 6) (hg : g < 20) : MI l J z ad yX1_strengthOf cX1_strengthOf 3 .int 0 [.ref (ad (b + 7)), .int (nI x), .int (nI g)] G (fun ans uG => ans = (G (b + 9) (g + 20 * x)) ∧ uG = (G)) := by
  refine MI.go (by decide) (Nat.le_of_ble_eq_true rfl) ?_
  intro pr e s m args below meth c ls Q X h hl hret
  have hx := X.1
  have hb := X.2.1
  have hown := X.2.2.2.1
  have hts := X.2.2.2.2
  have hl : lv_has ls 3 [(0, .ref (ad (b + 7))), (1, .int (nI x)), (2, .int (nI g))] := hl
  have hR0 := hR
  obtain ⟨hI, hS, hL, hP, hQ, hV, hBt⟩ := hR
  have hW := hI.1
  obtain ⟨⟨w1, w2⟩, ⟨w3, w4⟩, ⟨w5, w6⟩, w7, w8⟩ := hI.1
  have k1 : G (b + 1) 0 = nI (kn r) := hS.1.trans w1
  have k2 : G (b + 11) 0 = nI (mn r) := hP.1.trans w3
  have k3 : G (b + 18) 0 = nI (on r) := hQ.1.trans w5
  refine lv_aload_n hx hb dX1_strengthOf_0 rfl (lv_at hl 0 rfl) ?_
  refine fg_X1_15 hB X h dX1_strengthOf_1 ?_
  refine lv_iload_n hx hb dX1_strengthOf_4 rfl (lv_at hl 1 rfl) ?_
  refine lv_bipush (v := nI 20) hx hb dX1_strengthOf_5 (by decide) ?_
  refine lv_imul hx hb dX1_strengthOf_7 ?_
  refine lv_as (y := nI (20 * x)) (nI_mulc (by omega)) ?_
  refine lv_iload_n hx hb dX1_strengthOf_8 rfl (lv_at hl 2 rfl) ?_
  refine lv_iadd hx hb dX1_strengthOf_9 ?_
  refine lv_as (y := nI (g + 20 * x)) (nI_addc (by omega)) ?_
  refine rg_ild X h (b + 9) (hB.lt (by decide)) (sa_9 hB J ad) (g + 20 * x) rfl (by omega) (by decide) dX1_strengthOf_10 ?_
  exact hret (G (b + 9) (g + 20 * x)) G _ _ 11 _ (⟨rfl, rfl⟩) h dX1_strengthOf_11
set_option maxHeartbeats 4000000 in
set_option maxRecDepth 100000 in
theorem c_X1_rankOf (l : Launch) (J : JJ) (z : ZZ) (ad : Nat → Nat) (G : GG) (b : Nat) (hB : IsB b) (r : Nat → Int32) (hR : Rep G b r) (n : Nat) (hn : n ≤ 140) : MI l J z ad yX1_rankOf cX1_rankOf 4 .int 0 [.ref (ad (b + 7)), .int (nI n)] G (fun ans uG => ans = (nI (cnt (LW r) n)) ∧ uG = (G)) := by
  refine MI.go (by decide) (Nat.le_of_ble_eq_true rfl) ?_
  intro pr e s m args below meth c ls Q X h hl hret
  have hx := X.1
  have hb := X.2.1
  have hown := X.2.2.2.1
  have hts := X.2.2.2.2
  have hl : lv_has ls 4 [(0, .ref (ad (b + 7))), (1, .int (nI n))] := hl
  have hR0 := hR
  obtain ⟨hI, hS, hL, hP, hQ, hV, hBt⟩ := hR
  have hW := hI.1
  obtain ⟨⟨w1, w2⟩, ⟨w3, w4⟩, ⟨w5, w6⟩, w7, w8⟩ := hI.1
  have k1 : G (b + 1) 0 = nI (kn r) := hS.1.trans w1
  have k2 : G (b + 11) 0 = nI (mn r) := hP.1.trans w3
  have k3 : G (b + 18) 0 = nI (on r) := hQ.1.trans w5
  have hcl := cnt_le (LW r)
  refine lv_iconst (v := nI 0) hx hb dX1_rankOf_0 (by decide) ?_
  refine lv_istore_n (lv' := [(2, .int (nI 0)), (0, .ref (ad (b + 7))), (1, .int (nI n))]) hx hb dX1_rankOf_1 rfl hl (by decide) rfl (fun ls hl => ?_)
  refine lv_iconst (v := nI 0) hx hb dX1_rankOf_2 (by decide) ?_
  refine lv_istore_n (lv' := [(3, .int (nI 0)), (2, .int (nI 0)), (0, .ref (ad (b + 7))), (1, .int (nI n))]) hx hb dX1_rankOf_3 rfl hl (by decide) rfl (fun ls hl => ?_)
  have LP_4 : ∀ (k_4 i_4 : Nat), n + 1 ≤ i_4 + k_4 → i_4 ≤ n → ∀ (H : Heap) (locs : List Loc) (ls : Array Slot), HG J z ad s G H locs → lv_has ls 4 [(0, .ref (ad (b + 7))), (1, .int (nI n)), (2, .int (nI ((cnt (LW r) i_4)))), (3, .int (nI i_4))] → W pr l e (rmD 0 0 0) s m args below meth c H locs 0 0 Q (F0 m 4 ls []) := by
    intro k_4
    induction k_4 with
    | zero =>
      intro i_4 g1 g2
      exact absurd g1 (by omega)
    | succ k_4 ih_4 =>
      intro i_4 g1_4 g2_4  H locs ls h hl
      refine lv_iload_n hx hb dX1_rankOf_4 rfl (lv_at hl 3 rfl) ?_
      refine lv_iload_n hx hb dX1_rankOf_5 rfl (lv_at hl 1 rfl) ?_
      refine lv_icmp_ge (tgt := 34) hx hb dX1_rankOf_6 (by decide) (fun c_6 => ?_) (fun c_6 => ?_)
      · rw [nI_leI (by omega) (by omega)] at c_6
        refine lv_iload_n hx hb dX1_rankOf_34 rfl (lv_at hl 2 rfl) ?_
        exact hret (nI ((cnt (LW r) i_4))) G _ _ 35 _ (⟨by rw [show i_4 = n by omega], rfl⟩) h dX1_rankOf_35
      · rw [nI_leI (by omega) (by omega)] at c_6
        refine lv_iload_n hx hb dX1_rankOf_9 rfl (lv_at hl 3 rfl) ?_
        refine lv_sipush (v := nI 140) hx hb dX1_rankOf_10 (by decide) ?_
        refine lv_icmp_ge (tgt := 34) hx hb dX1_rankOf_13 (by decide) (fun c_13 => ?_) (fun c_13 => ?_)
        · rw [nI_leI (by omega) (by omega)] at c_13
          refine lv_iload_n hx hb dX1_rankOf_34 rfl (lv_at hl 2 rfl) ?_
          exact hret (nI ((cnt (LW r) i_4))) G _ _ 35 _ (⟨by rw [show i_4 = n by omega], rfl⟩) h dX1_rankOf_35
        · rw [nI_leI (by omega) (by omega)] at c_13
          refine lv_aload_n hx hb dX1_rankOf_16 rfl (lv_at hl 0 rfl) ?_
          refine fg_X1_15 hB X h dX1_rankOf_17 ?_
          refine lv_iload_n hx hb dX1_rankOf_20 rfl (lv_at hl 3 rfl) ?_
          refine rg_ild X h (b + 9) (hB.lt (by decide)) (sa_9 hB J ad) (i_4) rfl (by omega) (by decide) dX1_rankOf_21 ?_
          refine lv_if_le (tgt := 28) hx hb dX1_rankOf_22 (by decide) (fun c_22 => ?_) (fun c_22 => ?_)
          · rw [show (cnt (LW r) i_4) = cnt (LW r) (i_4 + 1) from (cnt_f (fun q => Int32.not_lt.mpr c_22 ((RepL_0 hL (by omega)).mpr q))).symm] at hl
            refine lv_iinc (v := nI (i_4 + 1)) (lv' := [(3, .int (nI (i_4 + 1))), (0, .ref (ad (b + 7))), (1, .int (nI n)), (2, .int (nI ((cnt (LW r) (i_4 + 1)))))]) hx hb dX1_rankOf_28 hl (k := 3) rfl (nI_addc (b := 1) (by omega)) (by decide) rfl (fun ls hl => ?_)
            refine lv_goto (tgt := 4) hx hb dX1_rankOf_31 (by decide) ?_
            exact ih_4 (i_4 + 1) (by omega) (by omega) _ _ _ h (lv_sub hl [1, 2, 3, 0] rfl)
          · have hcl2 := hcl i_4
            refine lv_iinc (v := nI ((cnt (LW r) i_4) + 1)) (lv' := [(2, .int (nI ((cnt (LW r) i_4) + 1))), (0, .ref (ad (b + 7))), (1, .int (nI n)), (3, .int (nI i_4))]) hx hb dX1_rankOf_25 hl (k := 2) rfl (nI_addc (b := 1) (by omega)) (by decide) rfl (fun ls hl => ?_)
            rw [show (cnt (LW r) i_4) + 1 = cnt (LW r) (i_4 + 1) from (cnt_t ((RepL_0 hL (by omega)).mp (Int32.not_le.mp c_22))).symm] at hl
            refine lv_iinc (v := nI (i_4 + 1)) (lv' := [(3, .int (nI (i_4 + 1))), (2, .int (nI ((cnt (LW r) (i_4 + 1))))), (0, .ref (ad (b + 7))), (1, .int (nI n))]) hx hb dX1_rankOf_28 hl (k := 3) rfl (nI_addc (b := 1) (by omega)) (by decide) rfl (fun ls hl => ?_)
            refine lv_goto (tgt := 4) hx hb dX1_rankOf_31 (by decide) ?_
            exact ih_4 (i_4 + 1) (by omega) (by omega) _ _ _ h (lv_sub hl [2, 3, 1, 0] rfl)
  exact LP_4 (n + 1) 0 (by omega) (by omega) _ _ _ h (lv_sub hl [2, 3, 1, 0] rfl)
set_option maxHeartbeats 4000000 in
set_option maxRecDepth 100000 in
theorem c_X1_size (l : Launch) (J : JJ) (z : ZZ) (ad : Nat → Nat) (G : GG) (b : Nat) (hB : IsB b) (r : Nat → Int32) (hR : Rep G b r)  : MI l J z ad yX1_size cX1_size 1 .int 1 [.ref (ad (b + 7))] G (fun ans uG => ans = (nI (cnt (LW r) 140)) ∧ uG = (G)) := by
  refine MI.go (by decide) (Nat.le_of_ble_eq_true rfl) ?_
  intro pr e s m args below meth c ls Q X h hl hret
  have hx := X.1
  have hb := X.2.1
  have hown := X.2.2.2.1
  have hts := X.2.2.2.2
  have hl : lv_has ls 1 [(0, .ref (ad (b + 7)))] := hl
  have hR0 := hR
  obtain ⟨hI, hS, hL, hP, hQ, hV, hBt⟩ := hR
  have hW := hI.1
  obtain ⟨⟨w1, w2⟩, ⟨w3, w4⟩, ⟨w5, w6⟩, w7, w8⟩ := hI.1
  have k1 : G (b + 1) 0 = nI (kn r) := hS.1.trans w1
  have k2 : G (b + 11) 0 = nI (mn r) := hP.1.trans w3
  have k3 : G (b + 18) 0 = nI (on r) := hQ.1.trans w5
  refine lv_aload_n hx hb dX1_size_0 rfl (lv_at hl 0 rfl) ?_
  refine lv_sipush (v := nI 140) hx hb dX1_size_1 (by decide) ?_
  refine rg_civd (As := [.int (nI 140)]) (rest := []) X hl.1 h (c_X1_rankOf l J z ad G b hB r hR0 140 (by omega)) mw_126 mw_127 mw_128 mw_34 mw_129 pdX1_rankOf (hB.lt (by decide)) (so_7 hB J ad _) rfl rfl ⟨Nat.le_of_ble_eq_true rfl, Nat.le_of_ble_eq_true rfl⟩ ⟨Nat.le_of_ble_eq_true rfl, Nat.le_of_ble_eq_true rfl⟩ rfl (Nat.le_of_ble_eq_true rfl) dX1_size_4 (fun H locs h => ?_)
  exact hret (nI ((cnt (LW r) 140))) G _ _ 7 _ (⟨rfl, rfl⟩) h dX1_size_7
set_option maxHeartbeats 4000000 in
set_option maxRecDepth 100000 in
theorem c_X1_spotAt (l : Launch) (J : JJ) (z : ZZ) (ad : Nat → Nat) (G : GG) (b : Nat) (hB : IsB b) (r : Nat → Int32) (hR : Rep G b r) (x : Int32) : MI l J z ad yX1_spotAt cX1_spotAt 4 .int 0 [.ref (ad (b + 7)), .int x] G (fun ans uG => ans = (opI (rkd r x)) ∧ uG = (G)) := by
  refine MI.go (by decide) (Nat.le_of_ble_eq_true rfl) ?_
  intro pr e s m args below meth c ls Q X h hl hret
  have hx := X.1
  have hb := X.2.1
  have hown := X.2.2.2.1
  have hts := X.2.2.2.2
  have hl : lv_has ls 4 [(0, .ref (ad (b + 7))), (1, .int x)] := hl
  have hR0 := hR
  obtain ⟨hI, hS, hL, hP, hQ, hV, hBt⟩ := hR
  have hW := hI.1
  obtain ⟨⟨w1, w2⟩, ⟨w3, w4⟩, ⟨w5, w6⟩, w7, w8⟩ := hI.1
  have k1 : G (b + 1) 0 = nI (kn r) := hS.1.trans w1
  have k2 : G (b + 11) 0 = nI (mn r) := hP.1.trans w3
  have k3 : G (b + 18) 0 = nI (on r) := hQ.1.trans w5
  have hcl := cnt_le (LW r)
  refine lv_iconst (v := nI 0) hx hb dX1_spotAt_0 (by decide) ?_
  refine lv_istore_n (lv' := [(2, .int (nI 0)), (0, .ref (ad (b + 7))), (1, .int x)]) hx hb dX1_spotAt_1 rfl hl (by decide) rfl (fun ls hl => ?_)
  refine lv_iconst (v := nI 0) hx hb dX1_spotAt_2 (by decide) ?_
  refine lv_istore_n (lv' := [(3, .int (nI 0)), (2, .int (nI 0)), (0, .ref (ad (b + 7))), (1, .int x)]) hx hb dX1_spotAt_3 rfl hl (by decide) rfl (fun ls hl => ?_)
  have LP_4 : ∀ (k_4 i_4 : Nat), 140 + 1 ≤ i_4 + k_4 → i_4 ≤ 140 → ∀ (hn : ∀ j, j < i_4 → ¬ (LW r j ∧ nI (cnt (LW r) j) = x)) (H : Heap) (locs : List Loc) (ls : Array Slot), HG J z ad s G H locs → lv_has ls 4 [(0, .ref (ad (b + 7))), (1, .int x), (2, .int (nI ((cnt (LW r) i_4)))), (3, .int (nI i_4))] → W pr l e (rmD 0 0 0) s m args below meth c H locs 0 0 Q (F0 m 4 ls []) := by
    intro k_4
    induction k_4 with
    | zero =>
      intro i_4 g1 g2
      exact absurd g1 (by omega)
    | succ k_4 ih_4 =>
      intro i_4 g1_4 g2_4 hn H locs ls h hl
      refine lv_iload_n hx hb dX1_spotAt_4 rfl (lv_at hl 3 rfl) ?_
      refine lv_sipush (v := nI 140) hx hb dX1_spotAt_5 (by decide) ?_
      refine lv_icmp_ge (tgt := 36) hx hb dX1_spotAt_8 (by decide) (fun c_8 => ?_) (fun c_8 => ?_)
      · rw [nI_leI (by omega) (by omega)] at c_8
        refine lv_bipush (v := (-5)) hx hb dX1_spotAt_36 (by decide) ?_
        exact hret (-5) G _ _ 38 _ (⟨by unfold rkd; rw [fst_n (P := fun k => LW r k ∧ nI (cnt (LW r) k) = x) (fun j hj => hn j (by omega))]; rfl, rfl⟩) h dX1_spotAt_38
      · rw [nI_leI (by omega) (by omega)] at c_8
        refine lv_aload_n hx hb dX1_spotAt_11 rfl (lv_at hl 0 rfl) ?_
        refine fg_X1_15 hB X h dX1_spotAt_12 ?_
        refine lv_iload_n hx hb dX1_spotAt_15 rfl (lv_at hl 3 rfl) ?_
        refine rg_ild X h (b + 9) (hB.lt (by decide)) (sa_9 hB J ad) (i_4) rfl (by omega) (by decide) dX1_spotAt_16 ?_
        refine lv_if_le (tgt := 30) hx hb dX1_spotAt_17 (by decide) (fun c_17 => ?_) (fun c_17 => ?_)
        · have hLW : ¬ LW r i_4 := fun q => Int32.not_lt.mpr c_17 ((RepL_0 hL (by omega)).mpr q)
          have hn2 : ∀ j, j < i_4 + 1 → ¬ (LW r j ∧ nI (cnt (LW r) j) = x) := by
            intro j hj q
            by_cases e : j = i_4
            · subst e
              exact hLW q.1
            · exact hn j (by omega) q
          rw [show (cnt (LW r) i_4) = cnt (LW r) (i_4 + 1) from (cnt_f hLW).symm] at hl
          refine lv_iinc (v := nI (i_4 + 1)) (lv' := [(3, .int (nI (i_4 + 1))), (0, .ref (ad (b + 7))), (1, .int x), (2, .int (nI ((cnt (LW r) (i_4 + 1)))))]) hx hb dX1_spotAt_30 hl (k := 3) rfl (nI_addc (b := 1) (by omega)) (by decide) rfl (fun ls hl => ?_)
          refine lv_goto (tgt := 4) hx hb dX1_spotAt_33 (by decide) ?_
          exact ih_4 (i_4 + 1) (by omega) (by omega) hn2 _ _ _ h (lv_sub hl [1, 2, 3, 0] rfl)
        · have hcl2 := hcl i_4
          have hLW := (RepL_0 hL (by omega)).mp (Int32.not_le.mp c_17)
          refine lv_iload_n hx hb dX1_spotAt_20 rfl (lv_at hl 2 rfl) ?_
          refine lv_iload_n hx hb dX1_spotAt_21 rfl (lv_at hl 1 rfl) ?_
          refine lv_icmp_ne (tgt := 27) hx hb dX1_spotAt_22 (by decide) (fun c_22 => ?_) (fun c_22 => ?_)
          · refine lv_iinc (v := nI ((cnt (LW r) i_4) + 1)) (lv' := [(2, .int (nI ((cnt (LW r) i_4) + 1))), (0, .ref (ad (b + 7))), (1, .int x), (3, .int (nI i_4))]) hx hb dX1_spotAt_27 hl (k := 2) rfl (nI_addc (b := 1) (by omega)) (by decide) rfl (fun ls hl => ?_)
            have hn2 : ∀ j, j < i_4 + 1 → ¬ (LW r j ∧ nI (cnt (LW r) j) = x) := by
              intro j hj q
              by_cases e : j = i_4
              · subst e
                exact c_22 q.2
              · exact hn j (by omega) q
            rw [show (cnt (LW r) i_4) + 1 = cnt (LW r) (i_4 + 1) from (cnt_t hLW).symm] at hl
            refine lv_iinc (v := nI (i_4 + 1)) (lv' := [(3, .int (nI (i_4 + 1))), (2, .int (nI ((cnt (LW r) (i_4 + 1))))), (0, .ref (ad (b + 7))), (1, .int x)]) hx hb dX1_spotAt_30 hl (k := 3) rfl (nI_addc (b := 1) (by omega)) (by decide) rfl (fun ls hl => ?_)
            refine lv_goto (tgt := 4) hx hb dX1_spotAt_33 (by decide) ?_
            exact ih_4 (i_4 + 1) (by omega) (by omega) hn2 _ _ _ h (lv_sub hl [2, 3, 1, 0] rfl)
          · refine lv_iload_n hx hb dX1_spotAt_25 rfl (lv_at hl 3 rfl) ?_
            exact hret (nI i_4) G _ _ 26 _ (⟨by unfold rkd; rw [fst_s (P := fun k => LW r k ∧ nI (cnt (LW r) k) = x) ⟨hLW, c_22⟩ hn (by omega)]; rfl, rfl⟩) h dX1_spotAt_26
  exact LP_4 (140 + 1) 0 (by omega) (by omega) (fun j hj => by omega) _ _ _ h (lv_sub hl [2, 3, 1, 0] rfl)
set_option maxHeartbeats 4000000 in
set_option maxRecDepth 100000 in
theorem c_X1_rulingPlace (l : Launch) (J : JJ) (z : ZZ) (ad : Nat → Nat) (G : GG) (b : Nat) (hB : IsB b) (r : Nat → Int32) (hR : Rep G b r) (x g : Nat) (hx6 : x < 6) (hg : g < 20) : MI l J z ad yX1_rulingPlace cX1_rulingPlace 5 .int 1 [.ref (ad (b + 7)), .int (nI x), .int (nI g)] G (fun ans uG => ans = (opI (rulO r x g)) ∧ uG = (G)) := by
  refine MI.go (by decide) (Nat.le_of_ble_eq_true rfl) ?_
  intro pr e s m args below meth c ls Q X h hl hret
  have hx := X.1
  have hb := X.2.1
  have hown := X.2.2.2.1
  have hts := X.2.2.2.2
  have hl : lv_has ls 5 [(0, .ref (ad (b + 7))), (1, .int (nI x)), (2, .int (nI g))] := hl
  have hR0 := hR
  obtain ⟨hI, hS, hL, hP, hQ, hV, hBt⟩ := hR
  have hW := hI.1
  obtain ⟨⟨w1, w2⟩, ⟨w3, w4⟩, ⟨w5, w6⟩, w7, w8⟩ := hI.1
  have k1 : G (b + 1) 0 = nI (kn r) := hS.1.trans w1
  have k2 : G (b + 11) 0 = nI (mn r) := hP.1.trans w3
  have k3 : G (b + 18) 0 = nI (on r) := hQ.1.trans w5
  refine lv_aload_n hx hb dX1_rulingPlace_0 rfl (lv_at hl 0 rfl) ?_
  refine lv_iload_n hx hb dX1_rulingPlace_1 rfl (lv_at hl 1 rfl) ?_
  refine lv_iload_n hx hb dX1_rulingPlace_2 rfl (lv_at hl 2 rfl) ?_
  refine rg_civd (As := [.int (nI x), .int (nI g)]) (rest := []) X hl.1 h (c_X1_strengthOf l J z ad G b hB r hR0 x g (by omega) (by omega)) mw_149 mw_150 mw_151 mw_34 mw_152 pdX1_strengthOf (hB.lt (by decide)) (so_7 hB J ad _) rfl rfl ⟨Nat.le_of_ble_eq_true rfl, Nat.le_of_ble_eq_true rfl⟩ ⟨Nat.le_of_ble_eq_true rfl, Nat.le_of_ble_eq_true rfl⟩ rfl (Nat.le_of_ble_eq_true rfl) dX1_rulingPlace_3 (fun H locs h => ?_)
  refine lv_as (y := G (b + 9) (g + 20 * x)) (congrArg (G (b + 9)) (by omega)) ?_
  refine lv_istore_n (lv' := [(3, .int (G (b + 9) (g + 20 * x))), (0, .ref (ad (b + 7))), (1, .int (nI x)), (2, .int (nI g))]) hx hb dX1_rulingPlace_6 rfl hl (by decide) rfl (fun ls hl => ?_)
  refine lv_aload_n hx hb dX1_rulingPlace_7 rfl (lv_at hl 1 rfl) ?_
  refine lv_bipush (v := nI 6) hx hb dX1_rulingPlace_8 (by decide) ?_
  refine lv_iload_n hx hb dX1_rulingPlace_10 rfl (lv_at hl 3 rfl) ?_
  refine rg_civd (As := [.int (nI 6), .int (nI g)]) (rest := []) X hl.1 h (c_X1_strengthOf l J z ad G b hB r hR0 6 g (by omega) (by omega)) mw_149 mw_150 mw_151 mw_34 mw_152 pdX1_strengthOf (hB.lt (by decide)) (so_7 hB J ad _) rfl rfl ⟨Nat.le_of_ble_eq_true rfl, Nat.le_of_ble_eq_true rfl⟩ ⟨Nat.le_of_ble_eq_true rfl, Nat.le_of_ble_eq_true rfl⟩ rfl (Nat.le_of_ble_eq_true rfl) dX1_rulingPlace_11 (fun H locs h => ?_)
  refine lv_as (y := G (b + 9) (g + 120)) (congrArg (G (b + 9)) (by omega)) ?_
  refine lv_istore (lv' := [(4, .int (G (b + 9) (g + 120))), (3, .int (G (b + 9) (g + 20 * x))), (0, .ref (ad (b + 7))), (1, .int (nI x)), (2, .int (nI g))]) hx hb dX1_rulingPlace_14 hl (by decide) rfl (fun ls hl => ?_)
  refine lv_iload_n hx hb dX1_rulingPlace_16 rfl (lv_at hl 1 rfl) ?_
  refine lv_if_ne (tgt := 28) hx hb dX1_rulingPlace_17 (by decide) (fun c_17 => ?_) (fun c_17 => ?_)
  · refine lv_iload_n hx hb dX1_rulingPlace_28 rfl (lv_at hl 1 rfl) ?_
    refine lv_iload hx hb dX1_rulingPlace_29 (lv_at hl 0 rfl) ?_
    refine lv_icmp_lt (tgt := 38) hx hb dX1_rulingPlace_31 (by decide) (fun c_31 => ?_) (fun c_31 => ?_)
    · refine lv_bipush (v := nI 6) hx hb dX1_rulingPlace_38 (by decide) ?_
      exact hret (nI 6) G _ _ 40 _ (⟨by rw [rul_cl hL hx6 hg, if_neg (fun q => c_17 q.1), if_neg (Int32.not_le.mpr c_31)]; rfl, rfl⟩) h dX1_rulingPlace_40
    · refine lv_iload_n hx hb dX1_rulingPlace_34 rfl (lv_at hl 3 rfl) ?_
      refine lv_goto (tgt := 40) hx hb dX1_rulingPlace_35 (by decide) ?_
      exact hret (nI x) G _ _ 40 _ (⟨by rw [rul_cl hL hx6 hg, if_neg (fun q => c_17 q.1), if_pos (Int32.not_lt.mp c_31)]; rfl, rfl⟩) h dX1_rulingPlace_40
  · refine lv_iload hx hb dX1_rulingPlace_20 (lv_at hl 0 rfl) ?_
    refine lv_if_ne (tgt := 28) hx hb dX1_rulingPlace_22 (by decide) (fun c_22 => ?_) (fun c_22 => ?_)
    · refine lv_iload_n hx hb dX1_rulingPlace_28 rfl (lv_at hl 1 rfl) ?_
      refine lv_iload hx hb dX1_rulingPlace_29 (lv_at hl 0 rfl) ?_
      refine lv_icmp_lt (tgt := 38) hx hb dX1_rulingPlace_31 (by decide) (fun c_31 => ?_) (fun c_31 => ?_)
      · refine lv_bipush (v := nI 6) hx hb dX1_rulingPlace_38 (by decide) ?_
        exact hret (nI 6) G _ _ 40 _ (⟨by rw [rul_cl hL hx6 hg, if_neg (fun q => c_22 q.2), if_neg (Int32.not_le.mpr c_31)]; rfl, rfl⟩) h dX1_rulingPlace_40
      · refine lv_iload_n hx hb dX1_rulingPlace_34 rfl (lv_at hl 3 rfl) ?_
        refine lv_goto (tgt := 40) hx hb dX1_rulingPlace_35 (by decide) ?_
        exact hret (nI x) G _ _ 40 _ (⟨by rw [rul_cl hL hx6 hg, if_neg (fun q => c_22 q.2), if_pos (Int32.not_lt.mp c_31)]; rfl, rfl⟩) h dX1_rulingPlace_40
    · refine lv_bipush (v := (-5)) hx hb dX1_rulingPlace_25 (by decide) ?_
      exact hret (-5) G _ _ 27 _ (⟨by rw [rul_cl hL hx6 hg, if_pos ⟨c_17, c_22⟩]; rfl, rfl⟩) h dX1_rulingPlace_27
set_option maxHeartbeats 4000000 in
set_option maxRecDepth 100000 in
theorem c_X1_isForbidden (l : Launch) (J : JJ) (z : ZZ) (ad : Nat → Nat) (G : GG) (b : Nat) (hB : IsB b) (r : Nat → Int32) (hR : Rep G b r) (x g : Nat) (hx6 : x < 6) (hg : g < 20) : MI l J z ad yX1_isForbidden cX1_isForbidden 4 .boolean 2 [.ref (ad (b + 7)), .int (nI x), .int (nI g)] G (fun ans uG => ans = (b2 (¬ alw r x g)) ∧ uG = (G)) := by
  refine MZ.go (by decide) (Nat.le_of_ble_eq_true rfl) ?_
  intro pr e s m args below meth c ls Q X h hl hret
  have hx := X.1
  have hb := X.2.1
  have hown := X.2.2.2.1
  have hts := X.2.2.2.2
  have hl : lv_has ls 4 [(0, .ref (ad (b + 7))), (1, .int (nI x)), (2, .int (nI g))] := hl
  have hR0 := hR
  obtain ⟨hI, hS, hL, hP, hQ, hV, hBt⟩ := hR
  have hW := hI.1
  obtain ⟨⟨w1, w2⟩, ⟨w3, w4⟩, ⟨w5, w6⟩, w7, w8⟩ := hI.1
  have k1 : G (b + 1) 0 = nI (kn r) := hS.1.trans w1
  have k2 : G (b + 11) 0 = nI (mn r) := hP.1.trans w3
  have k3 : G (b + 18) 0 = nI (on r) := hQ.1.trans w5
  refine lv_aload_n hx hb dX1_isForbidden_0 rfl (lv_at hl 0 rfl) ?_
  refine lv_iload_n hx hb dX1_isForbidden_1 rfl (lv_at hl 1 rfl) ?_
  refine lv_iload_n hx hb dX1_isForbidden_2 rfl (lv_at hl 2 rfl) ?_
  refine rg_civd (As := [.int (nI x), .int (nI g)]) (rest := []) X hl.1 h (c_X1_rulingPlace l J z ad G b hB r hR0 x g (by omega) (by omega)) mw_145 mw_146 mw_147 mw_34 mw_148 pdX1_rulingPlace (hB.lt (by decide)) (so_7 hB J ad _) rfl rfl ⟨Nat.le_of_ble_eq_true rfl, Nat.le_of_ble_eq_true rfl⟩ ⟨Nat.le_of_ble_eq_true rfl, Nat.le_of_ble_eq_true rfl⟩ rfl (Nat.le_of_ble_eq_true rfl) dX1_isForbidden_3 (fun H locs h => ?_)
  refine lv_istore_n (lv' := [(3, .int (opI (rulO r x g))), (0, .ref (ad (b + 7))), (1, .int (nI x)), (2, .int (nI g))]) hx hb dX1_isForbidden_6 rfl hl (by decide) rfl (fun ls hl => ?_)
  refine lv_iload_n hx hb dX1_isForbidden_7 rfl (lv_at hl 0 rfl) ?_
  refine lv_bipush (v := (-5)) hx hb dX1_isForbidden_8 (by decide) ?_
  refine lv_icmp_eq (tgt := 26) hx hb dX1_isForbidden_10 (by decide) (fun c_10 => ?_) (fun c_10 => ?_)
  · rw [opI_n (fun k hk => by have := rulO_lt hk; omega)] at c_10
    refine lv_iconst (v := nI 0) hx hb dX1_isForbidden_26 (by decide) ?_
    exact hret (nI 0) G _ _ 27 _ (⟨(b2_f (fun q => by obtain ⟨k2, q1, q2⟩ := alw_not.mp q; first | (rw [c_10] at q1; cases q1) | (rw [hk] at q1; cases q1; exact q2 (hst.2.resolve_left c_19)))).symm, rfl⟩) h rfl dX1_isForbidden_27
  · rw [opI_n (fun k hk => by have := rulO_lt hk; omega)] at c_10
    obtain ⟨a2, hk⟩ := Option.ne_none_iff_exists'.mp c_10
    have hk6 := rulO_lt hk
    rw [hk] at hl
    have hl : lv_has ls 4 [(3, .int (nI a2)), (0, .ref (ad (b + 7))), (1, .int (nI x)), (2, .int (nI g))] := hl
    refine lv_aload_n hx hb dX1_isForbidden_13 rfl (lv_at hl 1 rfl) ?_
    refine lv_iload_n hx hb dX1_isForbidden_14 rfl (lv_at hl 0 rfl) ?_
    refine lv_iload_n hx hb dX1_isForbidden_15 rfl (lv_at hl 3 rfl) ?_
    refine rg_civd (As := [.int (nI a2), .int (nI g)]) (rest := []) X hl.1 h (c_X1_stanceOf l J z ad G b hB r hR0 a2 g (by omega) (by omega)) mw_153 mw_154 mw_155 mw_34 mw_156 pdX1_stanceOf (hB.lt (by decide)) (so_7 hB J ad _) rfl rfl ⟨Nat.le_of_ble_eq_true rfl, Nat.le_of_ble_eq_true rfl⟩ ⟨Nat.le_of_ble_eq_true rfl, Nat.le_of_ble_eq_true rfl⟩ rfl (Nat.le_of_ble_eq_true rfl) dX1_isForbidden_16 (fun H locs h => ?_)
    refine lv_as (y := G (b + 8) (20 * a2 + g)) (congrArg (G (b + 8)) (by omega)) ?_
    refine lv_if_ne (tgt := 26) hx hb dX1_isForbidden_19 (by decide) (fun c_19 => ?_) (fun c_19 => ?_)
    · have hlw := rul_LW hk
      have hst : G (b + 8) (20 * a2 + g) = r (60 * a2 + 3 * g + 192) ∧ (r (60 * a2 + 3 * g + 192) = nI 0 ∨ r (60 * a2 + 3 * g + 192) = nI 1) := by
        rcases RepL_st hL (show a2 ≤ 6 by omega) hg with ⟨q, -⟩ | ⟨-, q1, q2, -⟩
        · exact absurd q hlw
        · rw [show 20 * a2 + g = g + 20 * a2 by omega]
          exact ⟨q1, q2⟩
      rw [hst.1] at c_19
      refine lv_iconst (v := nI 0) hx hb dX1_isForbidden_26 (by decide) ?_
      exact hret (nI 0) G _ _ 27 _ (⟨(b2_f (fun q => by obtain ⟨k2, q1, q2⟩ := alw_not.mp q; first | (rw [c_10] at q1; cases q1) | (rw [hk] at q1; cases q1; exact q2 (hst.2.resolve_left c_19)))).symm, rfl⟩) h rfl dX1_isForbidden_27
    · have hlw := rul_LW hk
      have hst : G (b + 8) (20 * a2 + g) = r (60 * a2 + 3 * g + 192) ∧ (r (60 * a2 + 3 * g + 192) = nI 0 ∨ r (60 * a2 + 3 * g + 192) = nI 1) := by
        rcases RepL_st hL (show a2 ≤ 6 by omega) hg with ⟨q, -⟩ | ⟨-, q1, q2, -⟩
        · exact absurd q hlw
        · rw [show 20 * a2 + g = g + 20 * a2 by omega]
          exact ⟨q1, q2⟩
      rw [hst.1] at c_19
      refine lv_iconst (v := nI 1) hx hb dX1_isForbidden_22 (by decide) ?_
      refine lv_goto (tgt := 27) hx hb dX1_isForbidden_23 (by decide) ?_
      exact hret (nI 1) G _ _ 27 _ (⟨(b2_t (alw_not.mpr ⟨a2, hk, fun q => by rw [c_19] at q; exact absurd q (by decide)⟩)).symm, rfl⟩) h rfl dX1_isForbidden_27
set_option maxHeartbeats 4000000 in
set_option maxRecDepth 100000 in
theorem c_X1_forbidding (l : Launch) (J : JJ) (z : ZZ) (ad : Nat → Nat) (G : GG) (b : Nat) (hB : IsB b) (r : Nat → Int32) (hR : Rep G b r)  : MI l J z ad yX1_forbidding cX1_forbidding 3 .int 0 [.ref (ad (b + 7))] G (fun ans uG => ans = (nI (cnt (fun k => r (3 * k + 192) = nI 0) 140)) ∧ uG = (G)) := by
  refine MI.go (by decide) (Nat.le_of_ble_eq_true rfl) ?_
  intro pr e s m args below meth c ls Q X h hl hret
  have hx := X.1
  have hb := X.2.1
  have hown := X.2.2.2.1
  have hts := X.2.2.2.2
  have hl : lv_has ls 3 [(0, .ref (ad (b + 7)))] := hl
  have hR0 := hR
  obtain ⟨hI, hS, hL, hP, hQ, hV, hBt⟩ := hR
  have hW := hI.1
  obtain ⟨⟨w1, w2⟩, ⟨w3, w4⟩, ⟨w5, w6⟩, w7, w8⟩ := hI.1
  have k1 : G (b + 1) 0 = nI (kn r) := hS.1.trans w1
  have k2 : G (b + 11) 0 = nI (mn r) := hP.1.trans w3
  have k3 : G (b + 18) 0 = nI (on r) := hQ.1.trans w5
  have hcl := cnt_le (fun k => r (3 * k + 192) = nI 0)
  refine lv_iconst (v := nI 0) hx hb dX1_forbidding_0 (by decide) ?_
  refine lv_istore_n (lv' := [(1, .int (nI 0)), (0, .ref (ad (b + 7)))]) hx hb dX1_forbidding_1 rfl hl (by decide) rfl (fun ls hl => ?_)
  refine lv_iconst (v := nI 0) hx hb dX1_forbidding_2 (by decide) ?_
  refine lv_istore_n (lv' := [(2, .int (nI 0)), (1, .int (nI 0)), (0, .ref (ad (b + 7)))]) hx hb dX1_forbidding_3 rfl hl (by decide) rfl (fun ls hl => ?_)
  have LP_4 : ∀ (k_4 i_4 : Nat), 140 + 1 ≤ i_4 + k_4 → i_4 ≤ 140 → ∀ (H : Heap) (locs : List Loc) (ls : Array Slot), HG J z ad s G H locs → lv_has ls 3 [(0, .ref (ad (b + 7))), (1, .int (nI ((cnt (fun k => r (3 * k + 192) = nI 0) i_4)))), (2, .int (nI i_4))] → W pr l e (rmD 0 0 0) s m args below meth c H locs 0 0 Q (F0 m 4 ls []) := by
    intro k_4
    induction k_4 with
    | zero =>
      intro i_4 g1 g2
      exact absurd g1 (by omega)
    | succ k_4 ih_4 =>
      intro i_4 g1_4 g2_4  H locs ls h hl
      refine lv_iload_n hx hb dX1_forbidding_4 rfl (lv_at hl 2 rfl) ?_
      refine lv_sipush (v := nI 140) hx hb dX1_forbidding_5 (by decide) ?_
      refine lv_icmp_ge (tgt := 38) hx hb dX1_forbidding_8 (by decide) (fun c_8 => ?_) (fun c_8 => ?_)
      · rw [nI_leI (by omega) (by omega)] at c_8
        refine lv_iload_n hx hb dX1_forbidding_38 rfl (lv_at hl 1 rfl) ?_
        exact hret (nI ((cnt (fun k => r (3 * k + 192) = nI 0) i_4))) G _ _ 39 _ (⟨by rw [show i_4 = 140 by omega], rfl⟩) h dX1_forbidding_39
      · rw [nI_leI (by omega) (by omega)] at c_8
        have hcl2 := hcl i_4
        have hLi := hL i_4 (by omega)
        refine lv_aload_n hx hb dX1_forbidding_11 rfl (lv_at hl 0 rfl) ?_
        refine fg_X1_15 hB X h dX1_forbidding_12 ?_
        refine lv_iload_n hx hb dX1_forbidding_15 rfl (lv_at hl 2 rfl) ?_
        refine rg_ild X h (b + 9) (hB.lt (by decide)) (sa_9 hB J ad) (i_4) rfl (by omega) (by decide) dX1_forbidding_16 ?_
        refine lv_if_le (tgt := 32) hx hb dX1_forbidding_17 (by decide) (fun c_17 => ?_) (fun c_17 => ?_)
        · rw [show (cnt (fun k => r (3 * k + 192) = nI 0) i_4) = cnt (fun k => r (3 * k + 192) = nI 0) (i_4 + 1) from (cnt_f (P := fun k => r (3 * k + 192) = nI 0) (fun q => by rcases hLi with ⟨q1, q2⟩ | ⟨q1, q2, q3, q4, q5, q6⟩; rw [q1] at q; exact absurd q (by decide); first | exact c_26 (q2.trans q) | (rw [q4] at c_17; exact Int32.not_lt.mpr c_17 q5))).symm] at hl
          refine lv_iinc (v := nI (i_4 + 1)) (lv' := [(2, .int (nI (i_4 + 1))), (0, .ref (ad (b + 7))), (1, .int (nI ((cnt (fun k => r (3 * k + 192) = nI 0) (i_4 + 1)))))]) hx hb dX1_forbidding_32 hl (k := 2) rfl (nI_addc (b := 1) (by omega)) (by decide) rfl (fun ls hl => ?_)
          refine lv_goto (tgt := 4) hx hb dX1_forbidding_35 (by decide) ?_
          exact ih_4 (i_4 + 1) (by omega) (by omega) _ _ _ h (lv_sub hl [1, 2, 0] rfl)
        · refine lv_aload_n hx hb dX1_forbidding_20 rfl (lv_at hl 0 rfl) ?_
          refine fg_X1_9 hB X h dX1_forbidding_21 ?_
          refine lv_iload_n hx hb dX1_forbidding_24 rfl (lv_at hl 2 rfl) ?_
          refine rg_ild X h (b + 8) (hB.lt (by decide)) (sa_8 hB J ad) (i_4) rfl (by omega) (by decide) dX1_forbidding_25 ?_
          refine lv_if_ne (tgt := 32) hx hb dX1_forbidding_26 (by decide) (fun c_26 => ?_) (fun c_26 => ?_)
          · rw [show (cnt (fun k => r (3 * k + 192) = nI 0) i_4) = cnt (fun k => r (3 * k + 192) = nI 0) (i_4 + 1) from (cnt_f (P := fun k => r (3 * k + 192) = nI 0) (fun q => by rcases hLi with ⟨q1, q2⟩ | ⟨q1, q2, q3, q4, q5, q6⟩; rw [q1] at q; exact absurd q (by decide); first | exact c_26 (q2.trans q) | (rw [q4] at c_17; exact Int32.not_lt.mpr c_17 q5))).symm] at hl
            refine lv_iinc (v := nI (i_4 + 1)) (lv' := [(2, .int (nI (i_4 + 1))), (0, .ref (ad (b + 7))), (1, .int (nI ((cnt (fun k => r (3 * k + 192) = nI 0) (i_4 + 1)))))]) hx hb dX1_forbidding_32 hl (k := 2) rfl (nI_addc (b := 1) (by omega)) (by decide) rfl (fun ls hl => ?_)
            refine lv_goto (tgt := 4) hx hb dX1_forbidding_35 (by decide) ?_
            exact ih_4 (i_4 + 1) (by omega) (by omega) _ _ _ h (lv_sub hl [1, 2, 0] rfl)
          · refine lv_iinc (v := nI ((cnt (fun k => r (3 * k + 192) = nI 0) i_4) + 1)) (lv' := [(1, .int (nI ((cnt (fun k => r (3 * k + 192) = nI 0) i_4) + 1))), (0, .ref (ad (b + 7))), (2, .int (nI i_4))]) hx hb dX1_forbidding_29 hl (k := 1) rfl (nI_addc (b := 1) (by omega)) (by decide) rfl (fun ls hl => ?_)
            rw [show (cnt (fun k => r (3 * k + 192) = nI 0) i_4) + 1 = cnt (fun k => r (3 * k + 192) = nI 0) (i_4 + 1) from (cnt_t (P := fun k => r (3 * k + 192) = nI 0) (by rcases hLi with ⟨q1, q2⟩ | ⟨q1, q2, q3⟩; rw [q2] at c_17; exact absurd c_17 (by decide); rw [← q2]; exact c_26)).symm] at hl
            refine lv_iinc (v := nI (i_4 + 1)) (lv' := [(2, .int (nI (i_4 + 1))), (1, .int (nI ((cnt (fun k => r (3 * k + 192) = nI 0) (i_4 + 1))))), (0, .ref (ad (b + 7)))]) hx hb dX1_forbidding_32 hl (k := 2) rfl (nI_addc (b := 1) (by omega)) (by decide) rfl (fun ls hl => ?_)
            refine lv_goto (tgt := 4) hx hb dX1_forbidding_35 (by decide) ?_
            exact ih_4 (i_4 + 1) (by omega) (by omega) _ _ _ h (lv_sub hl [2, 1, 0] rfl)
  exact LP_4 (140 + 1) 0 (by omega) (by omega) _ _ _ h (lv_sub hl [2, 1, 0] rfl)
set_option maxHeartbeats 4000000 in
set_option maxRecDepth 100000 in
theorem c_X1_forbiddenDoings (l : Launch) (J : JJ) (z : ZZ) (ad : Nat → Nat) (G : GG) (b : Nat) (hB : IsB b) (r : Nat → Int32) (hR : Rep G b r)  : MI l J z ad yX1_forbiddenDoings cX1_forbiddenDoings 4 .int 3 [.ref (ad (b + 7))] G (fun ans uG => ans = (nI (cnt (fun k => ¬ alw r (k / 20) (k % 20)) 120)) ∧ uG = (G)) := by
  refine MI.go (by decide) (Nat.le_of_ble_eq_true rfl) ?_
  intro pr e s m args below meth c ls Q X h hl hret
  have hx := X.1
  have hb := X.2.1
  have hown := X.2.2.2.1
  have hts := X.2.2.2.2
  have hl : lv_has ls 4 [(0, .ref (ad (b + 7)))] := hl
  have hR0 := hR
  obtain ⟨hI, hS, hL, hP, hQ, hV, hBt⟩ := hR
  have hW := hI.1
  obtain ⟨⟨w1, w2⟩, ⟨w3, w4⟩, ⟨w5, w6⟩, w7, w8⟩ := hI.1
  have k1 : G (b + 1) 0 = nI (kn r) := hS.1.trans w1
  have k2 : G (b + 11) 0 = nI (mn r) := hP.1.trans w3
  have k3 : G (b + 18) 0 = nI (on r) := hQ.1.trans w5
  have hcl := cnt_le (fun k => ¬ alw r (k / 20) (k % 20))
  refine lv_iconst (v := nI 0) hx hb dX1_forbiddenDoings_0 (by decide) ?_
  refine lv_istore_n (lv' := [(1, .int (nI 0)), (0, .ref (ad (b + 7)))]) hx hb dX1_forbiddenDoings_1 rfl hl (by decide) rfl (fun ls hl => ?_)
  refine lv_iconst (v := nI 0) hx hb dX1_forbiddenDoings_2 (by decide) ?_
  refine lv_istore_n (lv' := [(2, .int (nI 0)), (1, .int (nI 0)), (0, .ref (ad (b + 7)))]) hx hb dX1_forbiddenDoings_3 rfl hl (by decide) rfl (fun ls hl => ?_)
  have LP_4 : ∀ (k_4 i_4 : Nat), 6 + 1 ≤ i_4 + k_4 → i_4 ≤ 6 → ∀ (H : Heap) (locs : List Loc) (ls : Array Slot), HG J z ad s G H locs → lv_has ls 4 [(0, .ref (ad (b + 7))), (1, .int (nI ((cnt (fun k => ¬ alw r (k / 20) (k % 20)) (20 * i_4))))), (2, .int (nI i_4))] → W pr l e (rmD 3 0 0) s m args below meth c H locs 0 0 Q (F0 m 4 ls []) := by
    intro k_4
    induction k_4 with
    | zero =>
      intro i_4 g1 g2
      exact absurd g1 (by omega)
    | succ k_4 ih_4 =>
      intro i_4 g1_4 g2_4  H locs ls h hl
      refine lv_iload_n hx hb dX1_forbiddenDoings_4 rfl (lv_at hl 2 rfl) ?_
      refine lv_bipush (v := nI 6) hx hb dX1_forbiddenDoings_5 (by decide) ?_
      refine lv_icmp_ge (tgt := 42) hx hb dX1_forbiddenDoings_7 (by decide) (fun c_7 => ?_) (fun c_7 => ?_)
      · rw [nI_leI (by omega) (by omega)] at c_7
        refine lv_iload_n hx hb dX1_forbiddenDoings_42 rfl (lv_at hl 1 rfl) ?_
        exact hret (nI ((cnt (fun k => ¬ alw r (k / 20) (k % 20)) (20 * i_4)))) G _ _ 43 _ (⟨by rw [show i_4 = 6 by omega], rfl⟩) h dX1_forbiddenDoings_43
      · rw [nI_leI (by omega) (by omega)] at c_7
        refine lv_iconst (v := nI 0) hx hb dX1_forbiddenDoings_10 (by decide) ?_
        refine lv_istore_n (lv' := [(3, .int (nI 0)), (0, .ref (ad (b + 7))), (1, .int (nI ((cnt (fun k => ¬ alw r (k / 20) (k % 20)) (20 * i_4))))), (2, .int (nI i_4))]) hx hb dX1_forbiddenDoings_11 rfl hl (by decide) rfl (fun ls hl => ?_)
        have LP_12 : ∀ (k_12 i_12 : Nat), 20 + 1 ≤ i_12 + k_12 → i_12 ≤ 20 → ∀ (H : Heap) (locs : List Loc) (ls : Array Slot), HG J z ad s G H locs → lv_has ls 4 [(0, .ref (ad (b + 7))), (1, .int (nI ((cnt (fun k => ¬ alw r (k / 20) (k % 20)) (20 * i_4 + i_12))))), (2, .int (nI i_4)), (3, .int (nI i_12))] → W pr l e (rmD 3 0 0) s m args below meth c H locs 0 0 Q (F0 m 12 ls []) := by
          intro k_12
          induction k_12 with
          | zero =>
            intro i_12 g1 g2
            exact absurd g1 (by omega)
          | succ k_12 ih_12 =>
            intro i_12 g1_12 g2_12  H locs ls h hl
            refine lv_iload_n hx hb dX1_forbiddenDoings_12 rfl (lv_at hl 3 rfl) ?_
            refine lv_bipush (v := nI 20) hx hb dX1_forbiddenDoings_13 (by decide) ?_
            refine lv_icmp_ge (tgt := 36) hx hb dX1_forbiddenDoings_15 (by decide) (fun c_15 => ?_) (fun c_15 => ?_)
            · rw [nI_leI (by omega) (by omega)] at c_15
              refine lv_iinc (v := nI (i_4 + 1)) (lv' := [(2, .int (nI (i_4 + 1))), (0, .ref (ad (b + 7))), (1, .int (nI ((cnt (fun k => ¬ alw r (k / 20) (k % 20)) (20 * i_4 + i_12))))), (3, .int (nI i_12))]) hx hb dX1_forbiddenDoings_36 hl (k := 2) rfl (nI_addc (b := 1) (by omega)) (by decide) rfl (fun ls hl => ?_)
              refine lv_goto (tgt := 4) hx hb dX1_forbiddenDoings_39 (by decide) ?_
              rw [show i_12 = 20 by omega, show 20 * i_4 + 20 = 20 * (i_4 + 1) by omega] at hl
              exact ih_4 (i_4 + 1) (by omega) (by omega) _ _ _ h (lv_sub hl [1, 2, 0] rfl)
            · rw [nI_leI (by omega) (by omega)] at c_15
              have hcl2 := hcl (20 * i_4 + i_12)
              have hd1 : (20 * i_4 + i_12) / 20 = i_4 := by omega
              have hd2 : (20 * i_4 + i_12) % 20 = i_12 := by omega
              refine lv_aload_n hx hb dX1_forbiddenDoings_18 rfl (lv_at hl 0 rfl) ?_
              refine lv_iload_n hx hb dX1_forbiddenDoings_19 rfl (lv_at hl 2 rfl) ?_
              refine lv_iload_n hx hb dX1_forbiddenDoings_20 rfl (lv_at hl 3 rfl) ?_
              refine rg_civd (As := [.int (nI i_4), .int (nI i_12)]) (rest := []) X hl.1 h (c_X1_isForbidden l J z ad G b hB r hR0 i_4 i_12 (by omega) (by omega)) mw_141 mw_142 mw_143 mw_34 mw_144 pdX1_isForbidden (hB.lt (by decide)) (so_7 hB J ad _) rfl rfl ⟨Nat.le_of_ble_eq_true rfl, Nat.le_of_ble_eq_true rfl⟩ ⟨Nat.le_of_ble_eq_true rfl, Nat.le_of_ble_eq_true rfl⟩ rfl (Nat.le_of_ble_eq_true rfl) dX1_forbiddenDoings_21 (fun H locs h => ?_)
              refine lv_if_eq (tgt := 30) hx hb dX1_forbiddenDoings_24 (by decide) (fun c_24 => ?_) (fun c_24 => ?_)
              · rw [b2_z] at c_24
                rw [show (cnt (fun k => ¬ alw r (k / 20) (k % 20)) (20 * i_4 + i_12)) = cnt (fun k => ¬ alw r (k / 20) (k % 20)) (20 * i_4 + (i_12 + 1)) from (cnt_f (P := fun k => ¬ alw r (k / 20) (k % 20)) (fun q => by replace q : ¬ alw r ((20 * i_4 + i_12) / 20) ((20 * i_4 + i_12) % 20) := q; rw [hd1, hd2] at q; exact c_24 q)).symm] at hl
                refine lv_iinc (v := nI (i_12 + 1)) (lv' := [(3, .int (nI (i_12 + 1))), (0, .ref (ad (b + 7))), (1, .int (nI ((cnt (fun k => ¬ alw r (k / 20) (k % 20)) (20 * i_4 + (i_12 + 1)))))), (2, .int (nI i_4))]) hx hb dX1_forbiddenDoings_30 hl (k := 3) rfl (nI_addc (b := 1) (by omega)) (by decide) rfl (fun ls hl => ?_)
                refine lv_goto (tgt := 12) hx hb dX1_forbiddenDoings_33 (by decide) ?_
                exact ih_12 (i_12 + 1) (by omega) (by omega) _ _ _ h (lv_sub hl [1, 2, 3, 0] rfl)
              · rw [b2_z] at c_24
                refine lv_iinc (v := nI ((cnt (fun k => ¬ alw r (k / 20) (k % 20)) (20 * i_4 + i_12)) + 1)) (lv' := [(1, .int (nI ((cnt (fun k => ¬ alw r (k / 20) (k % 20)) (20 * i_4 + i_12)) + 1))), (0, .ref (ad (b + 7))), (2, .int (nI i_4)), (3, .int (nI i_12))]) hx hb dX1_forbiddenDoings_27 hl (k := 1) rfl (nI_addc (b := 1) (by omega)) (by decide) rfl (fun ls hl => ?_)
                rw [show (cnt (fun k => ¬ alw r (k / 20) (k % 20)) (20 * i_4 + i_12)) + 1 = cnt (fun k => ¬ alw r (k / 20) (k % 20)) (20 * i_4 + (i_12 + 1)) from (cnt_t (P := fun k => ¬ alw r (k / 20) (k % 20)) (by show ¬ alw r ((20 * i_4 + i_12) / 20) ((20 * i_4 + i_12) % 20); rw [hd1, hd2]; exact Classical.not_not.mp c_24)).symm] at hl
                refine lv_iinc (v := nI (i_12 + 1)) (lv' := [(3, .int (nI (i_12 + 1))), (1, .int (nI ((cnt (fun k => ¬ alw r (k / 20) (k % 20)) (20 * i_4 + (i_12 + 1)))))), (0, .ref (ad (b + 7))), (2, .int (nI i_4))]) hx hb dX1_forbiddenDoings_30 hl (k := 3) rfl (nI_addc (b := 1) (by omega)) (by decide) rfl (fun ls hl => ?_)
                refine lv_goto (tgt := 12) hx hb dX1_forbiddenDoings_33 (by decide) ?_
                exact ih_12 (i_12 + 1) (by omega) (by omega) _ _ _ h (lv_sub hl [2, 1, 3, 0] rfl)
        exact LP_12 (20 + 1) 0 (by omega) (by omega) _ _ _ h (lv_sub hl [1, 2, 3, 0] rfl)
  exact LP_4 (6 + 1) 0 (by omega) (by omega) _ _ _ h (lv_sub hl [2, 1, 0] rfl)
