
/-- a hearing was tried: what lies behind the seven rows, the order and the reasons may differ -/
def TrG (G uG : GG) (og g S : Nat → Int32) : Prop := uG = u1 (u1 (u1 G 213 og) 214 g) 211 S ∧ ∀ k, k < 4284 → S k = G 211 k
theorem TrG.rf (G : GG) : TrG G G (G 213) (G 214) (G 211) := ⟨by rw [u1_self, u1_self, u1_self], fun _ _ => rfl⟩
noncomputable def rsA (r : Nat → Int32) (q : Int32) : Int32 := cif (isN q (mn r)) ((hearC r).2.2 (tn q)) (-1)
noncomputable def wpA (r : Nat → Int32) : Int32 := itr (fun q a => a ||| (b2 ((hearC r).2.2 q = 0) <<< (nI q &&& 31))) (nI 0) (mn r)
noncomputable def hdA (r : Nat → Int32) (x : Int32) : Int32 := cif (x < 0) (-2) (cif (isN x (mn r)) (nI (sg r (tn x))) (-5))
noncomputable def ctF (r : Nat → Int32) (a b : Int32) : Nat → Int32
  | 0 => r 2
  | 1 => r 3
  | 2 => r 4
  | 3 => r 5
  | 4 => nI (cnt (LW r) 140)
  | 5 => nI (cnt (fun k => r (3 * k + 192) = nI 0) 140)
  | 6 => r 6
  | 7 => r 7
  | 8 => r 8
  | 9 => r 9
  | 10 => r 10
  | 11 => nI (cnt (fun k => ¬ alw r (k / 20) (k % 20)) 120)
  | 12 => r 0
  | 13 => r 1
  | 14 => a
  | _ => b
noncomputable def ctA (r : Nat → Int32) (a b x : Int32) : Int32 := cif (isN x 16) (ctF r a b (tn x)) (-2)

theorem lt_isN {x : Int32} {n : Nat} (hn : n < 2 ^ 31) : (0 ≤ x ∧ x < nI n) ↔ isN x n := by
  constructor
  · rintro ⟨h1, h2⟩
    rw [i32_le] at h1
    rw [i32_lt, nI_toInt hn] at h2
    have h0 : (0 : Int32).toInt = 0 := by decide
    exact ⟨x.toInt.toNat, by omega, i32_of (by omega) (by omega)⟩
  · rintro ⟨d, h1, rfl⟩
    exact ⟨nI_pos' (by omega), nI_lt h1 hn⟩

theorem rcS_5 (S : Nat → Int32) (n : Nat) (hn : n ≤ 4 := by omega) : REq (rwS S 3060) (cpS (rcS S n 0) 5 0) := by
  intro k hk
  have e : rcS S n 0 (3060 + k) = S (3060 + k) := by
    unfold rcS
    split
    · unfold cpS
      rw [if_neg (by omega), if_neg (by omega), if_neg (by omega), if_neg (by omega)]
    · unfold cpS
      rw [if_neg (by omega)]
  show cpS (rcS S n 0) 5 0 k = S (3060 + k)
  rw [← e]
  unfold cpS
  rw [if_pos (by omega)]
  congr 1
set_option maxHeartbeats 4000000 in
set_option maxRecDepth 100000 in
theorem c_X8_tries (l : Launch) (J : JJ) (z : Nat) (ad : Nat → Nat) (G : GG) (hW : WR (G 211)) : MV l J z ad yX8_tries cX8_tries 2 4 [.ref (ad 210)] G (fun uG => ∃ (og g S : Nat → Int32), TrG G uG og g S ∧ ∀ q, q < mn (G 211) → g q = (hearC (G 211)).2.2 q) := by
  refine MV.go (by decide) (Nat.le_of_ble_eq_true rfl) ?_
  intro pr e s m args below meth c ls Q X h hl hret
  have hx := X.1
  have hb := X.2.1
  have hown := X.2.2.2.1
  have hts := X.2.2.2.2
  have hl : lv_has ls 2 [(0, .ref (ad 210))] := hl
  refine lv_aload_n hx hb dX8_tries_0 rfl (lv_at hl 0 rfl) ?_
  refine lv_iconst (v := nI 0) hx hb dX8_tries_1 (by decide) ?_
  refine lv_bipush (v := nI 7) hx hb dX8_tries_2 (by decide) ?_
  refine rg_cvvd (As := [.int (nI 0), .int (nI 7)]) (rest := []) X hl.1 h (c_X8_copies l J z ad G 0 7 (by omega) (by omega) (by omega)) mw_176 mw_177 mw_178 mw_5 mw_179 pdX8_copies (by decide) (xo_210 J ad _) rfl rfl ⟨Nat.le_of_ble_eq_true rfl, Nat.le_of_ble_eq_true rfl⟩ ⟨Nat.le_of_ble_eq_true rfl, Nat.le_of_ble_eq_true rfl⟩ rfl (Nat.le_of_ble_eq_true rfl) dX8_tries_4 (fun H locs h => ?_)
  have hq : REq (G 211) (rwS (cpS (G 211) 0 7) 4284) := by
    have := cpS_at (G 211) 0 7
    rw [show 612 * 0 = 0 from rfl, rwS_0] at this
    exact this
  have hr : rwS ((u1 G 211 (cpS (G 211) 0 7)) 211) 4284 = rwS (cpS (G 211) 0 7) 4284 := by rw [u1_s]
  have h : HG J z ad s (RG (u1 G 211 (cpS (G 211) 0 7)) 4284 (rwS (cpS (G 211) 0 7) 4284)) H locs := by rw [← hr, RG_self]; exact h
  have hW7 := req_WR hq hW
  refine lv_aload_n hx hb dX8_tries_7 rfl (lv_at hl 0 rfl) ?_
  refine lv_sipush (v := nI 4284) hx hb dX8_tries_8 (by decide) ?_
  refine rg_civ (As := [.int (nI 4284)]) (rest := []) X hl.1 h (c_X8_hears l J z ad (u1 G 211 (cpS (G 211) 0 7)) (rwS (cpS (G 211) 0 7) 4284) 4284 (by omega) hW7) mw_374 mw_375 mw_376 mw_5 mw_377 pdX8_hears (by decide) (xo_210 J ad _) rfl rfl ⟨Nat.le_of_ble_eq_true rfl, Nat.le_of_ble_eq_true rfl⟩ ⟨Nat.le_of_ble_eq_true rfl, Nat.le_of_ble_eq_true rfl⟩ rfl (Nat.le_of_ble_eq_true rfl) dX8_tries_11 (fun r1 G1 H locs q1 h => ?_)
  obtain ⟨og, σ, hO, rfl, rfl⟩ := q1
  refine lv_istore_n (lv' := [(1, .int (nI (hear (rwS (cpS (G 211) 0 7) 4284) ((u1 G 211 (cpS (G 211) 0 7)) 214) σ (mn (rwS (cpS (G 211) 0 7) 4284))).2.1)), (0, .ref (ad 210))]) hx hb dX8_tries_14 rfl hl (by decide) rfl (fun ls hl => ?_)
  exact hret _ _ _ 15 _ (⟨og, _, wrS (cpS (G 211) 0 7) 4284 (hrow (rwS (cpS (G 211) 0 7) 4284) ((u1 G 211 (cpS (G 211) 0 7)) 214) σ), ⟨by unfold RG; rw [u1_n (show (211 : Nat) ≠ 214 by decide), u1_n (show (211 : Nat) ≠ 213 by decide), u1_s, u1_comm (show (211 : Nat) ≠ 213 by decide), u1_comm (show (211 : Nat) ≠ 214 by decide), u1_u1], fun k hk => by unfold wrS cpS; rw [if_neg (by omega), if_neg (by omega)]⟩, fun q hq2 => by rw [(hear_C hO).2.2 q (by rw [req_mn hq]; exact hq2), req_hearC hq hW hq2]⟩) h dX8_tries_15
set_option maxHeartbeats 4000000 in
set_option maxRecDepth 100000 in
theorem c_X8_reason (l : Launch) (J : JJ) (z : Nat) (ad : Nat → Nat) (G : GG) (hW : WR (G 211)) (q : Int32) : MI l J z ad yX8_reason cX8_reason 2 .int 5 [.ref (ad 210), .int q] G (fun ans uG => ∃ (og g S : Nat → Int32), ans = rsA (G 211) q ∧ TrG G uG og g S) := by
  refine MI.go (by decide) (Nat.le_of_ble_eq_true rfl) ?_
  intro pr e s m args below meth c ls Q X h hl hret
  have hx := X.1
  have hb := X.2.1
  have hown := X.2.2.2.1
  have hts := X.2.2.2.2
  have hl : lv_has ls 2 [(0, .ref (ad 210)), (1, .int q)] := hl
  have hW0 := hW
  obtain ⟨⟨w1, w2⟩, ⟨w3, w4⟩, ⟨w5, w6⟩, w7, w8⟩ := hW0
  refine lv_aload_n hx hb dX8_reason_0 rfl (lv_at hl 0 rfl) ?_
  refine lv_iload_n hx hb dX8_reason_1 rfl (lv_at hl 1 rfl) ?_
  refine rg_civd (As := [.int q]) (rest := []) X hl.1 h (c_X8_isPetition l J z ad G (G 211) (rwS_0 _) w3 w4 q) mw_287 mw_288 mw_289 mw_5 mw_290 pdX8_isPetition (by decide) (xo_210 J ad _) rfl rfl ⟨Nat.le_of_ble_eq_true rfl, Nat.le_of_ble_eq_true rfl⟩ ⟨Nat.le_of_ble_eq_true rfl, Nat.le_of_ble_eq_true rfl⟩ rfl (Nat.le_of_ble_eq_true rfl) dX8_reason_2 (fun H locs h => ?_)
  refine lv_if_ne (tgt := 10) hx hb dX8_reason_5 (by decide) (fun c_5 => ?_) (fun c_5 => ?_)
  · rw [b2_z] at c_5
    obtain ⟨D, hD, rfl⟩ := Classical.not_not.mp c_5
    have TD : tn (nI D) = D := tn_nI (by omega)
    refine lv_aload_n hx hb dX8_reason_10 rfl (lv_at hl 0 rfl) ?_
    refine rg_cvv (As := []) (rest := []) X hl.1 h (c_X8_tries l J z ad G hW) mw_694 mw_695 mw_696 mw_5 mw_697 pdX8_tries (by decide) (xo_210 J ad _) rfl rfl ⟨Nat.le_of_ble_eq_true rfl, Nat.le_of_ble_eq_true rfl⟩ ⟨Nat.le_of_ble_eq_true rfl, Nat.le_of_ble_eq_true rfl⟩ rfl (Nat.le_of_ble_eq_true rfl) dX8_reason_11 (fun G1 H locs q1 h => ?_)
    obtain ⟨og, g, S, hT, hg⟩ := q1
    have eT := hT.1
    have eS := hT.2
    refine lv_aload_n hx hb dX8_reason_14 rfl (lv_at hl 0 rfl) ?_
    refine fg_X8_26 X h dX8_reason_15 ?_
    refine lv_iload_n hx hb dX8_reason_18 rfl (lv_at hl 1 rfl) ?_
    refine rg_ild X h 214 (by decide) (xa_214 J ad) (D) rfl (by omega) (by decide) dX8_reason_19 ?_
    refine lv_as (y := (hearC (G 211)).2.2 D) (by rw [eT, u1_n (by decide), u1_s]; exact hg D hD) ?_
    exact hret ((hearC (G 211)).2.2 D) G1 _ _ 20 _ (⟨og, g, S, by unfold rsA; rw [cif_t ⟨D, hD, rfl⟩, TD], hT⟩) h dX8_reason_20
  · rw [b2_z] at c_5
    refine lv_iconst (v := (-1)) hx hb dX8_reason_8 (by decide) ?_
    exact hret (-1) G _ _ 9 _ (⟨_, _, _, by unfold rsA; rw [cif_f c_5], TrG.rf G⟩) h dX8_reason_9
set_option maxHeartbeats 4000000 in
set_option maxRecDepth 100000 in
theorem c_X8_wouldPass (l : Launch) (J : JJ) (z : Nat) (ad : Nat → Nat) (G : GG) (hW : WR (G 211)) : MI l J z ad yX8_wouldPass cX8_wouldPass 3 .int 5 [.ref (ad 210)] G (fun ans uG => ∃ (og g S : Nat → Int32), ans = wpA (G 211) ∧ TrG G uG og g S) := by
  refine MI.go (by decide) (Nat.le_of_ble_eq_true rfl) ?_
  intro pr e s m args below meth c ls Q X h hl hret
  have hx := X.1
  have hb := X.2.1
  have hown := X.2.2.2.1
  have hts := X.2.2.2.2
  have hl : lv_has ls 3 [(0, .ref (ad 210))] := hl
  have hW0 := hW
  obtain ⟨⟨w1, w2⟩, ⟨w3, w4⟩, ⟨w5, w6⟩, w7, w8⟩ := hW0
  refine lv_aload_n hx hb dX8_wouldPass_0 rfl (lv_at hl 0 rfl) ?_
  refine rg_cvv (As := []) (rest := []) X hl.1 h (c_X8_tries l J z ad G hW) mw_694 mw_695 mw_696 mw_5 mw_697 pdX8_tries (by decide) (xo_210 J ad _) rfl rfl ⟨Nat.le_of_ble_eq_true rfl, Nat.le_of_ble_eq_true rfl⟩ ⟨Nat.le_of_ble_eq_true rfl, Nat.le_of_ble_eq_true rfl⟩ rfl (Nat.le_of_ble_eq_true rfl) dX8_wouldPass_1 (fun G1 H locs q1 h => ?_)
  obtain ⟨og, g, S, hT, hg⟩ := q1
  have eT := hT.1
  have eS := hT.2
  refine lv_iconst (v := nI 0) hx hb dX8_wouldPass_4 (by decide) ?_
  refine lv_istore_n (lv' := [(1, .int (nI 0)), (0, .ref (ad 210))]) hx hb dX8_wouldPass_5 rfl hl (by decide) rfl (fun ls hl => ?_)
  refine lv_iconst (v := nI 0) hx hb dX8_wouldPass_6 (by decide) ?_
  refine lv_istore_n (lv' := [(2, .int (nI 0)), (1, .int (nI 0)), (0, .ref (ad 210))]) hx hb dX8_wouldPass_7 rfl hl (by decide) rfl (fun ls hl => ?_)
  have LP_8 : ∀ (k_8 i_8 : Nat), mn (G 211) + 1 ≤ i_8 + k_8 → i_8 ≤ mn (G 211) → ∀ (H : Heap) (locs : List Loc) (ls : Array Slot), HG J z ad s G1 H locs → lv_has ls 3 [(0, .ref (ad 210)), (1, .int (itr (fun q a => a ||| (b2 ((hearC (G 211)).2.2 q = 0) <<< (nI q &&& 31))) (nI 0) i_8)), (2, .int (nI i_8))] → W pr l e (rmD 5 0 0) s m args below meth c H locs 0 0 Q (F0 m 8 ls []) := by
    intro k_8
    induction k_8 with
    | zero =>
      intro i_8 g1 g2
      exact absurd g1 (by omega)
    | succ k_8 ih_8 =>
      intro i_8 g1_8 g2_8  H locs ls h hl
      refine lv_iload_n hx hb dX8_wouldPass_8 rfl (lv_at hl 2 rfl) ?_
      refine lv_aload_n hx hb dX8_wouldPass_9 rfl (lv_at hl 0 rfl) ?_
      refine fg_X8_7 X h dX8_wouldPass_10 ?_
      refine lv_bipush (v := nI 6) hx hb dX8_wouldPass_13 (by decide) ?_
      refine rs_ld X h 0 (6) (congrArg nI (by omega)) (by omega) dX8_wouldPass_15 ?_
      refine lv_as (y := nI ((mn (G 211)))) (by show rwS (G1 211) 0 6 = _; rw [rwS_0, eT, u1_s, eS 6 (by omega)]; exact w3) ?_
      refine lv_icmp_ge (tgt := 47) hx hb dX8_wouldPass_16 (by decide) (fun c_16 => ?_) (fun c_16 => ?_)
      · rw [nI_leI (by omega) (by omega)] at c_16
        refine lv_iload_n hx hb dX8_wouldPass_47 rfl (lv_at hl 1 rfl) ?_
        exact hret (itr (fun q a => a ||| (b2 ((hearC (G 211)).2.2 q = 0) <<< (nI q &&& 31))) (nI 0) i_8) G1 _ _ 48 _ (⟨og, g, S, by rw [show i_8 = mn (G 211) by omega]; rfl, hT⟩) h dX8_wouldPass_48
      · rw [nI_leI (by omega) (by omega)] at c_16
        refine lv_iload_n hx hb dX8_wouldPass_19 rfl (lv_at hl 1 rfl) ?_
        refine lv_aload_n hx hb dX8_wouldPass_20 rfl (lv_at hl 0 rfl) ?_
        refine fg_X8_26 X h dX8_wouldPass_21 ?_
        refine lv_iload_n hx hb dX8_wouldPass_24 rfl (lv_at hl 2 rfl) ?_
        refine rg_ild X h 214 (by decide) (xa_214 J ad) (i_8) rfl (by omega) (by decide) dX8_wouldPass_25 ?_
        refine lv_as (y := (hearC (G 211)).2.2 i_8) (by rw [eT, u1_n (by decide), u1_s]; exact hg i_8 (by omega)) ?_
        refine lv_if_ne (tgt := 33) hx hb dX8_wouldPass_26 (by decide) (fun c_26 => ?_) (fun c_26 => ?_)
        · refine lv_iconst (v := nI 0) hx hb dX8_wouldPass_33 (by decide) ?_
          refine rg_cisd (As := [.int (nI 0)]) (rest := [.int (itr (fun q a => a ||| (b2 ((hearC (G 211)).2.2 q = 0) <<< (nI q &&& 31))) (nI 0) i_8)]) X hl.1 h (c_X8_flag0 l J z ad G1) mw_401 mw_402 mw_5 mw_403 pdX8_flag ⟨Nat.le_of_ble_eq_true rfl, Nat.le_of_ble_eq_true rfl⟩ ⟨Nat.le_of_ble_eq_true rfl, Nat.le_of_ble_eq_true rfl⟩ rfl (Nat.le_of_ble_eq_true rfl) dX8_wouldPass_34 (fun H locs h => ?_)
          refine lv_iload_n hx hb dX8_wouldPass_37 rfl (lv_at hl 2 rfl) ?_
          refine lv_ishl hx hb dX8_wouldPass_38 ?_
          refine lv_as (y := b2 ((hearC (G 211)).2.2 i_8 = 0) <<< (nI i_8 &&& 31)) (congrArg (fun t => t <<< (nI i_8 &&& 31)) (b2_f c_26).symm) ?_
          refine lv_ior hx hb dX8_wouldPass_39 ?_
          refine lv_istore_n (lv' := [(1, .int ((itr (fun q a => a ||| (b2 ((hearC (G 211)).2.2 q = 0) <<< (nI q &&& 31))) (nI 0) i_8) ||| (b2 ((hearC (G 211)).2.2 i_8 = 0) <<< (nI i_8 &&& 31)))), (0, .ref (ad 210)), (2, .int (nI i_8))]) hx hb dX8_wouldPass_40 rfl hl (by decide) rfl (fun ls hl => ?_)
          refine lv_iinc (v := nI (i_8 + 1)) (lv' := [(2, .int (nI (i_8 + 1))), (1, .int ((itr (fun q a => a ||| (b2 ((hearC (G 211)).2.2 q = 0) <<< (nI q &&& 31))) (nI 0) i_8) ||| (b2 ((hearC (G 211)).2.2 i_8 = 0) <<< (nI i_8 &&& 31)))), (0, .ref (ad 210))]) hx hb dX8_wouldPass_41 hl (k := 2) rfl (nI_addc (b := 1) (by omega)) (by decide) rfl (fun ls hl => ?_)
          refine lv_goto (tgt := 8) hx hb dX8_wouldPass_44 (by decide) ?_
          exact ih_8 (i_8 + 1) (by omega) (by omega) _ _ _ h (lv_sub hl [2, 1, 0] rfl)
        · refine lv_iconst (v := nI 1) hx hb dX8_wouldPass_29 (by decide) ?_
          refine lv_goto (tgt := 34) hx hb dX8_wouldPass_30 (by decide) ?_
          refine rg_cisd (As := [.int (nI 1)]) (rest := [.int (itr (fun q a => a ||| (b2 ((hearC (G 211)).2.2 q = 0) <<< (nI q &&& 31))) (nI 0) i_8)]) X hl.1 h (c_X8_flag1 l J z ad G1) mw_401 mw_402 mw_5 mw_403 pdX8_flag ⟨Nat.le_of_ble_eq_true rfl, Nat.le_of_ble_eq_true rfl⟩ ⟨Nat.le_of_ble_eq_true rfl, Nat.le_of_ble_eq_true rfl⟩ rfl (Nat.le_of_ble_eq_true rfl) dX8_wouldPass_34 (fun H locs h => ?_)
          refine lv_iload_n hx hb dX8_wouldPass_37 rfl (lv_at hl 2 rfl) ?_
          refine lv_ishl hx hb dX8_wouldPass_38 ?_
          refine lv_as (y := b2 ((hearC (G 211)).2.2 i_8 = 0) <<< (nI i_8 &&& 31)) (congrArg (fun t => t <<< (nI i_8 &&& 31)) (b2_t c_26).symm) ?_
          refine lv_ior hx hb dX8_wouldPass_39 ?_
          refine lv_istore_n (lv' := [(1, .int ((itr (fun q a => a ||| (b2 ((hearC (G 211)).2.2 q = 0) <<< (nI q &&& 31))) (nI 0) i_8) ||| (b2 ((hearC (G 211)).2.2 i_8 = 0) <<< (nI i_8 &&& 31)))), (0, .ref (ad 210)), (2, .int (nI i_8))]) hx hb dX8_wouldPass_40 rfl hl (by decide) rfl (fun ls hl => ?_)
          refine lv_iinc (v := nI (i_8 + 1)) (lv' := [(2, .int (nI (i_8 + 1))), (1, .int ((itr (fun q a => a ||| (b2 ((hearC (G 211)).2.2 q = 0) <<< (nI q &&& 31))) (nI 0) i_8) ||| (b2 ((hearC (G 211)).2.2 i_8 = 0) <<< (nI i_8 &&& 31)))), (0, .ref (ad 210))]) hx hb dX8_wouldPass_41 hl (k := 2) rfl (nI_addc (b := 1) (by omega)) (by decide) rfl (fun ls hl => ?_)
          refine lv_goto (tgt := 8) hx hb dX8_wouldPass_44 (by decide) ?_
          exact ih_8 (i_8 + 1) (by omega) (by omega) _ _ _ h (lv_sub hl [2, 1, 0] rfl)
  exact LP_8 (mn (G 211) + 1) 0 (by omega) (by omega) _ _ _ h (lv_sub hl [2, 1, 0] rfl)
set_option maxHeartbeats 4000000 in
set_option maxRecDepth 100000 in
theorem c_X8_heard (l : Launch) (J : JJ) (z : Nat) (ad : Nat → Nat) (G : GG) (hW : WR (G 211)) (x : Int32) : MI l J z ad yX8_heard cX8_heard 2 .int 3 [.ref (ad 210), .int x] G (fun ans uG => ∃ (og : Nat → Int32), ans = hdA (G 211) x ∧ uG = u1 G 213 og) := by
  refine MI.go (by decide) (Nat.le_of_ble_eq_true rfl) ?_
  intro pr e s m args below meth c ls Q X h hl hret
  have hx := X.1
  have hb := X.2.1
  have hown := X.2.2.2.1
  have hts := X.2.2.2.2
  have hl : lv_has ls 2 [(0, .ref (ad 210)), (1, .int x)] := hl
  have hW0 := hW
  obtain ⟨⟨w1, w2⟩, ⟨w3, w4⟩, ⟨w5, w6⟩, w7, w8⟩ := hW0
  refine lv_iload_n hx hb dX8_heard_0 rfl (lv_at hl 1 rfl) ?_
  refine lv_if_ge (tgt := 7) hx hb dX8_heard_1 (by decide) (fun c_1 => ?_) (fun c_1 => ?_)
  · refine lv_aload_n hx hb dX8_heard_7 rfl (lv_at hl 0 rfl) ?_
    refine lv_iconst (v := nI 0) hx hb dX8_heard_8 (by decide) ?_
    have hS0 : RG G 0 (G 211) = G := by
      have := RG_self G 0
      rw [rwS_0] at this
      exact this
    rw [← hS0] at h
    refine rg_cvv (As := [.int (nI 0)]) (rest := []) X hl.1 h (c_X8_sorts l J z ad G (G 211) 0 (by omega) hW) mw_378 mw_379 mw_380 mw_5 mw_381 pdX8_sorts (by decide) (xo_210 J ad _) rfl rfl ⟨Nat.le_of_ble_eq_true rfl, Nat.le_of_ble_eq_true rfl⟩ ⟨Nat.le_of_ble_eq_true rfl, Nat.le_of_ble_eq_true rfl⟩ rfl (Nat.le_of_ble_eq_true rfl) dX8_heard_9 (fun G1 H locs q1 h => ?_)
    obtain ⟨og, σ, rfl, hO, ho⟩ := q1
    refine lv_iload_n hx hb dX8_heard_12 rfl (lv_at hl 1 rfl) ?_
    refine lv_aload_n hx hb dX8_heard_13 rfl (lv_at hl 0 rfl) ?_
    refine fg_X8_7 X h dX8_heard_14 ?_
    refine lv_bipush (v := nI 6) hx hb dX8_heard_17 (by decide) ?_
    refine rs_ld X h 0 (6) (congrArg nI (by omega)) (by omega) dX8_heard_19 ?_
    refine lv_as (y := nI ((mn (G 211)))) ((congrFun (RG_row (u1 G 213 og) 0 (G 211)) _).trans (w3)) ?_
    refine lv_icmp_ge (tgt := 32) hx hb dX8_heard_20 (by decide) (fun c_20 => ?_) (fun c_20 => ?_)
    · refine lv_bipush (v := (-5)) hx hb dX8_heard_32 (by decide) ?_
      exact hret (-5) (RG (u1 G 213 og) 0 (G 211)) _ _ 34 _ (⟨og, by unfold hdA; rw [cif_f (Int32.not_lt.mpr (by exact c_1)), cif_f (fun q => Int32.not_le.mpr ((lt_isN (by omega)).mpr q).2 c_20)], by have e := RG_u1 (G := G) (B := 0) (r := G 211) (k := 213) (f := og) (by decide); rw [hS0] at e; exact e.symm⟩) h dX8_heard_34
    · obtain ⟨D, hD, rfl⟩ : isN x (mn (G 211)) := (lt_isN (by omega)).mp ⟨c_1, Int32.not_le.mp c_20⟩
      have TD : tn (nI D) = D := tn_nI (by omega)
      refine lv_aload_n hx hb dX8_heard_23 rfl (lv_at hl 0 rfl) ?_
      refine fg_X8_23 X h dX8_heard_24 ?_
      refine lv_iload_n hx hb dX8_heard_27 rfl (lv_at hl 1 rfl) ?_
      refine rg_ild X h 213 (by decide) (xa_213 J ad) (D) rfl (by omega) (by decide) dX8_heard_28 ?_
      refine lv_as (y := (u1 G 213 og) 213 D) (RG_get (by decide)) ?_
      refine lv_as (y := nI ((sg (G 211) D))) (by rw [u1_s, ho D hD, ord_uniq hO (sg_ok (G 211)) hD]) ?_
      refine lv_goto (tgt := 34) hx hb dX8_heard_29 (by decide) ?_
      exact hret (nI ((sg (G 211) D))) (RG (u1 G 213 og) 0 (G 211)) _ _ 34 _ (⟨og, by unfold hdA; rw [cif_f (Int32.not_lt.mpr c_1), cif_t ⟨D, hD, rfl⟩, TD], by have e := RG_u1 (G := G) (B := 0) (r := G 211) (k := 213) (f := og) (by decide); rw [hS0] at e; exact e.symm⟩) h dX8_heard_34
  · refine lv_bipush (v := (-2)) hx hb dX8_heard_4 (by decide) ?_
    exact hret (-2) G _ _ 6 _ (⟨G 213, by unfold hdA; rw [cif_t (Int32.not_le.mp c_1)], (u1_self G 213).symm⟩) h dX8_heard_6
set_option maxHeartbeats 4000000 in
set_option maxRecDepth 100000 in
theorem c_X8_count (l : Launch) (J : JJ) (z : Nat) (ad : Nat → Nat) (G : GG) (r : Nat → Int32) (hrow : rwS (G 211) 0 = r) (hW : WR r) (x : Int32) : MI l J z ad yX8_count cX8_count 2 .int 4 [.ref (ad 210), .int x] G (fun ans uG => ans = (ctA r (G 210 1) (G 210 4) x) ∧ uG = (G)) := by
  refine MI.go (by decide) (Nat.le_of_ble_eq_true rfl) ?_
  intro pr e s m args below meth c ls Q X h hl hret
  have hx := X.1
  have hb := X.2.1
  have hown := X.2.2.2.1
  have hts := X.2.2.2.2
  have hl : lv_has ls 2 [(0, .ref (ad 210)), (1, .int x)] := hl
  have hW0 := hW
  obtain ⟨⟨w1, w2⟩, ⟨w3, w4⟩, ⟨w5, w6⟩, w7, w8⟩ := hW
  refine lv_iload_n hx hb dX8_count_0 rfl (lv_at hl 1 rfl) ?_
  rcases Classical.em (isN x 16) with c_1 | c_1
  · obtain ⟨w_1, hw_1, e_1⟩ := c_1
    rcases (show w_1 = 0 ∨ w_1 = 1 ∨ w_1 = 2 ∨ w_1 = 3 ∨ w_1 = 4 ∨ w_1 = 5 ∨ w_1 = 6 ∨ w_1 = 7 ∨ w_1 = 8 ∨ w_1 = 9 ∨ w_1 = 10 ∨ w_1 = 11 ∨ w_1 = 12 ∨ w_1 = 13 ∨ w_1 = 14 ∨ w_1 = 15 by omega) with rfl | rfl | rfl | rfl | rfl | rfl | rfl | rfl | rfl | rfl | rfl | rfl | rfl | rfl | rfl | rfl
    · refine lv_as (y := nI 0) e_1 ?_
      refine lv_tableIn (off := 79) (tgt := 80) hx hb dX8_count_1 (by decide) (by decide) rfl (by decide) ?_
      rw [e_1] at hl
      refine lv_aload_n hx hb dX8_count_80 rfl (lv_at hl 0 rfl) ?_
      refine fg_X8_7 X h dX8_count_81 ?_
      refine lv_iconst (v := nI 2) hx hb dX8_count_84 (by decide) ?_
      refine lv_iload_n hx hb dX8_count_85 rfl (lv_at hl 1 rfl) ?_
      refine lv_iadd hx hb dX8_count_86 ?_
      refine lv_as (y := nI 2) (nI_addc (by omega)) ?_
      refine rs_ld X h 0 (2) (congrArg nI (by omega)) (by omega) dX8_count_87 ?_
      refine lv_as (y := r 2) (congrFun hrow _) ?_
      exact hret (r 2) G _ _ 88 _ (⟨by unfold ctA; rw [cif_t ⟨0, by omega, e_1⟩, e_1, tn_nI (by omega)]; rfl, rfl⟩) h dX8_count_88
    · refine lv_as (y := nI 1) e_1 ?_
      refine lv_tableIn (off := 79) (tgt := 80) hx hb dX8_count_1 (by decide) (by decide) rfl (by decide) ?_
      rw [e_1] at hl
      refine lv_aload_n hx hb dX8_count_80 rfl (lv_at hl 0 rfl) ?_
      refine fg_X8_7 X h dX8_count_81 ?_
      refine lv_iconst (v := nI 2) hx hb dX8_count_84 (by decide) ?_
      refine lv_iload_n hx hb dX8_count_85 rfl (lv_at hl 1 rfl) ?_
      refine lv_iadd hx hb dX8_count_86 ?_
      refine lv_as (y := nI 3) (nI_addc (by omega)) ?_
      refine rs_ld X h 0 (3) (congrArg nI (by omega)) (by omega) dX8_count_87 ?_
      refine lv_as (y := r 3) (congrFun hrow _) ?_
      exact hret (r 3) G _ _ 88 _ (⟨by unfold ctA; rw [cif_t ⟨1, by omega, e_1⟩, e_1, tn_nI (by omega)]; rfl, rfl⟩) h dX8_count_88
    · refine lv_as (y := nI 2) e_1 ?_
      refine lv_tableIn (off := 79) (tgt := 80) hx hb dX8_count_1 (by decide) (by decide) rfl (by decide) ?_
      rw [e_1] at hl
      refine lv_aload_n hx hb dX8_count_80 rfl (lv_at hl 0 rfl) ?_
      refine fg_X8_7 X h dX8_count_81 ?_
      refine lv_iconst (v := nI 2) hx hb dX8_count_84 (by decide) ?_
      refine lv_iload_n hx hb dX8_count_85 rfl (lv_at hl 1 rfl) ?_
      refine lv_iadd hx hb dX8_count_86 ?_
      refine lv_as (y := nI 4) (nI_addc (by omega)) ?_
      refine rs_ld X h 0 (4) (congrArg nI (by omega)) (by omega) dX8_count_87 ?_
      refine lv_as (y := r 4) (congrFun hrow _) ?_
      exact hret (r 4) G _ _ 88 _ (⟨by unfold ctA; rw [cif_t ⟨2, by omega, e_1⟩, e_1, tn_nI (by omega)]; rfl, rfl⟩) h dX8_count_88
    · refine lv_as (y := nI 3) e_1 ?_
      refine lv_tableIn (off := 79) (tgt := 80) hx hb dX8_count_1 (by decide) (by decide) rfl (by decide) ?_
      rw [e_1] at hl
      refine lv_aload_n hx hb dX8_count_80 rfl (lv_at hl 0 rfl) ?_
      refine fg_X8_7 X h dX8_count_81 ?_
      refine lv_iconst (v := nI 2) hx hb dX8_count_84 (by decide) ?_
      refine lv_iload_n hx hb dX8_count_85 rfl (lv_at hl 1 rfl) ?_
      refine lv_iadd hx hb dX8_count_86 ?_
      refine lv_as (y := nI 5) (nI_addc (by omega)) ?_
      refine rs_ld X h 0 (5) (congrArg nI (by omega)) (by omega) dX8_count_87 ?_
      refine lv_as (y := r 5) (congrFun hrow _) ?_
      exact hret (r 5) G _ _ 88 _ (⟨by unfold ctA; rw [cif_t ⟨3, by omega, e_1⟩, e_1, tn_nI (by omega)]; rfl, rfl⟩) h dX8_count_88
    · refine lv_as (y := nI 4) e_1 ?_
      refine lv_tableIn (off := 88) (tgt := 89) hx hb dX8_count_1 (by decide) (by decide) rfl (by decide) ?_
      rw [e_1] at hl
      refine lv_aload_n hx hb dX8_count_89 rfl (lv_at hl 0 rfl) ?_
      refine lv_iload_n hx hb dX8_count_90 rfl (lv_at hl 1 rfl) ?_
      refine lv_iconst (v := nI 5) hx hb dX8_count_91 (by decide) ?_
      refine lv_icmp_ne (tgt := 99) hx hb dX8_count_92 (by decide) (fun c_92 => ?_) (fun c_92 => absurd c_92 (by decide))
      refine lv_iconst (v := nI 0) hx hb dX8_count_99 (by decide) ?_
      refine rg_civd (As := [.int (nI 0)]) (rest := []) X hl.1 h (c_X8_bylaws0 l J z ad G r hrow hW0) mw_573 mw_574 mw_575 mw_5 mw_576 pdX8_bylaws (by decide) (xo_210 J ad _) rfl rfl ⟨Nat.le_of_ble_eq_true rfl, Nat.le_of_ble_eq_true rfl⟩ ⟨Nat.le_of_ble_eq_true rfl, Nat.le_of_ble_eq_true rfl⟩ rfl (Nat.le_of_ble_eq_true rfl) dX8_count_100 (fun H locs h => ?_)
      exact hret (nI ((cnt (LW r) 140))) G _ _ 103 _ (⟨by unfold ctA; rw [cif_t ⟨4, by omega, e_1⟩, e_1, tn_nI (by omega)]; rfl, rfl⟩) h dX8_count_103
    · refine lv_as (y := nI 5) e_1 ?_
      refine lv_tableIn (off := 88) (tgt := 89) hx hb dX8_count_1 (by decide) (by decide) rfl (by decide) ?_
      rw [e_1] at hl
      refine lv_aload_n hx hb dX8_count_89 rfl (lv_at hl 0 rfl) ?_
      refine lv_iload_n hx hb dX8_count_90 rfl (lv_at hl 1 rfl) ?_
      refine lv_iconst (v := nI 5) hx hb dX8_count_91 (by decide) ?_
      refine lv_icmp_ne (tgt := 99) hx hb dX8_count_92 (by decide) (fun c_92 => absurd (by decide) c_92) (fun c_92 => ?_)
      refine lv_iconst (v := nI 1) hx hb dX8_count_95 (by decide) ?_
      refine lv_goto (tgt := 100) hx hb dX8_count_96 (by decide) ?_
      refine rg_civd (As := [.int (nI 1)]) (rest := []) X hl.1 h (c_X8_bylaws1 l J z ad G r hrow hW0) mw_573 mw_574 mw_575 mw_5 mw_576 pdX8_bylaws (by decide) (xo_210 J ad _) rfl rfl ⟨Nat.le_of_ble_eq_true rfl, Nat.le_of_ble_eq_true rfl⟩ ⟨Nat.le_of_ble_eq_true rfl, Nat.le_of_ble_eq_true rfl⟩ rfl (Nat.le_of_ble_eq_true rfl) dX8_count_100 (fun H locs h => ?_)
      exact hret (nI ((cnt (fun k => r (3 * k + 192) = nI 0) 140))) G _ _ 103 _ (⟨by unfold ctA; rw [cif_t ⟨5, by omega, e_1⟩, e_1, tn_nI (by omega)]; rfl, rfl⟩) h dX8_count_103
    · refine lv_as (y := nI 6) e_1 ?_
      refine lv_tableIn (off := 103) (tgt := 104) hx hb dX8_count_1 (by decide) (by decide) rfl (by decide) ?_
      rw [e_1] at hl
      refine lv_aload_n hx hb dX8_count_104 rfl (lv_at hl 0 rfl) ?_
      refine fg_X8_7 X h dX8_count_105 ?_
      refine lv_bipush (v := nI 6) hx hb dX8_count_108 (by decide) ?_
      refine lv_iload_n hx hb dX8_count_110 rfl (lv_at hl 1 rfl) ?_
      refine lv_iadd hx hb dX8_count_111 ?_
      refine lv_as (y := nI 12) (nI_addc (by omega)) ?_
      refine lv_bipush (v := nI 6) hx hb dX8_count_112 (by decide) ?_
      refine lv_isub hx hb dX8_count_114 ?_
      refine lv_as (y := nI 6) (nI_subc (by omega)) ?_
      refine rs_ld X h 0 (6) (congrArg nI (by omega)) (by omega) dX8_count_115 ?_
      refine lv_as (y := r 6) (congrFun hrow _) ?_
      exact hret (r 6) G _ _ 116 _ (⟨by unfold ctA; rw [cif_t ⟨6, by omega, e_1⟩, e_1, tn_nI (by omega)]; rfl, rfl⟩) h dX8_count_116
    · refine lv_as (y := nI 7) e_1 ?_
      refine lv_tableIn (off := 103) (tgt := 104) hx hb dX8_count_1 (by decide) (by decide) rfl (by decide) ?_
      rw [e_1] at hl
      refine lv_aload_n hx hb dX8_count_104 rfl (lv_at hl 0 rfl) ?_
      refine fg_X8_7 X h dX8_count_105 ?_
      refine lv_bipush (v := nI 6) hx hb dX8_count_108 (by decide) ?_
      refine lv_iload_n hx hb dX8_count_110 rfl (lv_at hl 1 rfl) ?_
      refine lv_iadd hx hb dX8_count_111 ?_
      refine lv_as (y := nI 13) (nI_addc (by omega)) ?_
      refine lv_bipush (v := nI 6) hx hb dX8_count_112 (by decide) ?_
      refine lv_isub hx hb dX8_count_114 ?_
      refine lv_as (y := nI 7) (nI_subc (by omega)) ?_
      refine rs_ld X h 0 (7) (congrArg nI (by omega)) (by omega) dX8_count_115 ?_
      refine lv_as (y := r 7) (congrFun hrow _) ?_
      exact hret (r 7) G _ _ 116 _ (⟨by unfold ctA; rw [cif_t ⟨7, by omega, e_1⟩, e_1, tn_nI (by omega)]; rfl, rfl⟩) h dX8_count_116
    · refine lv_as (y := nI 8) e_1 ?_
      refine lv_tableIn (off := 103) (tgt := 104) hx hb dX8_count_1 (by decide) (by decide) rfl (by decide) ?_
      rw [e_1] at hl
      refine lv_aload_n hx hb dX8_count_104 rfl (lv_at hl 0 rfl) ?_
      refine fg_X8_7 X h dX8_count_105 ?_
      refine lv_bipush (v := nI 6) hx hb dX8_count_108 (by decide) ?_
      refine lv_iload_n hx hb dX8_count_110 rfl (lv_at hl 1 rfl) ?_
      refine lv_iadd hx hb dX8_count_111 ?_
      refine lv_as (y := nI 14) (nI_addc (by omega)) ?_
      refine lv_bipush (v := nI 6) hx hb dX8_count_112 (by decide) ?_
      refine lv_isub hx hb dX8_count_114 ?_
      refine lv_as (y := nI 8) (nI_subc (by omega)) ?_
      refine rs_ld X h 0 (8) (congrArg nI (by omega)) (by omega) dX8_count_115 ?_
      refine lv_as (y := r 8) (congrFun hrow _) ?_
      exact hret (r 8) G _ _ 116 _ (⟨by unfold ctA; rw [cif_t ⟨8, by omega, e_1⟩, e_1, tn_nI (by omega)]; rfl, rfl⟩) h dX8_count_116
    · refine lv_as (y := nI 9) e_1 ?_
      refine lv_tableIn (off := 103) (tgt := 104) hx hb dX8_count_1 (by decide) (by decide) rfl (by decide) ?_
      rw [e_1] at hl
      refine lv_aload_n hx hb dX8_count_104 rfl (lv_at hl 0 rfl) ?_
      refine fg_X8_7 X h dX8_count_105 ?_
      refine lv_bipush (v := nI 6) hx hb dX8_count_108 (by decide) ?_
      refine lv_iload_n hx hb dX8_count_110 rfl (lv_at hl 1 rfl) ?_
      refine lv_iadd hx hb dX8_count_111 ?_
      refine lv_as (y := nI 15) (nI_addc (by omega)) ?_
      refine lv_bipush (v := nI 6) hx hb dX8_count_112 (by decide) ?_
      refine lv_isub hx hb dX8_count_114 ?_
      refine lv_as (y := nI 9) (nI_subc (by omega)) ?_
      refine rs_ld X h 0 (9) (congrArg nI (by omega)) (by omega) dX8_count_115 ?_
      refine lv_as (y := r 9) (congrFun hrow _) ?_
      exact hret (r 9) G _ _ 116 _ (⟨by unfold ctA; rw [cif_t ⟨9, by omega, e_1⟩, e_1, tn_nI (by omega)]; rfl, rfl⟩) h dX8_count_116
    · refine lv_as (y := nI 10) e_1 ?_
      refine lv_tableIn (off := 103) (tgt := 104) hx hb dX8_count_1 (by decide) (by decide) rfl (by decide) ?_
      rw [e_1] at hl
      refine lv_aload_n hx hb dX8_count_104 rfl (lv_at hl 0 rfl) ?_
      refine fg_X8_7 X h dX8_count_105 ?_
      refine lv_bipush (v := nI 6) hx hb dX8_count_108 (by decide) ?_
      refine lv_iload_n hx hb dX8_count_110 rfl (lv_at hl 1 rfl) ?_
      refine lv_iadd hx hb dX8_count_111 ?_
      refine lv_as (y := nI 16) (nI_addc (by omega)) ?_
      refine lv_bipush (v := nI 6) hx hb dX8_count_112 (by decide) ?_
      refine lv_isub hx hb dX8_count_114 ?_
      refine lv_as (y := nI 10) (nI_subc (by omega)) ?_
      refine rs_ld X h 0 (10) (congrArg nI (by omega)) (by omega) dX8_count_115 ?_
      refine lv_as (y := r 10) (congrFun hrow _) ?_
      exact hret (r 10) G _ _ 116 _ (⟨by unfold ctA; rw [cif_t ⟨10, by omega, e_1⟩, e_1, tn_nI (by omega)]; rfl, rfl⟩) h dX8_count_116
    · refine lv_as (y := nI 11) e_1 ?_
      refine lv_tableIn (off := 116) (tgt := 117) hx hb dX8_count_1 (by decide) (by decide) rfl (by decide) ?_
      rw [e_1] at hl
      refine lv_aload_n hx hb dX8_count_117 rfl (lv_at hl 0 rfl) ?_
      refine rg_civd (As := []) (rest := []) X hl.1 h (c_X8_forbiddenAtCombs l J z ad G r hrow hW0) mw_777 mw_778 mw_779 mw_5 mw_780 pdX8_forbiddenAtCombs (by decide) (xo_210 J ad _) rfl rfl ⟨Nat.le_of_ble_eq_true rfl, Nat.le_of_ble_eq_true rfl⟩ ⟨Nat.le_of_ble_eq_true rfl, Nat.le_of_ble_eq_true rfl⟩ rfl (Nat.le_of_ble_eq_true rfl) dX8_count_118 (fun H locs h => ?_)
      exact hret (nI ((cnt (fun k => ¬ alw r (k / 20) (k % 20)) 120))) G _ _ 121 _ (⟨by unfold ctA; rw [cif_t ⟨11, by omega, e_1⟩, e_1, tn_nI (by omega)]; rfl, rfl⟩) h dX8_count_121
    · refine lv_as (y := nI 12) e_1 ?_
      refine lv_tableIn (off := 121) (tgt := 122) hx hb dX8_count_1 (by decide) (by decide) rfl (by decide) ?_
      rw [e_1] at hl
      refine lv_aload_n hx hb dX8_count_122 rfl (lv_at hl 0 rfl) ?_
      refine fg_X8_7 X h dX8_count_123 ?_
      refine lv_iload_n hx hb dX8_count_126 rfl (lv_at hl 1 rfl) ?_
      refine lv_bipush (v := nI 12) hx hb dX8_count_127 (by decide) ?_
      refine lv_isub hx hb dX8_count_129 ?_
      refine lv_as (y := nI 0) (nI_subc (by omega)) ?_
      refine rs_ld X h 0 (0) (congrArg nI (by omega)) (by omega) dX8_count_130 ?_
      refine lv_as (y := r 0) (congrFun hrow _) ?_
      exact hret (r 0) G _ _ 131 _ (⟨by unfold ctA; rw [cif_t ⟨12, by omega, e_1⟩, e_1, tn_nI (by omega)]; rfl, rfl⟩) h dX8_count_131
    · refine lv_as (y := nI 13) e_1 ?_
      refine lv_tableIn (off := 121) (tgt := 122) hx hb dX8_count_1 (by decide) (by decide) rfl (by decide) ?_
      rw [e_1] at hl
      refine lv_aload_n hx hb dX8_count_122 rfl (lv_at hl 0 rfl) ?_
      refine fg_X8_7 X h dX8_count_123 ?_
      refine lv_iload_n hx hb dX8_count_126 rfl (lv_at hl 1 rfl) ?_
      refine lv_bipush (v := nI 12) hx hb dX8_count_127 (by decide) ?_
      refine lv_isub hx hb dX8_count_129 ?_
      refine lv_as (y := nI 1) (nI_subc (by omega)) ?_
      refine rs_ld X h 0 (1) (congrArg nI (by omega)) (by omega) dX8_count_130 ?_
      refine lv_as (y := r 1) (congrFun hrow _) ?_
      exact hret (r 1) G _ _ 131 _ (⟨by unfold ctA; rw [cif_t ⟨13, by omega, e_1⟩, e_1, tn_nI (by omega)]; rfl, rfl⟩) h dX8_count_131
    · refine lv_as (y := nI 14) e_1 ?_
      refine lv_tableIn (off := 131) (tgt := 132) hx hb dX8_count_1 (by decide) (by decide) rfl (by decide) ?_
      rw [e_1] at hl
      refine lv_aload_n hx hb dX8_count_132 rfl (lv_at hl 0 rfl) ?_
      refine fg_X8_29 X h dX8_count_133 ?_
      exact hret (G 210 1) G _ _ 136 _ (⟨by unfold ctA; rw [cif_t ⟨14, by omega, e_1⟩, e_1, tn_nI (by omega)]; rfl, rfl⟩) h dX8_count_136
    · refine lv_as (y := nI 15) e_1 ?_
      refine lv_tableIn (off := 136) (tgt := 137) hx hb dX8_count_1 (by decide) (by decide) rfl (by decide) ?_
      rw [e_1] at hl
      refine lv_aload_n hx hb dX8_count_137 rfl (lv_at hl 0 rfl) ?_
      refine fg_X8_121 X h dX8_count_138 ?_
      exact hret (G 210 4) G _ _ 141 _ (⟨by unfold ctA; rw [cif_t ⟨15, by omega, e_1⟩, e_1, tn_nI (by omega)]; rfl, rfl⟩) h dX8_count_141
  · refine lv_tableOut (tgt := 142) hx hb dX8_count_1 (sw_out (by decide) c_1) (by decide) ?_
    refine lv_bipush (v := (-2)) hx hb dX8_count_142 (by decide) ?_
    exact hret (-2) G _ _ 144 _ (⟨by unfold ctA; rw [cif_f c_1], rfl⟩) h dX8_count_144
set_option maxHeartbeats 4000000 in
set_option maxRecDepth 100000 in
theorem c_X8_keep (l : Launch) (J : JJ) (z : Nat) (ad : Nat → Nat) (G : GG) (hW : WR (G 211)) : MI l J z ad yX8_keep cX8_keep 1 .int 2 [.ref (ad 210)] G (fun ans uG => ans = (nI (cnt (LW (G 211)) 140)) ∧ uG = (u1 (u1 G 211 (cpS (G 211) 0 5)) 210 (upd (G 210) 2 (nI 1)))) := by
  refine MI.go (by decide) (Nat.le_of_ble_eq_true rfl) ?_
  intro pr e s m args below meth c ls Q X h hl hret
  have hx := X.1
  have hb := X.2.1
  have hown := X.2.2.2.1
  have hts := X.2.2.2.2
  have hl : lv_has ls 1 [(0, .ref (ad 210))] := hl
  refine lv_aload_n hx hb dX8_keep_0 rfl (lv_at hl 0 rfl) ?_
  refine lv_iconst (v := nI 0) hx hb dX8_keep_1 (by decide) ?_
  refine lv_iconst (v := nI 5) hx hb dX8_keep_2 (by decide) ?_
  refine rg_cvvd (As := [.int (nI 0), .int (nI 5)]) (rest := []) X hl.1 h (c_X8_copies l J z ad G 0 5 (by omega) (by omega) (by omega)) mw_176 mw_177 mw_178 mw_5 mw_179 pdX8_copies (by decide) (xo_210 J ad _) rfl rfl ⟨Nat.le_of_ble_eq_true rfl, Nat.le_of_ble_eq_true rfl⟩ ⟨Nat.le_of_ble_eq_true rfl, Nat.le_of_ble_eq_true rfl⟩ rfl (Nat.le_of_ble_eq_true rfl) dX8_keep_3 (fun H locs h => ?_)
  refine lv_aload_n hx hb dX8_keep_6 rfl (lv_at hl 0 rfl) ?_
  refine lv_iconst (v := nI 1) hx hb dX8_keep_7 (by decide) ?_
  refine fp_X8_166 X h (by decide) (by decide) dX8_keep_8 (fun H locs h => ?_)
  refine lv_aload_n hx hb dX8_keep_11 rfl (lv_at hl 0 rfl) ?_
  refine lv_iconst (v := nI 0) hx hb dX8_keep_12 (by decide) ?_
  rw [u1_n (show (210 : Nat) ≠ 211 by decide)] at h
  have hq := cpS_0 (G 211) (a := 5) (by omega)
  refine rg_civd (As := [.int (nI 0)]) (rest := []) X hl.1 h (c_X8_bylaws0 l J z ad (u1 (u1 G 211 (cpS (G 211) 0 5)) 210 (upd (G 210) 2 (nI 1))) (cpS (G 211) 0 5) (by rw [rwS_0, u1_n (by decide), u1_s]) (req_WR hq hW)) mw_573 mw_574 mw_575 mw_5 mw_576 pdX8_bylaws (by decide) (xo_210 J ad _) rfl rfl ⟨Nat.le_of_ble_eq_true rfl, Nat.le_of_ble_eq_true rfl⟩ ⟨Nat.le_of_ble_eq_true rfl, Nat.le_of_ble_eq_true rfl⟩ rfl (Nat.le_of_ble_eq_true rfl) dX8_keep_13 (fun H locs h => ?_)
  exact hret (nI ((cnt (LW (cpS (G 211) 0 5)) 140))) (u1 (u1 G 211 (cpS (G 211) 0 5)) 210 (upd (G 210) 2 (nI 1))) _ _ 16 _ (⟨by rw [cntLW_req hq (by omega)], rfl⟩) h dX8_keep_16
set_option maxHeartbeats 4000000 in
set_option maxRecDepth 100000 in
theorem c_X8_restore (l : Launch) (J : JJ) (z : Nat) (ad : Nat → Nat) (G : GG) (n : Nat) (hn : G 210 1 = nI n) (hn4 : n ≤ 4) (hW : ¬ G 210 2 = 0 → WR (rwS (G 211) 3060)) : MI l J z ad yX8_restore cX8_restore 1 .int 2 [.ref (ad 210)] G (fun ans uG => ans = (if G 210 2 = 0 then (-5) else nI (cnt (LW (rwS (G 211) 3060)) 140)) ∧ uG = (if G 210 2 = 0 then G else u1 (u1 G 211 (cpS (rcS (G 211) n 0) 5 0)) 210 (upd (G 210) 1 (nI (if n = 4 then 4 else n + 1))))) := by
  refine MI.go (by decide) (Nat.le_of_ble_eq_true rfl) ?_
  intro pr e s m args below meth c ls Q X h hl hret
  have hx := X.1
  have hb := X.2.1
  have hown := X.2.2.2.1
  have hts := X.2.2.2.2
  have hl : lv_has ls 1 [(0, .ref (ad 210))] := hl
  refine lv_aload_n hx hb dX8_restore_0 rfl (lv_at hl 0 rfl) ?_
  refine fg_X8_166 X h dX8_restore_1 ?_
  refine lv_if_ne (tgt := 10) hx hb dX8_restore_4 (by decide) (fun c_4 => ?_) (fun c_4 => ?_)
  · refine lv_aload_n hx hb dX8_restore_10 rfl (lv_at hl 0 rfl) ?_
    refine lv_iconst (v := nI 0) hx hb dX8_restore_11 (by decide) ?_
    refine rg_cvvd (As := [.int (nI 0)]) (rest := []) X hl.1 h (c_X8_records l J z ad G n 0 hn hn4 (Or.inl rfl)) mw_197 mw_198 mw_199 mw_5 mw_200 pdX8_records (by decide) (xo_210 J ad _) rfl rfl ⟨Nat.le_of_ble_eq_true rfl, Nat.le_of_ble_eq_true rfl⟩ ⟨Nat.le_of_ble_eq_true rfl, Nat.le_of_ble_eq_true rfl⟩ rfl (Nat.le_of_ble_eq_true rfl) dX8_restore_12 (fun H locs h => ?_)
    refine lv_aload_n hx hb dX8_restore_15 rfl (lv_at hl 0 rfl) ?_
    refine lv_iconst (v := nI 5) hx hb dX8_restore_16 (by decide) ?_
    refine lv_iconst (v := nI 0) hx hb dX8_restore_17 (by decide) ?_
    refine rg_cvvd (As := [.int (nI 5), .int (nI 0)]) (rest := []) X hl.1 h (c_X8_copies l J z ad (u1 (u1 G 211 (rcS (G 211) n 0)) 210 (upd (G 210) 1 (nI (if n = 4 then 4 else n + 1)))) 5 0 (by omega) (by omega) (by omega)) mw_176 mw_177 mw_178 mw_5 mw_179 pdX8_copies (by decide) (xo_210 J ad _) rfl rfl ⟨Nat.le_of_ble_eq_true rfl, Nat.le_of_ble_eq_true rfl⟩ ⟨Nat.le_of_ble_eq_true rfl, Nat.le_of_ble_eq_true rfl⟩ rfl (Nat.le_of_ble_eq_true rfl) dX8_restore_18 (fun H locs h => ?_)
    rw [u1_comm (show (210 : Nat) ≠ 211 by decide), u1_u1, u1_n (show (211 : Nat) ≠ 210 by decide), u1_s] at h
    refine lv_aload_n hx hb dX8_restore_21 rfl (lv_at hl 0 rfl) ?_
    refine lv_iconst (v := nI 0) hx hb dX8_restore_22 (by decide) ?_
    have hq : REq (rwS (G 211) 3060) (cpS (rcS (G 211) n 0) 5 0) := rcS_5 (G 211) n
    have hW5 := hW c_4
    refine rg_civd (As := [.int (nI 0)]) (rest := []) X hl.1 h (c_X8_bylaws0 l J z ad (u1 (u1 G 211 (cpS (rcS (G 211) n 0) 5 0)) 210 (upd (G 210) 1 (nI (if n = 4 then 4 else n + 1)))) (cpS (rcS (G 211) n 0) 5 0) (by rw [rwS_0, u1_n (by decide), u1_s]) (req_WR hq hW5)) mw_573 mw_574 mw_575 mw_5 mw_576 pdX8_bylaws (by decide) (xo_210 J ad _) rfl rfl ⟨Nat.le_of_ble_eq_true rfl, Nat.le_of_ble_eq_true rfl⟩ ⟨Nat.le_of_ble_eq_true rfl, Nat.le_of_ble_eq_true rfl⟩ rfl (Nat.le_of_ble_eq_true rfl) dX8_restore_23 (fun H locs h => ?_)
    exact hret (nI ((cnt (LW (cpS (rcS (G 211) n 0) 5 0)) 140))) (u1 (u1 G 211 (cpS (rcS (G 211) n 0) 5 0)) 210 (upd (G 210) 1 (nI (if n = 4 then 4 else n + 1)))) _ _ 26 _ (⟨by rw [if_neg c_4, cntLW_req hq (by omega)], by rw [if_neg c_4]⟩) h dX8_restore_26
  · refine lv_bipush (v := (-5)) hx hb dX8_restore_7 (by decide) ?_
    exact hret (-5) G _ _ 9 _ (⟨by rw [if_pos c_4], by rw [if_pos c_4]⟩) h dX8_restore_9
set_option maxHeartbeats 4000000 in
set_option maxRecDepth 100000 in
theorem c_X8_undo (l : Launch) (J : JJ) (z : Nat) (ad : Nat → Nat) (G : GG) (n : Nat) (hn : G 210 1 = nI n) (hn4 : n ≤ 4) : MI l J z ad yX8_undo cX8_undo 1 .int 1 [.ref (ad 210)] G (fun ans uG => ans = (if n = 0 then (-5) else nI (n - 1)) ∧ uG = (if n = 0 then G else u1 (u1 G 211 (cpS (G 211) n 0)) 210 (upd (G 210) 1 (nI (n - 1))))) := by
  refine MI.go (by decide) (Nat.le_of_ble_eq_true rfl) ?_
  intro pr e s m args below meth c ls Q X h hl hret
  have hx := X.1
  have hb := X.2.1
  have hown := X.2.2.2.1
  have hts := X.2.2.2.2
  have hl : lv_has ls 1 [(0, .ref (ad 210))] := hl
  refine lv_aload_n hx hb dX8_undo_0 rfl (lv_at hl 0 rfl) ?_
  refine fg_X8_29 X h dX8_undo_1 ?_
  refine lv_as (y := nI n) (hn) ?_
  refine lv_if_ne (tgt := 10) hx hb dX8_undo_4 (by decide) (fun c_4 => ?_) (fun c_4 => ?_)
  · rw [nz_eq (by omega)] at c_4
    refine lv_aload_n hx hb dX8_undo_10 rfl (lv_at hl 0 rfl) ?_
    refine lv_aload_n hx hb dX8_undo_11 rfl (lv_at hl 0 rfl) ?_
    refine fg_X8_29 X h dX8_undo_12 ?_
    refine lv_as (y := nI n) (hn) ?_
    refine lv_iconst (v := nI 0) hx hb dX8_undo_15 (by decide) ?_
    refine rg_cvvd (As := [.int (nI n), .int (nI 0)]) (rest := []) X hl.1 h (c_X8_copies l J z ad G n 0 (by omega) (by omega) (by omega)) mw_176 mw_177 mw_178 mw_5 mw_179 pdX8_copies (by decide) (xo_210 J ad _) rfl rfl ⟨Nat.le_of_ble_eq_true rfl, Nat.le_of_ble_eq_true rfl⟩ ⟨Nat.le_of_ble_eq_true rfl, Nat.le_of_ble_eq_true rfl⟩ rfl (Nat.le_of_ble_eq_true rfl) dX8_undo_16 (fun H locs h => ?_)
    refine lv_aload_n hx hb dX8_undo_19 rfl (lv_at hl 0 rfl) ?_
    refine lv_dup hx hb dX8_undo_20 rfl ?_
    refine fg_X8_29 X h dX8_undo_21 ?_
    refine lv_as (y := nI n) (by rw [u1_n (by decide)]; exact hn) ?_
    refine lv_iconst (v := nI 1) hx hb dX8_undo_24 (by decide) ?_
    refine lv_isub hx hb dX8_undo_25 ?_
    refine lv_as (y := nI ((n - 1))) (nI_subc (by omega)) ?_
    refine fp_X8_29 X h dX8_undo_26 (fun H locs h => ?_)
    refine lv_aload_n hx hb dX8_undo_29 rfl (lv_at hl 0 rfl) ?_
    refine fg_X8_29 X h dX8_undo_30 ?_
    refine lv_as (y := nI ((n - 1))) (by rw [u1_s, upd_s]) ?_
    exact hret (nI ((n - 1))) (u1 (u1 G 211 (cpS (G 211) n 0)) 210 (upd ((u1 G 211 (cpS (G 211) n 0)) 210) 1 (nI ((n - 1))))) _ _ 33 _ (⟨by rw [if_neg c_4], by rw [if_neg c_4, u1_n (show (210 : Nat) ≠ 211 by decide)]⟩) h dX8_undo_33
  · rw [nz_eq (by omega)] at c_4
    refine lv_bipush (v := (-5)) hx hb dX8_undo_7 (by decide) ?_
    exact hret (-5) G _ _ 9 _ (⟨by rw [if_pos c_4], by rw [if_pos c_4]⟩) h dX8_undo_9
set_option maxHeartbeats 4000000 in
set_option maxRecDepth 100000 in
theorem c_X8_type (l : Launch) (J : JJ) (z : Nat) (ad : Nat → Nat) (G : GG) (n : Nat) (hn : G 210 4 = nI n) (hn60 : n ≤ 60) (x : Int32) : MI l J z ad yX8_type cX8_type 2 .int 0 [.ref (ad 210), .int x] G (fun ans uG => ans = (if n = 60 then (-3) else nI (n + 1)) ∧ uG = (if n = 60 then G else u1 (u1 G 212 (upd (G 212) n x)) 210 (upd (G 210) 4 (nI (n + 1))))) := by
  refine MI.go (by decide) (Nat.le_of_ble_eq_true rfl) ?_
  intro pr e s m args below meth c ls Q X h hl hret
  have hx := X.1
  have hb := X.2.1
  have hown := X.2.2.2.1
  have hts := X.2.2.2.2
  have hl : lv_has ls 2 [(0, .ref (ad 210)), (1, .int x)] := hl
  refine lv_aload_n hx hb dX8_type_0 rfl (lv_at hl 0 rfl) ?_
  refine fg_X8_121 X h dX8_type_1 ?_
  refine lv_as (y := nI n) (hn) ?_
  refine lv_bipush (v := nI 60) hx hb dX8_type_4 (by decide) ?_
  refine lv_icmp_ne (tgt := 12) hx hb dX8_type_6 (by decide) (fun c_6 => ?_) (fun c_6 => ?_)
  · rw [nI_eq (by omega) (by omega)] at c_6
    refine lv_aload_n hx hb dX8_type_12 rfl (lv_at hl 0 rfl) ?_
    refine fg_X8_13 X h dX8_type_13 ?_
    refine lv_aload_n hx hb dX8_type_16 rfl (lv_at hl 0 rfl) ?_
    refine fg_X8_121 X h dX8_type_17 ?_
    refine lv_as (y := nI n) (hn) ?_
    refine lv_iload_n hx hb dX8_type_20 rfl (lv_at hl 1 rfl) ?_
    refine rg_ist X h 212 (by decide) (xa_212 J ad) (n) rfl (by omega) (by decide) dX8_type_21 (fun H locs h => ?_)
    refine lv_aload_n hx hb dX8_type_22 rfl (lv_at hl 0 rfl) ?_
    refine lv_dup hx hb dX8_type_23 rfl ?_
    refine fg_X8_121 X h dX8_type_24 ?_
    refine lv_as (y := nI n) (by rw [u1_n (by decide)]; exact hn) ?_
    refine lv_iconst (v := nI 1) hx hb dX8_type_27 (by decide) ?_
    refine lv_iadd hx hb dX8_type_28 ?_
    refine lv_as (y := nI (n + 1)) (nI_addc (by omega)) ?_
    refine fp_X8_121 X h dX8_type_29 (fun H locs h => ?_)
    refine lv_aload_n hx hb dX8_type_32 rfl (lv_at hl 0 rfl) ?_
    refine fg_X8_121 X h dX8_type_33 ?_
    refine lv_as (y := nI (n + 1)) (by rw [u1_s, upd_s]) ?_
    exact hret (nI (n + 1)) (u1 (u1 G 212 (upd (G 212) n x)) 210 (upd ((u1 G 212 (upd (G 212) n x)) 210) 4 (nI (n + 1)))) _ _ 36 _ (⟨by rw [if_neg c_6], by rw [if_neg c_6, u1_n (show (210 : Nat) ≠ 212 by decide)]⟩) h dX8_type_36
  · rw [nI_eq (by omega) (by omega)] at c_6
    refine lv_bipush (v := (-3)) hx hb dX8_type_9 (by decide) ?_
    exact hret (-3) G _ _ 11 _ (⟨by rw [if_pos c_6], by rw [if_pos c_6]⟩) h dX8_type_11
set_option maxHeartbeats 4000000 in
set_option maxRecDepth 100000 in
theorem c_X8_clearText (l : Launch) (J : JJ) (z : Nat) (ad : Nat → Nat) (G : GG)  : MI l J z ad yX8_clearText cX8_clearText 2 .int 0 [.ref (ad 210)] G (fun ans uG => ans = (G 210 4) ∧ uG = (u1 G 210 (upd (G 210) 4 (nI 0)))) := by
  refine MI.go (by decide) (Nat.le_of_ble_eq_true rfl) ?_
  intro pr e s m args below meth c ls Q X h hl hret
  have hx := X.1
  have hb := X.2.1
  have hown := X.2.2.2.1
  have hts := X.2.2.2.2
  have hl : lv_has ls 2 [(0, .ref (ad 210))] := hl
  refine lv_aload_n hx hb dX8_clearText_0 rfl (lv_at hl 0 rfl) ?_
  refine fg_X8_121 X h dX8_clearText_1 ?_
  refine lv_istore_n (lv' := [(1, .int (G 210 4)), (0, .ref (ad 210))]) hx hb dX8_clearText_4 rfl hl (by decide) rfl (fun ls hl => ?_)
  refine lv_aload_n hx hb dX8_clearText_5 rfl (lv_at hl 1 rfl) ?_
  refine lv_iconst (v := nI 0) hx hb dX8_clearText_6 (by decide) ?_
  refine fp_X8_121 X h dX8_clearText_7 (fun H locs h => ?_)
  refine lv_iload_n hx hb dX8_clearText_10 rfl (lv_at hl 0 rfl) ?_
  exact hret (G 210 4) (u1 G 210 (upd (G 210) 4 (nI 0))) _ _ 11 _ (⟨rfl, rfl⟩) h dX8_clearText_11
set_option maxHeartbeats 4000000 in
set_option maxRecDepth 100000 in
theorem c_X8_stopped (l : Launch) (J : JJ) (z : Nat) (ad : Nat → Nat) (G : GG) (x : Int32) : MI l J z ad yX8_stopped cX8_stopped 2 .int 1 [.ref (ad 210), .int x] G (fun ans uG => ans = (cif (inN x 0 1) (if x = 0 then G 210 5 else G 210 6) (-2)) ∧ uG = (G)) := by
  refine MI.go (by decide) (Nat.le_of_ble_eq_true rfl) ?_
  intro pr e s m args below meth c ls Q X h hl hret
  have hx := X.1
  have hb := X.2.1
  have hown := X.2.2.2.1
  have hts := X.2.2.2.2
  have hl : lv_has ls 2 [(0, .ref (ad 210)), (1, .int x)] := hl
  refine lv_iload_n hx hb dX8_stopped_0 rfl (lv_at hl 1 rfl) ?_
  refine lv_iconst (v := nI 0) hx hb dX8_stopped_1 (by decide) ?_
  refine lv_iconst (v := nI 1) hx hb dX8_stopped_2 (by decide) ?_
  refine rg_cisd (As := [.int x, .int (nI 0), .int (nI 1)]) (rest := []) X hl.1 h (c_X8_inN l J z ad G x 0 1 (by omega) (by omega)) mw_187 mw_188 mw_5 mw_189 pdX8_in ⟨Nat.le_of_ble_eq_true rfl, Nat.le_of_ble_eq_true rfl⟩ ⟨Nat.le_of_ble_eq_true rfl, Nat.le_of_ble_eq_true rfl⟩ rfl (Nat.le_of_ble_eq_true rfl) dX8_stopped_3 (fun H locs h => ?_)
  refine lv_if_ne (tgt := 14) hx hb dX8_stopped_6 (by decide) (fun c_6 => ?_) (fun c_6 => ?_)
  · rw [b2_z] at c_6
    refine lv_iload_n hx hb dX8_stopped_14 rfl (lv_at hl 1 rfl) ?_
    refine lv_if_ne (tgt := 25) hx hb dX8_stopped_15 (by decide) (fun c_15 => ?_) (fun c_15 => ?_)
    · refine lv_aload_n hx hb dX8_stopped_25 rfl (lv_at hl 0 rfl) ?_
      refine fg_X8_20 X h dX8_stopped_26 ?_
      exact hret (G 210 6) G _ _ 29 _ (⟨by rw [cif_t (Classical.not_not.mp c_6), if_neg c_15], rfl⟩) h dX8_stopped_29
    · refine lv_aload_n hx hb dX8_stopped_18 rfl (lv_at hl 0 rfl) ?_
      refine fg_X8_16 X h dX8_stopped_19 ?_
      refine lv_goto (tgt := 29) hx hb dX8_stopped_22 (by decide) ?_
      exact hret (G 210 5) G _ _ 29 _ (⟨by rw [cif_t (Classical.not_not.mp c_6), if_pos c_15], rfl⟩) h dX8_stopped_29
  · rw [b2_z] at c_6
    refine lv_bipush (v := (-2)) hx hb dX8_stopped_9 (by decide) ?_
    refine lv_goto (tgt := 29) hx hb dX8_stopped_11 (by decide) ?_
    exact hret (-2) G _ _ 29 _ (⟨by rw [cif_f c_6], rfl⟩) h dX8_stopped_29
set_option maxHeartbeats 4000000 in
set_option maxRecDepth 100000 in
theorem c_X8_come (l : Launch) (J : JJ) (z : Nat) (ad : Nat → Nat) (G : GG) (n : Nat) (hn : G 210 1 = nI n) (hn4 : n ≤ 4) (hW : WR (G 211)) (x w : Int32) : MI l J z ad yX8_come cX8_come 3 .int 3 [.ref (ad 210), .int x, .int w] G (fun ans uG => ans = (cmA (cpS (G 211) 0 6) x w) ∧ uG = (actG G n (cmA (cpS (G 211) 0 6) x w) (cmR (cpS (G 211) 0 6) x w))) := by
  refine MI.go (by decide) (Nat.le_of_ble_eq_true rfl) ?_
  intro pr e s m args below meth c ls Q X h hl hret
  have hx := X.1
  have hb := X.2.1
  have hown := X.2.2.2.1
  have hts := X.2.2.2.2
  have hl : lv_has ls 3 [(0, .ref (ad 210)), (1, .int x), (2, .int w)] := hl
  refine lv_aload_n hx hb dX8_come_0 rfl (lv_at hl 0 rfl) ?_
  refine lv_iconst (v := nI 0) hx hb dX8_come_1 (by decide) ?_
  refine lv_bipush (v := nI 6) hx hb dX8_come_2 (by decide) ?_
  refine rg_cvvd (As := [.int (nI 0), .int (nI 6)]) (rest := []) X hl.1 h (c_X8_copies l J z ad G 0 6 (by omega) (by omega) (by omega)) mw_176 mw_177 mw_178 mw_5 mw_179 pdX8_copies (by decide) (xo_210 J ad _) rfl rfl ⟨Nat.le_of_ble_eq_true rfl, Nat.le_of_ble_eq_true rfl⟩ ⟨Nat.le_of_ble_eq_true rfl, Nat.le_of_ble_eq_true rfl⟩ rfl (Nat.le_of_ble_eq_true rfl) dX8_come_4 (fun H locs h => ?_)
  rw [← RG_0] at h
  have hW1 := req_WR (cpS_0 (G 211) (a := 6) (by omega)) hW
  refine lv_aload_n hx hb dX8_come_7 rfl (lv_at hl 0 rfl) ?_
  refine lv_aload_n hx hb dX8_come_8 rfl (lv_at hl 0 rfl) ?_
  refine lv_iload_n hx hb dX8_come_9 rfl (lv_at hl 1 rfl) ?_
  refine lv_iload_n hx hb dX8_come_10 rfl (lv_at hl 2 rfl) ?_
  refine rg_civd (As := [.int x, .int w]) (rest := [.ref (ad 210)]) X hl.1 h (c_X8_comes l J z ad G (cpS (G 211) 0 6) hW1 x w) mw_180 mw_181 mw_182 mw_5 mw_183 pdX8_comes (by decide) (xo_210 J ad _) rfl rfl ⟨Nat.le_of_ble_eq_true rfl, Nat.le_of_ble_eq_true rfl⟩ ⟨Nat.le_of_ble_eq_true rfl, Nat.le_of_ble_eq_true rfl⟩ rfl (Nat.le_of_ble_eq_true rfl) dX8_come_11 (fun H locs h => ?_)
  rw [RG_0] at h
  refine rg_civd (As := [.int (cmA (cpS (G 211) 0 6) x w)]) (rest := []) X hl.1 h (c_X8_done l J z ad G (cmR (cpS (G 211) 0 6) x w) n (hn) hn4 (cmA (cpS (G 211) 0 6) x w)) mw_193 mw_194 mw_195 mw_5 mw_196 pdX8_done (by decide) (xo_210 J ad _) rfl rfl ⟨Nat.le_of_ble_eq_true rfl, Nat.le_of_ble_eq_true rfl⟩ ⟨Nat.le_of_ble_eq_true rfl, Nat.le_of_ble_eq_true rfl⟩ rfl (Nat.le_of_ble_eq_true rfl) dX8_come_14 (fun H locs h => ?_)
  exact hret (cmA (cpS (G 211) 0 6) x w) (actG G n (cmA (cpS (G 211) 0 6) x w) (cmR (cpS (G 211) 0 6) x w)) _ _ 17 _ (⟨rfl, rfl⟩) h dX8_come_17
set_option maxHeartbeats 4000000 in
set_option maxRecDepth 100000 in
theorem c_X8_move (l : Launch) (J : JJ) (z : Nat) (ad : Nat → Nat) (G : GG) (n : Nat) (hn : G 210 1 = nI n) (hn4 : n ≤ 4) (hW : WR (G 211)) (d x : Int32) : MI l J z ad yX8_move cX8_move 3 .int 3 [.ref (ad 210), .int d, .int x] G (fun ans uG => ans = (mvA (cpS (G 211) 0 6) d x) ∧ uG = (actG G n (mvA (cpS (G 211) 0 6) d x) (mvR (cpS (G 211) 0 6) d x))) := by
  refine MI.go (by decide) (Nat.le_of_ble_eq_true rfl) ?_
  intro pr e s m args below meth c ls Q X h hl hret
  have hx := X.1
  have hb := X.2.1
  have hown := X.2.2.2.1
  have hts := X.2.2.2.2
  have hl : lv_has ls 3 [(0, .ref (ad 210)), (1, .int d), (2, .int x)] := hl
  refine lv_aload_n hx hb dX8_move_0 rfl (lv_at hl 0 rfl) ?_
  refine lv_iconst (v := nI 0) hx hb dX8_move_1 (by decide) ?_
  refine lv_bipush (v := nI 6) hx hb dX8_move_2 (by decide) ?_
  refine rg_cvvd (As := [.int (nI 0), .int (nI 6)]) (rest := []) X hl.1 h (c_X8_copies l J z ad G 0 6 (by omega) (by omega) (by omega)) mw_176 mw_177 mw_178 mw_5 mw_179 pdX8_copies (by decide) (xo_210 J ad _) rfl rfl ⟨Nat.le_of_ble_eq_true rfl, Nat.le_of_ble_eq_true rfl⟩ ⟨Nat.le_of_ble_eq_true rfl, Nat.le_of_ble_eq_true rfl⟩ rfl (Nat.le_of_ble_eq_true rfl) dX8_move_4 (fun H locs h => ?_)
  rw [← RG_0] at h
  have hW1 := req_WR (cpS_0 (G 211) (a := 6) (by omega)) hW
  refine lv_aload_n hx hb dX8_move_7 rfl (lv_at hl 0 rfl) ?_
  refine lv_aload_n hx hb dX8_move_8 rfl (lv_at hl 0 rfl) ?_
  refine lv_iload_n hx hb dX8_move_9 rfl (lv_at hl 1 rfl) ?_
  refine lv_iload_n hx hb dX8_move_10 rfl (lv_at hl 2 rfl) ?_
  refine rg_civd (As := [.int d, .int x]) (rest := [.ref (ad 210)]) X hl.1 h (c_X8_moves l J z ad G (cpS (G 211) 0 6) hW1 d x) mw_219 mw_220 mw_221 mw_5 mw_222 pdX8_moves (by decide) (xo_210 J ad _) rfl rfl ⟨Nat.le_of_ble_eq_true rfl, Nat.le_of_ble_eq_true rfl⟩ ⟨Nat.le_of_ble_eq_true rfl, Nat.le_of_ble_eq_true rfl⟩ rfl (Nat.le_of_ble_eq_true rfl) dX8_move_11 (fun H locs h => ?_)
  rw [RG_0] at h
  refine rg_civd (As := [.int (mvA (cpS (G 211) 0 6) d x)]) (rest := []) X hl.1 h (c_X8_done l J z ad G (mvR (cpS (G 211) 0 6) d x) n (hn) hn4 (mvA (cpS (G 211) 0 6) d x)) mw_193 mw_194 mw_195 mw_5 mw_196 pdX8_done (by decide) (xo_210 J ad _) rfl rfl ⟨Nat.le_of_ble_eq_true rfl, Nat.le_of_ble_eq_true rfl⟩ ⟨Nat.le_of_ble_eq_true rfl, Nat.le_of_ble_eq_true rfl⟩ rfl (Nat.le_of_ble_eq_true rfl) dX8_move_14 (fun H locs h => ?_)
  exact hret (mvA (cpS (G 211) 0 6) d x) (actG G n (mvA (cpS (G 211) 0 6) d x) (mvR (cpS (G 211) 0 6) d x)) _ _ 17 _ (⟨rfl, rfl⟩) h dX8_move_17
set_option maxHeartbeats 4000000 in
set_option maxRecDepth 100000 in
theorem c_X8_petition (l : Launch) (J : JJ) (z : Nat) (ad : Nat → Nat) (G : GG) (n : Nat) (hn : G 210 1 = nI n) (hn4 : n ≤ 4) (hW : WR (G 211)) (d x g k : Int32) : MI l J z ad yX8_petition cX8_petition 5 .int 3 [.ref (ad 210), .int d, .int x, .int g, .int k] G (fun ans uG => ans = (ptA (cpS (G 211) 0 6) d x g k) ∧ uG = (actG G n (ptA (cpS (G 211) 0 6) d x g k) (ptR (cpS (G 211) 0 6) d x g k))) := by
  refine MI.go (by decide) (Nat.le_of_ble_eq_true rfl) ?_
  intro pr e s m args below meth c ls Q X h hl hret
  have hx := X.1
  have hb := X.2.1
  have hown := X.2.2.2.1
  have hts := X.2.2.2.2
  have hl : lv_has ls 5 [(0, .ref (ad 210)), (1, .int d), (2, .int x), (3, .int g), (4, .int k)] := hl
  refine lv_aload_n hx hb dX8_petition_0 rfl (lv_at hl 0 rfl) ?_
  refine lv_iconst (v := nI 0) hx hb dX8_petition_1 (by decide) ?_
  refine lv_bipush (v := nI 6) hx hb dX8_petition_2 (by decide) ?_
  refine rg_cvvd (As := [.int (nI 0), .int (nI 6)]) (rest := []) X hl.1 h (c_X8_copies l J z ad G 0 6 (by omega) (by omega) (by omega)) mw_176 mw_177 mw_178 mw_5 mw_179 pdX8_copies (by decide) (xo_210 J ad _) rfl rfl ⟨Nat.le_of_ble_eq_true rfl, Nat.le_of_ble_eq_true rfl⟩ ⟨Nat.le_of_ble_eq_true rfl, Nat.le_of_ble_eq_true rfl⟩ rfl (Nat.le_of_ble_eq_true rfl) dX8_petition_4 (fun H locs h => ?_)
  rw [← RG_0] at h
  have hW1 := req_WR (cpS_0 (G 211) (a := 6) (by omega)) hW
  refine lv_aload_n hx hb dX8_petition_7 rfl (lv_at hl 0 rfl) ?_
  refine lv_aload_n hx hb dX8_petition_8 rfl (lv_at hl 0 rfl) ?_
  refine lv_iload_n hx hb dX8_petition_9 rfl (lv_at hl 1 rfl) ?_
  refine lv_iload_n hx hb dX8_petition_10 rfl (lv_at hl 2 rfl) ?_
  refine lv_iload_n hx hb dX8_petition_11 rfl (lv_at hl 3 rfl) ?_
  refine lv_iload hx hb dX8_petition_12 (lv_at hl 4 rfl) ?_
  refine rg_civd (As := [.int d, .int x, .int g, .int k]) (rest := [.ref (ad 210)]) X hl.1 h (c_X8_petitions l J z ad G (cpS (G 211) 0 6) hW1 d x g k) mw_254 mw_255 mw_256 mw_5 mw_257 pdX8_petitions (by decide) (xo_210 J ad _) rfl rfl ⟨Nat.le_of_ble_eq_true rfl, Nat.le_of_ble_eq_true rfl⟩ ⟨Nat.le_of_ble_eq_true rfl, Nat.le_of_ble_eq_true rfl⟩ rfl (Nat.le_of_ble_eq_true rfl) dX8_petition_14 (fun H locs h => ?_)
  rw [RG_0] at h
  refine rg_civd (As := [.int (ptA (cpS (G 211) 0 6) d x g k)]) (rest := []) X hl.1 h (c_X8_done l J z ad G (ptR (cpS (G 211) 0 6) d x g k) n (hn) hn4 (ptA (cpS (G 211) 0 6) d x g k)) mw_193 mw_194 mw_195 mw_5 mw_196 pdX8_done (by decide) (xo_210 J ad _) rfl rfl ⟨Nat.le_of_ble_eq_true rfl, Nat.le_of_ble_eq_true rfl⟩ ⟨Nat.le_of_ble_eq_true rfl, Nat.le_of_ble_eq_true rfl⟩ rfl (Nat.le_of_ble_eq_true rfl) dX8_petition_17 (fun H locs h => ?_)
  exact hret (ptA (cpS (G 211) 0 6) d x g k) (actG G n (ptA (cpS (G 211) 0 6) d x g k) (ptR (cpS (G 211) 0 6) d x g k)) _ _ 20 _ (⟨rfl, rfl⟩) h dX8_petition_20
set_option maxHeartbeats 4000000 in
set_option maxRecDepth 100000 in
theorem c_X8_second (l : Launch) (J : JJ) (z : Nat) (ad : Nat → Nat) (G : GG) (n : Nat) (hn : G 210 1 = nI n) (hn4 : n ≤ 4) (hW : WR (G 211)) (d q : Int32) : MI l J z ad yX8_second cX8_second 3 .int 3 [.ref (ad 210), .int d, .int q] G (fun ans uG => ans = (scA (cpS (G 211) 0 6) d q) ∧ uG = (actG G n (scA (cpS (G 211) 0 6) d q) (scR (cpS (G 211) 0 6) d q))) := by
  refine MI.go (by decide) (Nat.le_of_ble_eq_true rfl) ?_
  intro pr e s m args below meth c ls Q X h hl hret
  have hx := X.1
  have hb := X.2.1
  have hown := X.2.2.2.1
  have hts := X.2.2.2.2
  have hl : lv_has ls 3 [(0, .ref (ad 210)), (1, .int d), (2, .int q)] := hl
  refine lv_aload_n hx hb dX8_second_0 rfl (lv_at hl 0 rfl) ?_
  refine lv_iconst (v := nI 0) hx hb dX8_second_1 (by decide) ?_
  refine lv_bipush (v := nI 6) hx hb dX8_second_2 (by decide) ?_
  refine rg_cvvd (As := [.int (nI 0), .int (nI 6)]) (rest := []) X hl.1 h (c_X8_copies l J z ad G 0 6 (by omega) (by omega) (by omega)) mw_176 mw_177 mw_178 mw_5 mw_179 pdX8_copies (by decide) (xo_210 J ad _) rfl rfl ⟨Nat.le_of_ble_eq_true rfl, Nat.le_of_ble_eq_true rfl⟩ ⟨Nat.le_of_ble_eq_true rfl, Nat.le_of_ble_eq_true rfl⟩ rfl (Nat.le_of_ble_eq_true rfl) dX8_second_4 (fun H locs h => ?_)
  rw [← RG_0] at h
  have hW1 := req_WR (cpS_0 (G 211) (a := 6) (by omega)) hW
  refine lv_aload_n hx hb dX8_second_7 rfl (lv_at hl 0 rfl) ?_
  refine lv_aload_n hx hb dX8_second_8 rfl (lv_at hl 0 rfl) ?_
  refine lv_iload_n hx hb dX8_second_9 rfl (lv_at hl 1 rfl) ?_
  refine lv_iload_n hx hb dX8_second_10 rfl (lv_at hl 2 rfl) ?_
  refine rg_civd (As := [.int d, .int q]) (rest := [.ref (ad 210)]) X hl.1 h (c_X8_seconds l J z ad G (cpS (G 211) 0 6) hW1 d q) mw_283 mw_284 mw_285 mw_5 mw_286 pdX8_seconds (by decide) (xo_210 J ad _) rfl rfl ⟨Nat.le_of_ble_eq_true rfl, Nat.le_of_ble_eq_true rfl⟩ ⟨Nat.le_of_ble_eq_true rfl, Nat.le_of_ble_eq_true rfl⟩ rfl (Nat.le_of_ble_eq_true rfl) dX8_second_11 (fun H locs h => ?_)
  rw [RG_0] at h
  refine rg_civd (As := [.int (scA (cpS (G 211) 0 6) d q)]) (rest := []) X hl.1 h (c_X8_done l J z ad G (scR (cpS (G 211) 0 6) d q) n (hn) hn4 (scA (cpS (G 211) 0 6) d q)) mw_193 mw_194 mw_195 mw_5 mw_196 pdX8_done (by decide) (xo_210 J ad _) rfl rfl ⟨Nat.le_of_ble_eq_true rfl, Nat.le_of_ble_eq_true rfl⟩ ⟨Nat.le_of_ble_eq_true rfl, Nat.le_of_ble_eq_true rfl⟩ rfl (Nat.le_of_ble_eq_true rfl) dX8_second_14 (fun H locs h => ?_)
  exact hret (scA (cpS (G 211) 0 6) d q) (actG G n (scA (cpS (G 211) 0 6) d q) (scR (cpS (G 211) 0 6) d q)) _ _ 17 _ (⟨rfl, rfl⟩) h dX8_second_17
set_option maxHeartbeats 4000000 in
set_option maxRecDepth 100000 in
theorem c_X8_set (l : Launch) (J : JJ) (z : Nat) (ad : Nat → Nat) (G : GG) (n : Nat) (hn : G 210 1 = nI n) (hn4 : n ≤ 4) (hW : WR (G 211)) (x v : Int32) : MI l J z ad yX8_set cX8_set 3 .int 3 [.ref (ad 210), .int x, .int v] G (fun ans uG => ans = (stA (cpS (G 211) 0 6) x v) ∧ uG = (actG G n (stA (cpS (G 211) 0 6) x v) (stR (cpS (G 211) 0 6) x v))) := by
  refine MI.go (by decide) (Nat.le_of_ble_eq_true rfl) ?_
  intro pr e s m args below meth c ls Q X h hl hret
  have hx := X.1
  have hb := X.2.1
  have hown := X.2.2.2.1
  have hts := X.2.2.2.2
  have hl : lv_has ls 3 [(0, .ref (ad 210)), (1, .int x), (2, .int v)] := hl
  refine lv_aload_n hx hb dX8_set_0 rfl (lv_at hl 0 rfl) ?_
  refine lv_iconst (v := nI 0) hx hb dX8_set_1 (by decide) ?_
  refine lv_bipush (v := nI 6) hx hb dX8_set_2 (by decide) ?_
  refine rg_cvvd (As := [.int (nI 0), .int (nI 6)]) (rest := []) X hl.1 h (c_X8_copies l J z ad G 0 6 (by omega) (by omega) (by omega)) mw_176 mw_177 mw_178 mw_5 mw_179 pdX8_copies (by decide) (xo_210 J ad _) rfl rfl ⟨Nat.le_of_ble_eq_true rfl, Nat.le_of_ble_eq_true rfl⟩ ⟨Nat.le_of_ble_eq_true rfl, Nat.le_of_ble_eq_true rfl⟩ rfl (Nat.le_of_ble_eq_true rfl) dX8_set_4 (fun H locs h => ?_)
  rw [← RG_0] at h
  have hW1 := req_WR (cpS_0 (G 211) (a := 6) (by omega)) hW
  refine lv_aload_n hx hb dX8_set_7 rfl (lv_at hl 0 rfl) ?_
  refine lv_aload_n hx hb dX8_set_8 rfl (lv_at hl 0 rfl) ?_
  refine lv_iload_n hx hb dX8_set_9 rfl (lv_at hl 1 rfl) ?_
  refine lv_iload_n hx hb dX8_set_10 rfl (lv_at hl 2 rfl) ?_
  refine rg_civd (As := [.int x, .int v]) (rest := [.ref (ad 210)]) X hl.1 h (c_X8_sets l J z ad G (cpS (G 211) 0 6) hW1 x v) mw_416 mw_417 mw_418 mw_5 mw_419 pdX8_sets (by decide) (xo_210 J ad _) rfl rfl ⟨Nat.le_of_ble_eq_true rfl, Nat.le_of_ble_eq_true rfl⟩ ⟨Nat.le_of_ble_eq_true rfl, Nat.le_of_ble_eq_true rfl⟩ rfl (Nat.le_of_ble_eq_true rfl) dX8_set_11 (fun H locs h => ?_)
  rw [RG_0] at h
  refine rg_civd (As := [.int (stA (cpS (G 211) 0 6) x v)]) (rest := []) X hl.1 h (c_X8_done l J z ad G (stR (cpS (G 211) 0 6) x v) n (hn) hn4 (stA (cpS (G 211) 0 6) x v)) mw_193 mw_194 mw_195 mw_5 mw_196 pdX8_done (by decide) (xo_210 J ad _) rfl rfl ⟨Nat.le_of_ble_eq_true rfl, Nat.le_of_ble_eq_true rfl⟩ ⟨Nat.le_of_ble_eq_true rfl, Nat.le_of_ble_eq_true rfl⟩ rfl (Nat.le_of_ble_eq_true rfl) dX8_set_14 (fun H locs h => ?_)
  exact hret (stA (cpS (G 211) 0 6) x v) (actG G n (stA (cpS (G 211) 0 6) x v) (stR (cpS (G 211) 0 6) x v)) _ _ 17 _ (⟨rfl, rfl⟩) h dX8_set_17
set_option maxHeartbeats 4000000 in
set_option maxRecDepth 100000 in
theorem c_X8_pass (l : Launch) (J : JJ) (z : Nat) (ad : Nat → Nat) (G : GG) (n : Nat) (hn : G 210 1 = nI n) (hn4 : n ≤ 4) (hW : WR (G 211)) (t : Int32) : MI l J z ad yX8_pass cX8_pass 2 .int 6 [.ref (ad 210), .int t] G (fun ans uG => ∃ (og g : Nat → Int32), ans = edA (cpS (G 211) 0 6) t ∧ uG = actG (u1 (u1 G 213 og) 214 g) n (edA (cpS (G 211) 0 6) t) (edR (cpS (G 211) 0 6) t)) := by
  refine MI.go (by decide) (Nat.le_of_ble_eq_true rfl) ?_
  intro pr e s m args below meth c ls Q X h hl hret
  have hx := X.1
  have hb := X.2.1
  have hown := X.2.2.2.1
  have hts := X.2.2.2.2
  have hl : lv_has ls 2 [(0, .ref (ad 210)), (1, .int t)] := hl
  refine lv_aload_n hx hb dX8_pass_0 rfl (lv_at hl 0 rfl) ?_
  refine lv_iconst (v := nI 0) hx hb dX8_pass_1 (by decide) ?_
  refine lv_bipush (v := nI 6) hx hb dX8_pass_2 (by decide) ?_
  refine rg_cvvd (As := [.int (nI 0), .int (nI 6)]) (rest := []) X hl.1 h (c_X8_copies l J z ad G 0 6 (by omega) (by omega) (by omega)) mw_176 mw_177 mw_178 mw_5 mw_179 pdX8_copies (by decide) (xo_210 J ad _) rfl rfl ⟨Nat.le_of_ble_eq_true rfl, Nat.le_of_ble_eq_true rfl⟩ ⟨Nat.le_of_ble_eq_true rfl, Nat.le_of_ble_eq_true rfl⟩ rfl (Nat.le_of_ble_eq_true rfl) dX8_pass_4 (fun H locs h => ?_)
  rw [← RG_0] at h
  have hW1 := req_WR (cpS_0 (G 211) (a := 6) (by omega)) hW
  refine lv_aload_n hx hb dX8_pass_7 rfl (lv_at hl 0 rfl) ?_
  refine lv_aload_n hx hb dX8_pass_8 rfl (lv_at hl 0 rfl) ?_
  refine lv_iload_n hx hb dX8_pass_9 rfl (lv_at hl 1 rfl) ?_
  refine rg_civ (As := [.int t]) (rest := [.ref (ad 210)]) X hl.1 h (c_X8_ends l J z ad G (cpS (G 211) 0 6) hW1 t) mw_365 mw_366 mw_367 mw_5 mw_368 pdX8_ends (by decide) (xo_210 J ad _) rfl rfl ⟨Nat.le_of_ble_eq_true rfl, Nat.le_of_ble_eq_true rfl⟩ ⟨Nat.le_of_ble_eq_true rfl, Nat.le_of_ble_eq_true rfl⟩ rfl (Nat.le_of_ble_eq_true rfl) dX8_pass_10 (fun r1 G1 H locs q1 h => ?_)
  obtain ⟨og, g, rfl, rfl⟩ := q1
  rw [RG_0] at h
  refine rg_civd (As := [.int (edA (cpS (G 211) 0 6) t)]) (rest := []) X hl.1 h (c_X8_done l J z ad (u1 (u1 G 213 og) 214 g) (edR (cpS (G 211) 0 6) t) n (by rw [u1_n (by decide), u1_n (by decide)]; exact hn) hn4 (edA (cpS (G 211) 0 6) t)) mw_193 mw_194 mw_195 mw_5 mw_196 pdX8_done (by decide) (xo_210 J ad _) rfl rfl ⟨Nat.le_of_ble_eq_true rfl, Nat.le_of_ble_eq_true rfl⟩ ⟨Nat.le_of_ble_eq_true rfl, Nat.le_of_ble_eq_true rfl⟩ rfl (Nat.le_of_ble_eq_true rfl) dX8_pass_13 (fun H locs h => ?_)
  exact hret (edA (cpS (G 211) 0 6) t) (actG (u1 (u1 G 213 og) 214 g) n (edA (cpS (G 211) 0 6) t) (edR (cpS (G 211) 0 6) t)) _ _ 16 _ (⟨og, g, rfl, rfl⟩) h dX8_pass_16
