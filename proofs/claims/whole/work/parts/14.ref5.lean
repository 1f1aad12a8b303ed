
theorem WR_of0 {r y : Nat → Int32} (hW : WR r) (h5 : y 5 = r 5) (h6 : y 6 = nI 0) (h11 : ∃ o, o ≤ 12 ∧ y 11 = nI o) (hd : ∀ d, d < 12 → y (6 * d + 12) = r (6 * d + 12)) : WR y := by
  obtain ⟨⟨w1, w2⟩, ⟨w3, w4⟩, ⟨w5, w6⟩, w7, w8⟩ := hW
  have e1 : kn y = kn r := by unfold kn; rw [h5]
  have e2 : mn y = 0 := by unfold mn; rw [h6]; exact tn_nI (by omega)
  obtain ⟨o, o1, o2⟩ := h11
  have e3 : on y = o := by unfold on; rw [o2]; exact tn_nI (by omega)
  refine ⟨⟨by rw [h5, e1]; exact w1, by omega⟩, ⟨by rw [h6, e2], by omega⟩, ⟨by rw [e3]; exact o2, by omega⟩, fun q hq => by omega, fun d hd2 => ?_⟩
  rw [e1] at hd2
  have a1 : dc y d = dc r d := by unfold dc; rw [hd d (by omega)]
  rw [a1, hd d (by omega)]
  exact w8 d hd2
theorem dayR_WR {r : Nat → Int32} (hW : WR r) : WR (dayR r) := by
  have hE := dayE_WR hW
  unfold dayR
  split
  · exact hE
  · have hk := hW.1.2
    have e5 : hrC (dayE r) 5 = r 5 := by
      rw [hrC_eq hE (by omega) (by omega) (by omega) (by omega) (by omega)]
      unfold dayE
      rw [upd_n (by omega), upd_n (by omega)]
    have h11 := (hrC_WR hE).2.2.1
    refine WR_of0 hW ?_ ?_ ⟨on (hrC (dayE r)), h11.2, ?_⟩ (fun d hd => ?_)
    · rw [noOwn_n (fun d hd => by omega), upd_n (by omega), upd_n (by omega), upd_n (by omega), e5]
    · rw [noOwn_n (fun d hd => by omega), upd_s]
    · rw [noOwn_n (fun d hd => by omega), upd_n (by omega), upd_n (by omega), upd_n (by omega)]
      exact h11.1
    · rw [noOwn_n (fun d2 hd2 => by omega), upd_n (by omega), upd_n (by omega), upd_n (by omega), hrC_eq hE (by omega) (by omega) (by omega) (by omega) (by omega)]
      unfold dayE
      rw [upd_n (by omega), upd_n (by omega)]

/-- a row is copied over another -/
def cpS (S : Nat → Int32) (a b : Nat) : Nat → Int32 := fun j => if 612 * b ≤ j ∧ j < 612 * b + 612 then S (612 * a + (j - 612 * b)) else S j
def cpk (S : Nat → Int32) (a b k : Nat) : Nat → Int32 := fun j => if 612 * b ≤ j ∧ j < 612 * b + k then S (612 * a + (j - 612 * b)) else S j
theorem cpk_0 (S : Nat → Int32) (a b : Nat) : cpk S a b 0 = S := by
  funext j
  unfold cpk
  rw [if_neg (by omega)]
theorem cpk_s {S : Nat → Int32} {a b k : Nat} (hab : a ≠ b) (hk : k < 612) : upd (cpk S a b k) (612 * b + k) (cpk S a b k (612 * a + k)) = cpk S a b (k + 1) := by
  have e : cpk S a b k (612 * a + k) = S (612 * a + k) := by
    unfold cpk
    rw [if_neg (by omega)]
  rw [e]
  funext j
  by_cases h : j = 612 * b + k
  · subst h
    rw [upd_s]
    unfold cpk
    rw [if_pos (by omega)]
    congr 1
    omega
  · rw [upd_n h]
    unfold cpk
    by_cases g : 612 * b ≤ j ∧ j < 612 * b + k
    · rw [if_pos g, if_pos (by omega)]
    · rw [if_neg g, if_neg (by omega)]
theorem cpk_e (S : Nat → Int32) (a b : Nat) : cpk S a b 612 = cpS S a b := rfl
set_option maxHeartbeats 4000000 in
set_option maxRecDepth 100000 in
theorem c_X8_day (l : Launch) (J : JJ) (z : Nat) (ad : Nat → Nat) (G : GG) (r : Nat → Int32) (B : Nat) (hB : B ≤ 4284) (hW : WR r) : MI l J z ad yX8_day cX8_day 4 .int 4 [.ref (ad 210), .int (nI B)] (RG G B r) (fun ans uG => ∃ (og g : Nat → Int32), ans = nI (dayA r) ∧ uG = RG (u1 (u1 G 213 og) 214 g) B (dayR r)) := by
  refine MI.go (by decide) (Nat.le_of_ble_eq_true rfl) ?_
  intro pr e s m args below meth c ls Q X h hl hret
  have hx := X.1
  have hb := X.2.1
  have hown := X.2.2.2.1
  have hts := X.2.2.2.2
  have hl : lv_has ls 4 [(0, .ref (ad 210)), (1, .int (nI B))] := hl
  have hW0 := hW
  have hWE := dayE_WR hW
  have w1 : r 5 = nI (kn r) := hW.1.1
  have w2 : kn r ≤ 12 := hW.1.2
  refine lv_aload_n hx hb dX8_day_0 rfl (lv_at hl 0 rfl) ?_
  refine fg_X8_7 X h dX8_day_1 ?_
  refine lv_iload_n hx hb dX8_day_4 rfl (lv_at hl 1 rfl) ?_
  refine lv_iconst (v := nI 2) hx hb dX8_day_5 (by decide) ?_
  refine lv_iadd hx hb dX8_day_6 ?_
  refine lv_as (y := nI (B + 2)) (nI_addc (by omega)) ?_
  refine lv_dup2_11 hx hb dX8_day_7 rfl rfl ?_
  refine rs_ld X h B (2) (congrArg nI (by omega)) (by omega) dX8_day_8 ?_
  refine lv_as (y := r 2) (congrFun (RG_row G B r) _) ?_
  refine lv_iconst (v := nI 1) hx hb dX8_day_9 (by decide) ?_
  refine lv_iadd hx hb dX8_day_10 ?_
  refine rs_st X h (2) (congrArg nI (by omega)) (by omega) dX8_day_11 (fun H locs h => ?_)
  refine lv_aload_n hx hb dX8_day_12 rfl (lv_at hl 0 rfl) ?_
  refine fg_X8_7 X h dX8_day_13 ?_
  refine lv_iload_n hx hb dX8_day_16 rfl (lv_at hl 1 rfl) ?_
  refine lv_iconst (v := nI 4) hx hb dX8_day_17 (by decide) ?_
  refine lv_iadd hx hb dX8_day_18 ?_
  refine lv_as (y := nI (B + 4)) (nI_addc (by omega)) ?_
  refine lv_dup2_11 hx hb dX8_day_19 rfl rfl ?_
  refine rs_ld X h B (4) (congrArg nI (by omega)) (by omega) dX8_day_20 ?_
  refine lv_as (y := r 4) ((congrFun (RG_row G B (upd r 2 ((r 2) + (nI 1)))) _).trans (by rw [upd_n (by omega)])) ?_
  refine lv_iconst (v := nI 1) hx hb dX8_day_21 (by decide) ?_
  refine lv_iadd hx hb dX8_day_22 ?_
  refine rs_st X h (4) (congrArg nI (by omega)) (by omega) dX8_day_23 (fun H locs h => ?_)
  have hd : upd (upd r 2 (r 2 + nI 1)) 4 (r 4 + nI 1) = dayE r := rfl
  rw [hd] at h
  refine lv_aload_n hx hb dX8_day_24 rfl (lv_at hl 0 rfl) ?_
  refine fg_X8_7 X h dX8_day_25 ?_
  refine lv_iload_n hx hb dX8_day_28 rfl (lv_at hl 1 rfl) ?_
  refine lv_iconst (v := nI 4) hx hb dX8_day_29 (by decide) ?_
  refine lv_iadd hx hb dX8_day_30 ?_
  refine lv_as (y := nI (B + 4)) (nI_addc (by omega)) ?_
  refine rs_ld X h B (4) (congrArg nI (by omega)) (by omega) dX8_day_31 ?_
  refine lv_as (y := (dayE r) 4) (congrFun (RG_row G B (dayE r)) _) ?_
  refine lv_as (y := r 4 + nI 1) (by unfold dayE; rw [upd_s]) ?_
  refine lv_aload_n hx hb dX8_day_32 rfl (lv_at hl 0 rfl) ?_
  refine fg_X8_7 X h dX8_day_33 ?_
  refine lv_iload_n hx hb dX8_day_36 rfl (lv_at hl 1 rfl) ?_
  refine lv_iconst (v := nI 1) hx hb dX8_day_37 (by decide) ?_
  refine lv_iadd hx hb dX8_day_38 ?_
  refine lv_as (y := nI (B + 1)) (nI_addc (by omega)) ?_
  refine rs_ld X h B (1) (congrArg nI (by omega)) (by omega) dX8_day_39 ?_
  refine lv_as (y := (dayE r) 1) (congrFun (RG_row G B (dayE r)) _) ?_
  refine lv_as (y := r 1) (by unfold dayE; rw [upd_n (by omega), upd_n (by omega)]) ?_
  refine lv_icmp_ge (tgt := 45) hx hb dX8_day_40 (by decide) (fun c_40 => ?_) (fun c_40 => ?_)
  · refine lv_aload_n hx hb dX8_day_45 rfl (lv_at hl 0 rfl) ?_
    refine lv_iload_n hx hb dX8_day_46 rfl (lv_at hl 1 rfl) ?_
    refine rg_civ (As := [.int (nI B)]) (rest := []) X hl.1 h (c_X8_hears l J z ad G (dayE r) B hB hWE) mw_374 mw_375 mw_376 mw_5 mw_377 pdX8_hears (by decide) (xo_210 J ad _) rfl rfl ⟨Nat.le_of_ble_eq_true rfl, Nat.le_of_ble_eq_true rfl⟩ ⟨Nat.le_of_ble_eq_true rfl, Nat.le_of_ble_eq_true rfl⟩ rfl (Nat.le_of_ble_eq_true rfl) dX8_day_47 (fun r1 G1 H locs q1 h => ?_)
    obtain ⟨og, σ, hO, rfl, rfl⟩ := q1
    rw [hrow_C hO] at h
    have e3 : hrC (dayE r) 3 = r 3 := by
      rw [hrC_eq hWE (by omega) (by omega) (by omega) (by omega) (by omega)]
      unfold dayE
      rw [upd_n (by omega), upd_n (by omega)]
    have e5 : hrC (dayE r) 5 = nI (kn r) := by
      rw [hrC_eq hWE (by omega) (by omega) (by omega) (by omega) (by omega), ← w1]
      unfold dayE
      rw [upd_n (by omega), upd_n (by omega)]
    rw [(hear_C hO).2.1]
    refine lv_istore_n (lv' := [(2, .int (nI (((hearC (dayE r)).2.1)))), (0, .ref (ad 210)), (1, .int (nI B))]) hx hb dX8_day_50 rfl hl (by decide) rfl (fun ls hl => ?_)
    refine lv_aload_n hx hb dX8_day_51 rfl (lv_at hl 1 rfl) ?_
    refine fg_X8_7 X h dX8_day_52 ?_
    refine lv_iload_n hx hb dX8_day_55 rfl (lv_at hl 2 rfl) ?_
    refine lv_iconst (v := nI 3) hx hb dX8_day_56 (by decide) ?_
    refine lv_iadd hx hb dX8_day_57 ?_
    refine lv_as (y := nI (B + 3)) (nI_addc (by omega)) ?_
    refine lv_dup2_11 hx hb dX8_day_58 rfl rfl ?_
    refine rs_ld X h B (3) (congrArg nI (by omega)) (by omega) dX8_day_59 ?_
    refine lv_as (y := (hrC (dayE r)) 3) (congrFun (RG_row (u1 (u1 G 213 og) 214 (hear (dayE r) (G 214) σ (mn (dayE r))).2.2) B (hrC (dayE r))) _) ?_
    refine lv_as (y := r 3) (e3) ?_
    refine lv_iconst (v := nI 1) hx hb dX8_day_60 (by decide) ?_
    refine lv_iadd hx hb dX8_day_61 ?_
    refine rs_st X h (3) (congrArg nI (by omega)) (by omega) dX8_day_62 (fun H locs h => ?_)
    refine lv_aload_n hx hb dX8_day_63 rfl (lv_at hl 1 rfl) ?_
    refine fg_X8_7 X h dX8_day_64 ?_
    refine lv_iload_n hx hb dX8_day_67 rfl (lv_at hl 2 rfl) ?_
    refine lv_iconst (v := nI 4) hx hb dX8_day_68 (by decide) ?_
    refine lv_iadd hx hb dX8_day_69 ?_
    refine lv_as (y := nI (B + 4)) (nI_addc (by omega)) ?_
    refine lv_iconst (v := nI 0) hx hb dX8_day_70 (by decide) ?_
    refine rs_st X h (4) (congrArg nI (by omega)) (by omega) dX8_day_71 (fun H locs h => ?_)
    refine lv_aload_n hx hb dX8_day_72 rfl (lv_at hl 1 rfl) ?_
    refine fg_X8_7 X h dX8_day_73 ?_
    refine lv_iload_n hx hb dX8_day_76 rfl (lv_at hl 2 rfl) ?_
    refine lv_bipush (v := nI 6) hx hb dX8_day_77 (by decide) ?_
    refine lv_iadd hx hb dX8_day_79 ?_
    refine lv_as (y := nI (B + 6)) (nI_addc (by omega)) ?_
    refine lv_iconst (v := nI 0) hx hb dX8_day_80 (by decide) ?_
    refine rs_st X h (6) (congrArg nI (by omega)) (by omega) dX8_day_81 (fun H locs h => ?_)
    refine lv_iconst (v := nI 0) hx hb dX8_day_82 (by decide) ?_
    refine lv_istore_n (lv' := [(3, .int (nI 0)), (2, .int (nI (((hearC (dayE r)).2.1)))), (0, .ref (ad 210)), (1, .int (nI B))]) hx hb dX8_day_83 rfl hl (by decide) rfl (fun ls hl => ?_)
    have LP : ∀ (n i : Nat), kn r + 1 ≤ i + n → i ≤ kn r → ∀ (H : Heap) (locs : List Loc) (ls : Array Slot), HG J z ad s (RG (u1 (u1 G 213 og) 214 (hear (dayE r) (G 214) σ (mn (dayE r))).2.2) B (noOwn i (upd (upd (upd (hrC (dayE r)) 3 (r 3 + nI 1)) 4 (nI 0)) 6 (nI 0)))) H locs → lv_has ls 4 [(0, .ref (ad 210)), (1, .int (nI B)), (2, .int (nI (((hearC (dayE r)).2.1)))), (3, .int (nI i))] → W pr l e (rmD 4 0 0) s m args below meth c H locs 0 0 Q (F0 m 84 ls []) := by
      intro n
      induction n with
      | zero =>
        intro i g1 g2
        exact absurd g1 (by omega)
      | succ n ih =>
        intro i g1 g2 H locs ls h hl
        have e5i : noOwn i (upd (upd (upd (hrC (dayE r)) 3 (r 3 + nI 1)) 4 (nI 0)) 6 (nI 0)) 5 = nI (kn r) := by
          rw [noOwn_n (fun d hd => by omega), upd_n (by omega), upd_n (by omega), upd_n (by omega), e5]
        refine lv_iload_n hx hb dX8_day_84 rfl (lv_at hl 3 rfl) ?_
        refine lv_aload_n hx hb dX8_day_85 rfl (lv_at hl 0 rfl) ?_
        refine fg_X8_7 X h dX8_day_86 ?_
        refine lv_iload_n hx hb dX8_day_89 rfl (lv_at hl 1 rfl) ?_
        refine lv_iconst (v := nI 5) hx hb dX8_day_90 (by decide) ?_
        refine lv_iadd hx hb dX8_day_91 ?_
        refine lv_as (y := nI (B + 5)) (nI_addc (by omega)) ?_
        refine rs_ld X h B (5) (congrArg nI (by omega)) (by omega) dX8_day_92 ?_
        refine lv_as (y := nI ((kn r))) ((congrFun (RG_row (u1 (u1 G 213 og) 214 (hear (dayE r) (G 214) σ (mn (dayE r))).2.2) B (noOwn i (upd (upd (upd (hrC (dayE r)) 3 (r 3 + nI 1)) 4 (nI 0)) 6 (nI 0)))) _).trans (e5i)) ?_
        refine lv_icmp_ge (tgt := 116) hx hb dX8_day_93 (by decide) (fun c_93 => ?_) (fun c_93 => ?_)
        · rw [nI_leI (by omega) (by omega)] at c_93
          refine lv_iload_n hx hb dX8_day_116 rfl (lv_at hl 2 rfl) ?_
          exact hret (nI (((hearC (dayE r)).2.1))) (RG (u1 (u1 G 213 og) 214 (hear (dayE r) (G 214) σ (mn (dayE r))).2.2) B (noOwn i (upd (upd (upd (hrC (dayE r)) 3 (r 3 + nI 1)) 4 (nI 0)) 6 (nI 0)))) _ _ 117 _ (⟨og, _, by unfold dayA; rw [if_neg (Int32.not_lt.mpr c_40)], by unfold dayR; rw [if_neg (Int32.not_lt.mpr c_40), show i = kn r by omega]⟩) h dX8_day_117
        · rw [nI_leI (by omega) (by omega)] at c_93
          refine lv_aload_n hx hb dX8_day_96 rfl (lv_at hl 0 rfl) ?_
          refine fg_X8_7 X h dX8_day_97 ?_
          refine lv_iload_n hx hb dX8_day_100 rfl (lv_at hl 1 rfl) ?_
          refine lv_iload_n hx hb dX8_day_101 rfl (lv_at hl 3 rfl) ?_
          refine rg_cisd (As := [.int (nI B), .int (nI i)]) (rest := [.ref (ad 211)]) X hl.1 h (c_X8_droneAt l J z ad (RG (u1 (u1 G 213 og) 214 (hear (dayE r) (G 214) σ (mn (dayE r))).2.2) B (noOwn i (upd (upd (upd (hrC (dayE r)) 3 (r 3 + nI 1)) 4 (nI 0)) 6 (nI 0)))) B i) mw_190 mw_191 mw_5 mw_192 pdX8_droneAt ⟨Nat.le_of_ble_eq_true rfl, Nat.le_of_ble_eq_true rfl⟩ ⟨Nat.le_of_ble_eq_true rfl, Nat.le_of_ble_eq_true rfl⟩ rfl (Nat.le_of_ble_eq_true rfl) dX8_day_102 (fun H locs h => ?_)
          refine lv_as (y := nI (B + 6 * i + 12)) (congrArg nI (by omega)) ?_
          refine lv_iconst (v := nI 2) hx hb dX8_day_105 (by decide) ?_
          refine lv_iadd hx hb dX8_day_106 ?_
          refine lv_as (y := nI (B + 6 * i + 14)) (nI_addc (by omega)) ?_
          refine lv_bipush (v := (-5)) hx hb dX8_day_107 (by decide) ?_
          refine rs_st X h (6 * i + 14) (congrArg nI (by omega)) (by omega) dX8_day_109 (fun H locs h => ?_)
          refine lv_iinc (v := nI (i + 1)) (lv' := [(3, .int (nI (i + 1))), (0, .ref (ad 210)), (1, .int (nI B)), (2, .int (nI (((hearC (dayE r)).2.1))))]) hx hb dX8_day_110 hl (k := 3) rfl (nI_addc (b := 1) (by omega)) (by decide) rfl (fun ls hl => ?_)
          refine lv_goto (tgt := 84) hx hb dX8_day_113 (by decide) ?_
          exact ih (i + 1) (by omega) (by omega) _ _ _ h (lv_sub hl [1, 2, 3, 0] rfl)
    exact LP (kn r + 1) 0 (by omega) (by omega) _ _ _ h (lv_sub hl [2, 3, 1, 0] rfl)
  · refine lv_iconst (v := nI 0) hx hb dX8_day_43 (by decide) ?_
    exact hret (nI 0) (RG G B (dayE r)) _ _ 44 _ (⟨G 213, G 214, by unfold dayA; rw [if_pos (Int32.not_le.mp c_40)], by unfold dayR; rw [if_pos (Int32.not_le.mp c_40), u1_self, u1_self]⟩) h dX8_day_44
set_option maxHeartbeats 4000000 in
set_option maxRecDepth 100000 in
theorem c_X8_copies (l : Launch) (J : JJ) (z : Nat) (ad : Nat → Nat) (G : GG) (a b : Nat) (ha : a < 8) (hb8 : b < 8) (hab : a ≠ b) : MV l J z ad yX8_copies cX8_copies 4 0 [.ref (ad 210), .int (nI a), .int (nI b)] G (fun uG => uG = u1 G 211 (cpS (G 211) a b)) := by
  refine MV.go (by decide) (Nat.le_of_ble_eq_true rfl) ?_
  intro pr e s m args below meth c ls Q X h hl hret
  have hx := X.1
  have hb := X.2.1
  have hown := X.2.2.2.1
  have hts := X.2.2.2.2
  have hl : lv_has ls 4 [(0, .ref (ad 210)), (1, .int (nI a)), (2, .int (nI b))] := hl
  refine lv_iconst (v := nI 0) hx hb dX8_copies_0 (by decide) ?_
  refine lv_istore_n (lv' := [(3, .int (nI 0)), (0, .ref (ad 210)), (1, .int (nI a)), (2, .int (nI b))]) hx hb dX8_copies_1 rfl hl (by decide) rfl (fun ls hl => ?_)
  have LP : ∀ (n k : Nat), 613 ≤ k + n → k ≤ 612 → ∀ (H : Heap) (locs : List Loc) (ls : Array Slot), HG J z ad s (u1 G 211 (cpk (G 211) a b k)) H locs → lv_has ls 4 [(0, .ref (ad 210)), (1, .int (nI a)), (2, .int (nI b)), (3, .int (nI k))] → W pr l e (rmD 0 0 0) s m args below meth c H locs 0 0 Q (F0 m 2 ls []) := by
    intro n
    induction n with
    | zero =>
      intro k g1 g2
      exact absurd g1 (by omega)
    | succ n ih =>
      intro k g1 g2 H locs ls h hl
      refine lv_iload_n hx hb dX8_copies_2 rfl (lv_at hl 3 rfl) ?_
      refine lv_sipush (v := nI 612) hx hb dX8_copies_3 (by decide) ?_
      refine lv_icmp_ge (tgt := 39) hx hb dX8_copies_6 (by decide) (fun c_6 => ?_) (fun c_6 => ?_)
      · rw [nI_leI (by omega) (by omega)] at c_6
        exact hret (u1 G 211 (cpk (G 211) a b k)) _ _ 39 _ (by rw [show k = 612 by omega]; rfl) h dX8_copies_39
      · rw [nI_leI (by omega) (by omega)] at c_6
        refine lv_aload_n hx hb dX8_copies_9 rfl (lv_at hl 0 rfl) ?_
        refine fg_X8_7 X h dX8_copies_10 ?_
        refine lv_sipush (v := nI 612) hx hb dX8_copies_13 (by decide) ?_
        refine lv_iload_n hx hb dX8_copies_16 rfl (lv_at hl 2 rfl) ?_
        refine lv_imul hx hb dX8_copies_17 ?_
        refine lv_as (y := nI (612 * b)) (nI_mulc (by omega)) ?_
        refine lv_iload_n hx hb dX8_copies_18 rfl (lv_at hl 3 rfl) ?_
        refine lv_iadd hx hb dX8_copies_19 ?_
        refine lv_as (y := nI (612 * b + k)) (nI_addc (by omega)) ?_
        refine lv_aload_n hx hb dX8_copies_20 rfl (lv_at hl 0 rfl) ?_
        refine fg_X8_7 X h dX8_copies_21 ?_
        refine lv_sipush (v := nI 612) hx hb dX8_copies_24 (by decide) ?_
        refine lv_iload_n hx hb dX8_copies_27 rfl (lv_at hl 1 rfl) ?_
        refine lv_imul hx hb dX8_copies_28 ?_
        refine lv_as (y := nI (612 * a)) (nI_mulc (by omega)) ?_
        refine lv_iload_n hx hb dX8_copies_29 rfl (lv_at hl 3 rfl) ?_
        refine lv_iadd hx hb dX8_copies_30 ?_
        refine lv_as (y := nI (612 * a + k)) (nI_addc (by omega)) ?_
        refine rg_ild X h 211 (by decide) (xa_211 J ad) (612 * a + k) rfl (by omega) (by decide) dX8_copies_31 ?_
        refine lv_as (y := cpk (G 211) a b k (612 * a + k)) (by rw [u1_s]) ?_
        refine rg_ist X h 211 (by decide) (xa_211 J ad) (612 * b + k) rfl (by omega) (by decide) dX8_copies_32 (fun H locs h => ?_)
        refine lv_iinc (v := nI (k + 1)) (lv' := [(3, .int (nI (k + 1))), (0, .ref (ad 210)), (1, .int (nI a)), (2, .int (nI b))]) hx hb dX8_copies_33 hl (k := 3) rfl (nI_addc (b := 1) (by omega)) (by decide) rfl (fun ls hl => ?_)
        refine lv_goto (tgt := 2) hx hb dX8_copies_36 (by decide) ?_
        rw [u1_uu, cpk_s hab (by omega)] at h
        exact ih (k + 1) (by omega) (by omega) _ _ _ h (lv_sub hl [1, 2, 3, 0] rfl)
  exact LP 613 0 (by omega) (by omega) _ _ _ (by rw [cpk_0, u1_self]; exact h) (lv_sub hl [1, 2, 3, 0] rfl)

/-- a state is recorded: n are there -/
def rcS (S : Nat → Int32) (n a : Nat) : Nat → Int32 := if n = 4 then cpS (cpS (cpS (cpS S 2 1) 3 2) 4 3) a 4 else cpS S a (n + 1)
theorem upd_u (f : Nat → Int32) (k : Nat) (v w : Int32) : upd (upd f k v) k w = upd f k w := by
  funext j
  by_cases h : j = k
  · subst h
    rw [upd_s, upd_s]
  · rw [upd_n h, upd_n h, upd_n h]
theorem u1_u1 (G : GG) (k : Nat) (f g : Nat → Int32) : u1 (u1 G k f) k g = u1 G k g := by
  funext a
  by_cases h : a = k
  · simp [u1, h]
  · simp [u1, h]
theorem u1_comm {G : GG} {k j : Nat} (h : k ≠ j) (f g : Nat → Int32) : u1 (u1 G k f) j g = u1 (u1 G j g) k f := by
  funext a
  by_cases h1 : a = j
  · subst h1
    simp [u1, Ne.symm h]
  · by_cases h2 : a = k
    · simp [u1, h1, h2, h]
    · simp [u1, h1, h2]
set_option maxHeartbeats 4000000 in
set_option maxRecDepth 100000 in
theorem c_X8_records (l : Launch) (J : JJ) (z : Nat) (ad : Nat → Nat) (G : GG) (n a : Nat) (hn : G 210 1 = nI n) (hn4 : n ≤ 4) (ha : a = 0 ∨ a = 6) : MV l J z ad yX8_records cX8_records 3 1 [.ref (ad 210), .int (nI a)] G (fun uG => uG = u1 (u1 G 211 (rcS (G 211) n a)) 210 (upd (G 210) 1 (nI (if n = 4 then 4 else n + 1)))) := by
  refine MV.go (by decide) (Nat.le_of_ble_eq_true rfl) ?_
  intro pr e s m args below meth c ls Q X h hl hret
  have hx := X.1
  have hb := X.2.1
  have hown := X.2.2.2.1
  have hts := X.2.2.2.2
  have hl : lv_has ls 3 [(0, .ref (ad 210)), (1, .int (nI a))] := hl
  refine lv_aload_n hx hb dX8_records_0 rfl (lv_at hl 0 rfl) ?_
  refine fg_X8_29 X h dX8_records_1 ?_
  refine lv_as (y := nI n) (hn) ?_
  refine lv_iconst (v := nI 4) hx hb dX8_records_4 (by decide) ?_
  refine lv_icmp_ne (tgt := 39) hx hb dX8_records_5 (by decide) (fun c_5 => ?_) (fun c_5 => ?_)
  · rw [nI_eq (by omega) (by omega)] at c_5
    refine lv_aload_n hx hb dX8_records_39 rfl (lv_at hl 0 rfl) ?_
    refine lv_dup hx hb dX8_records_40 rfl ?_
    refine fg_X8_29 X h dX8_records_41 ?_
    refine lv_as (y := nI n) (hn) ?_
    refine lv_iconst (v := nI 1) hx hb dX8_records_44 (by decide) ?_
    refine lv_iadd hx hb dX8_records_45 ?_
    refine lv_as (y := nI (n + 1)) (nI_addc (by omega)) ?_
    refine fp_X8_29 X h dX8_records_46 (fun H locs h => ?_)
    refine lv_aload_n hx hb dX8_records_49 rfl (lv_at hl 0 rfl) ?_
    refine lv_iload_n hx hb dX8_records_50 rfl (lv_at hl 1 rfl) ?_
    refine lv_aload_n hx hb dX8_records_51 rfl (lv_at hl 0 rfl) ?_
    refine fg_X8_29 X h dX8_records_52 ?_
    refine lv_as (y := nI (n + 1)) (by rw [u1_s, upd_s]) ?_
    refine rg_cvvd (As := [.int (nI a), .int (nI (n + 1))]) (rest := []) X hl.1 h (c_X8_copies l J z ad (u1 G 210 (upd (G 210) 1 (nI (n + 1)))) a (n + 1) (by omega) (by omega) (by omega)) mw_176 mw_177 mw_178 mw_5 mw_179 pdX8_copies (by decide) (xo_210 J ad _) rfl rfl ⟨Nat.le_of_ble_eq_true rfl, Nat.le_of_ble_eq_true rfl⟩ ⟨Nat.le_of_ble_eq_true rfl, Nat.le_of_ble_eq_true rfl⟩ rfl (Nat.le_of_ble_eq_true rfl) dX8_records_55 (fun H locs h => ?_)
    exact hret (u1 (u1 G 210 (upd (G 210) 1 (nI (n + 1)))) 211 (cpS ((u1 G 210 (upd (G 210) 1 (nI (n + 1)))) 211) a (n + 1))) _ _ 58 _ (by unfold rcS; rw [if_neg c_5, if_neg c_5]; simp only [u1_s, u1_u1, upd_u, u1_n (show (210 : Nat) ≠ 211 by decide), u1_n (show (211 : Nat) ≠ 210 by decide), u1_comm (show (210 : Nat) ≠ 211 by decide)]) h dX8_records_58
  · rw [nI_eq (by omega) (by omega)] at c_5
    refine lv_iconst (v := nI 1) hx hb dX8_records_8 (by decide) ?_
    refine lv_istore_n (lv' := [(2, .int (nI 1)), (0, .ref (ad 210)), (1, .int (nI a))]) hx hb dX8_records_9 rfl hl (by decide) rfl (fun ls hl => ?_)
    refine lv_iload_n hx hb dX8_records_10 rfl (lv_at hl 0 rfl) ?_
    refine lv_iconst (v := nI 4) hx hb dX8_records_11 (by decide) ?_
    refine lv_icmp_ge (tgt := 29) hx hb dX8_records_12 (by decide) (fun c_12 => absurd c_12 (by decide)) (fun c_12 => ?_)
    refine lv_aload_n hx hb dX8_records_15 rfl (lv_at hl 1 rfl) ?_
    refine lv_iload_n hx hb dX8_records_16 rfl (lv_at hl 0 rfl) ?_
    refine lv_iconst (v := nI 1) hx hb dX8_records_17 (by decide) ?_
    refine lv_iadd hx hb dX8_records_18 ?_
    refine lv_as (y := nI 2) (nI_addc (by omega)) ?_
    refine lv_iload_n hx hb dX8_records_19 rfl (lv_at hl 0 rfl) ?_
    refine rg_cvvd (As := [.int (nI 2), .int (nI 1)]) (rest := []) X hl.1 h (c_X8_copies l J z ad G 2 1 (by omega) (by omega) (by omega)) mw_176 mw_177 mw_178 mw_5 mw_179 pdX8_copies (by decide) (xo_210 J ad _) rfl rfl ⟨Nat.le_of_ble_eq_true rfl, Nat.le_of_ble_eq_true rfl⟩ ⟨Nat.le_of_ble_eq_true rfl, Nat.le_of_ble_eq_true rfl⟩ rfl (Nat.le_of_ble_eq_true rfl) dX8_records_20 (fun H locs h => ?_)
    refine lv_iinc (v := nI 2) (lv' := [(2, .int (nI 2)), (0, .ref (ad 210)), (1, .int (nI a))]) hx hb dX8_records_23 hl (k := 0) rfl (nI_addc (b := 1) (by omega)) (by decide) rfl (fun ls hl => ?_)
    refine lv_goto (tgt := 10) hx hb dX8_records_26 (by decide) ?_
    refine lv_iload_n hx hb dX8_records_10 rfl (lv_at hl 0 rfl) ?_
    refine lv_iconst (v := nI 4) hx hb dX8_records_11 (by decide) ?_
    refine lv_icmp_ge (tgt := 29) hx hb dX8_records_12 (by decide) (fun c_12 => absurd c_12 (by decide)) (fun c_12 => ?_)
    refine lv_aload_n hx hb dX8_records_15 rfl (lv_at hl 1 rfl) ?_
    refine lv_iload_n hx hb dX8_records_16 rfl (lv_at hl 0 rfl) ?_
    refine lv_iconst (v := nI 1) hx hb dX8_records_17 (by decide) ?_
    refine lv_iadd hx hb dX8_records_18 ?_
    refine lv_as (y := nI 3) (nI_addc (by omega)) ?_
    refine lv_iload_n hx hb dX8_records_19 rfl (lv_at hl 0 rfl) ?_
    refine rg_cvvd (As := [.int (nI 3), .int (nI 2)]) (rest := []) X hl.1 h (c_X8_copies l J z ad (u1 G 211 (cpS (G 211) 2 1)) 3 2 (by omega) (by omega) (by omega)) mw_176 mw_177 mw_178 mw_5 mw_179 pdX8_copies (by decide) (xo_210 J ad _) rfl rfl ⟨Nat.le_of_ble_eq_true rfl, Nat.le_of_ble_eq_true rfl⟩ ⟨Nat.le_of_ble_eq_true rfl, Nat.le_of_ble_eq_true rfl⟩ rfl (Nat.le_of_ble_eq_true rfl) dX8_records_20 (fun H locs h => ?_)
    refine lv_iinc (v := nI 3) (lv' := [(2, .int (nI 3)), (0, .ref (ad 210)), (1, .int (nI a))]) hx hb dX8_records_23 hl (k := 0) rfl (nI_addc (b := 1) (by omega)) (by decide) rfl (fun ls hl => ?_)
    refine lv_goto (tgt := 10) hx hb dX8_records_26 (by decide) ?_
    refine lv_iload_n hx hb dX8_records_10 rfl (lv_at hl 0 rfl) ?_
    refine lv_iconst (v := nI 4) hx hb dX8_records_11 (by decide) ?_
    refine lv_icmp_ge (tgt := 29) hx hb dX8_records_12 (by decide) (fun c_12 => absurd c_12 (by decide)) (fun c_12 => ?_)
    refine lv_aload_n hx hb dX8_records_15 rfl (lv_at hl 1 rfl) ?_
    refine lv_iload_n hx hb dX8_records_16 rfl (lv_at hl 0 rfl) ?_
    refine lv_iconst (v := nI 1) hx hb dX8_records_17 (by decide) ?_
    refine lv_iadd hx hb dX8_records_18 ?_
    refine lv_as (y := nI 4) (nI_addc (by omega)) ?_
    refine lv_iload_n hx hb dX8_records_19 rfl (lv_at hl 0 rfl) ?_
    refine rg_cvvd (As := [.int (nI 4), .int (nI 3)]) (rest := []) X hl.1 h (c_X8_copies l J z ad (u1 (u1 G 211 (cpS (G 211) 2 1)) 211 (cpS ((u1 G 211 (cpS (G 211) 2 1)) 211) 3 2)) 4 3 (by omega) (by omega) (by omega)) mw_176 mw_177 mw_178 mw_5 mw_179 pdX8_copies (by decide) (xo_210 J ad _) rfl rfl ⟨Nat.le_of_ble_eq_true rfl, Nat.le_of_ble_eq_true rfl⟩ ⟨Nat.le_of_ble_eq_true rfl, Nat.le_of_ble_eq_true rfl⟩ rfl (Nat.le_of_ble_eq_true rfl) dX8_records_20 (fun H locs h => ?_)
    refine lv_iinc (v := nI 4) (lv' := [(2, .int (nI 4)), (0, .ref (ad 210)), (1, .int (nI a))]) hx hb dX8_records_23 hl (k := 0) rfl (nI_addc (b := 1) (by omega)) (by decide) rfl (fun ls hl => ?_)
    refine lv_goto (tgt := 10) hx hb dX8_records_26 (by decide) ?_
    refine lv_iload_n hx hb dX8_records_10 rfl (lv_at hl 0 rfl) ?_
    refine lv_iconst (v := nI 4) hx hb dX8_records_11 (by decide) ?_
    refine lv_icmp_ge (tgt := 29) hx hb dX8_records_12 (by decide) (fun c_12 => ?_) (fun c_12 => absurd (by decide) c_12)
    refine lv_aload_n hx hb dX8_records_29 rfl (lv_at hl 1 rfl) ?_
    refine lv_dup hx hb dX8_records_30 rfl ?_
    refine fg_X8_29 X h dX8_records_31 ?_
    refine lv_as (y := nI 4) (by rw [u1_n (by decide), u1_n (by decide), u1_n (by decide), hn, c_5]) ?_
    refine lv_iconst (v := nI 1) hx hb dX8_records_34 (by decide) ?_
    refine lv_isub hx hb dX8_records_35 ?_
    refine lv_as (y := nI 3) (nI_subc (by omega)) ?_
    refine fp_X8_29 X h dX8_records_36 (fun H locs h => ?_)
    refine lv_aload_n hx hb dX8_records_39 rfl (lv_at hl 1 rfl) ?_
    refine lv_dup hx hb dX8_records_40 rfl ?_
    refine fg_X8_29 X h dX8_records_41 ?_
    refine lv_as (y := nI 3) (by rw [u1_s, upd_s]) ?_
    refine lv_iconst (v := nI 1) hx hb dX8_records_44 (by decide) ?_
    refine lv_iadd hx hb dX8_records_45 ?_
    refine lv_as (y := nI 4) (nI_addc (by omega)) ?_
    refine fp_X8_29 X h dX8_records_46 (fun H locs h => ?_)
    refine lv_aload_n hx hb dX8_records_49 rfl (lv_at hl 1 rfl) ?_
    refine lv_iload_n hx hb dX8_records_50 rfl (lv_at hl 2 rfl) ?_
    refine lv_aload_n hx hb dX8_records_51 rfl (lv_at hl 1 rfl) ?_
    refine fg_X8_29 X h dX8_records_52 ?_
    refine lv_as (y := nI 4) (by rw [u1_s, upd_s]) ?_
    refine rg_cvvd (As := [.int (nI a), .int (nI 4)]) (rest := []) X hl.1 h (c_X8_copies l J z ad (u1 (u1 (u1 (u1 (u1 G 211 (cpS (G 211) 2 1)) 211 (cpS ((u1 G 211 (cpS (G 211) 2 1)) 211) 3 2)) 211 (cpS ((u1 (u1 G 211 (cpS (G 211) 2 1)) 211 (cpS ((u1 G 211 (cpS (G 211) 2 1)) 211) 3 2)) 211) 4 3)) 210 (upd ((u1 (u1 (u1 G 211 (cpS (G 211) 2 1)) 211 (cpS ((u1 G 211 (cpS (G 211) 2 1)) 211) 3 2)) 211 (cpS ((u1 (u1 G 211 (cpS (G 211) 2 1)) 211 (cpS ((u1 G 211 (cpS (G 211) 2 1)) 211) 3 2)) 211) 4 3)) 210) 1 (nI 3))) 210 (upd ((u1 (u1 (u1 (u1 G 211 (cpS (G 211) 2 1)) 211 (cpS ((u1 G 211 (cpS (G 211) 2 1)) 211) 3 2)) 211 (cpS ((u1 (u1 G 211 (cpS (G 211) 2 1)) 211 (cpS ((u1 G 211 (cpS (G 211) 2 1)) 211) 3 2)) 211) 4 3)) 210 (upd ((u1 (u1 (u1 G 211 (cpS (G 211) 2 1)) 211 (cpS ((u1 G 211 (cpS (G 211) 2 1)) 211) 3 2)) 211 (cpS ((u1 (u1 G 211 (cpS (G 211) 2 1)) 211 (cpS ((u1 G 211 (cpS (G 211) 2 1)) 211) 3 2)) 211) 4 3)) 210) 1 (nI 3))) 210) 1 (nI 4))) a 4 (by omega) (by omega) (by omega)) mw_176 mw_177 mw_178 mw_5 mw_179 pdX8_copies (by decide) (xo_210 J ad _) rfl rfl ⟨Nat.le_of_ble_eq_true rfl, Nat.le_of_ble_eq_true rfl⟩ ⟨Nat.le_of_ble_eq_true rfl, Nat.le_of_ble_eq_true rfl⟩ rfl (Nat.le_of_ble_eq_true rfl) dX8_records_55 (fun H locs h => ?_)
    exact hret (u1 (u1 (u1 (u1 (u1 (u1 G 211 (cpS (G 211) 2 1)) 211 (cpS ((u1 G 211 (cpS (G 211) 2 1)) 211) 3 2)) 211 (cpS ((u1 (u1 G 211 (cpS (G 211) 2 1)) 211 (cpS ((u1 G 211 (cpS (G 211) 2 1)) 211) 3 2)) 211) 4 3)) 210 (upd ((u1 (u1 (u1 G 211 (cpS (G 211) 2 1)) 211 (cpS ((u1 G 211 (cpS (G 211) 2 1)) 211) 3 2)) 211 (cpS ((u1 (u1 G 211 (cpS (G 211) 2 1)) 211 (cpS ((u1 G 211 (cpS (G 211) 2 1)) 211) 3 2)) 211) 4 3)) 210) 1 (nI 3))) 210 (upd ((u1 (u1 (u1 (u1 G 211 (cpS (G 211) 2 1)) 211 (cpS ((u1 G 211 (cpS (G 211) 2 1)) 211) 3 2)) 211 (cpS ((u1 (u1 G 211 (cpS (G 211) 2 1)) 211 (cpS ((u1 G 211 (cpS (G 211) 2 1)) 211) 3 2)) 211) 4 3)) 210 (upd ((u1 (u1 (u1 G 211 (cpS (G 211) 2 1)) 211 (cpS ((u1 G 211 (cpS (G 211) 2 1)) 211) 3 2)) 211 (cpS ((u1 (u1 G 211 (cpS (G 211) 2 1)) 211 (cpS ((u1 G 211 (cpS (G 211) 2 1)) 211) 3 2)) 211) 4 3)) 210) 1 (nI 3))) 210) 1 (nI 4))) 211 (cpS ((u1 (u1 (u1 (u1 (u1 G 211 (cpS (G 211) 2 1)) 211 (cpS ((u1 G 211 (cpS (G 211) 2 1)) 211) 3 2)) 211 (cpS ((u1 (u1 G 211 (cpS (G 211) 2 1)) 211 (cpS ((u1 G 211 (cpS (G 211) 2 1)) 211) 3 2)) 211) 4 3)) 210 (upd ((u1 (u1 (u1 G 211 (cpS (G 211) 2 1)) 211 (cpS ((u1 G 211 (cpS (G 211) 2 1)) 211) 3 2)) 211 (cpS ((u1 (u1 G 211 (cpS (G 211) 2 1)) 211 (cpS ((u1 G 211 (cpS (G 211) 2 1)) 211) 3 2)) 211) 4 3)) 210) 1 (nI 3))) 210 (upd ((u1 (u1 (u1 (u1 G 211 (cpS (G 211) 2 1)) 211 (cpS ((u1 G 211 (cpS (G 211) 2 1)) 211) 3 2)) 211 (cpS ((u1 (u1 G 211 (cpS (G 211) 2 1)) 211 (cpS ((u1 G 211 (cpS (G 211) 2 1)) 211) 3 2)) 211) 4 3)) 210 (upd ((u1 (u1 (u1 G 211 (cpS (G 211) 2 1)) 211 (cpS ((u1 G 211 (cpS (G 211) 2 1)) 211) 3 2)) 211 (cpS ((u1 (u1 G 211 (cpS (G 211) 2 1)) 211 (cpS ((u1 G 211 (cpS (G 211) 2 1)) 211) 3 2)) 211) 4 3)) 210) 1 (nI 3))) 210) 1 (nI 4))) 211) a 4)) _ _ 58 _ (by unfold rcS; rw [if_pos c_5, if_pos c_5]; simp only [u1_s, u1_u1, upd_u, u1_n (show (210 : Nat) ≠ 211 by decide), u1_n (show (211 : Nat) ≠ 210 by decide), u1_comm (show (210 : Nat) ≠ 211 by decide)]) h dX8_records_58
