
/-- the object's fields tell the thing that was read -/
def thF (f : Nat → Int32) (y : TH) : Prop := (y.1 = 0 ∧ f 10 = nI 112 ∧ f 11 = nI y.2.1 ∧ f 12 = nI y.2.2.1 ∧ f 13 = nI y.2.2.2.1 ∧ f 14 = nI y.2.2.2.2) ∨ (y.1 = 1 ∧ f 10 = nI 121 ∧ f 11 = nI y.2.1 ∧ f 12 = nI y.2.2.1) ∨ (y.1 = 2 ∧ f 10 = nI 46 ∧ f 11 = nI y.2.1)
def thB (y : TH) : Prop := (y.1 = 0 ∧ y.2.1 ≤ 11 ∧ y.2.2.1 ≤ 6 ∧ y.2.2.2.1 ≤ 19 ∧ y.2.2.2.2 ≤ 2) ∨ (y.1 = 1 ∧ y.2.1 ≤ 11 ∧ y.2.2.1 ≤ 11) ∨ (y.1 = 2 ∧ y.2.1 ≤ 99)
def rdOK (f f1 : Nat → Int32) (o : Option TH × Nat) (n : Nat) (ans : Int32) : Prop := (∀ j, j < 9 → f1 j = f j) ∧ f1 9 = nI o.2 ∧ o.2 ≤ n ∧ ((∃ y, o.1 = some y ∧ ans = nI 1 ∧ thF f1 y ∧ thB y) ∨ (o.1 = none ∧ ans = nI 0))

theorem lk3 {x : Int32} (h1 : ¬ x = nI 46) (h2 : ¬ x = nI 112) (h3 : ¬ x = nI 121) : Op.lookupswitch.offset (#[((46 : Int), (99 : Int)), (112, 34), (121, 39)] : Array (Int × Int)).toList 125 x.toInt = 125 := by
  show Op.lookupswitch.offset [((46 : Int), (99 : Int)), (112, 34), (121, 39)] 125 x.toInt = 125
  rw [lv_osw h1 (by decide), lv_osw h2 (by decide), lv_osw h3 (by decide)]
  rfl
set_option maxHeartbeats 4000000 in
set_option maxRecDepth 100000 in
theorem c_X8_readsPetition (l : Launch) (J : JJ) (z : Nat) (ad : Nat → Nat) (G : GG) (f : Nat → Int32) (n q : Nat) (hn : f 4 = nI n) (hn60 : n ≤ 60) (hq : f 9 = nI q) (hqn : q ≤ n)  : MI l J z ad yX8_readsPetition cX8_readsPetition 1 .boolean 3 [.ref (ad 210)] (u1 G 210 f) (fun ans uG => ∃ f1, uG = u1 G 210 f1 ∧ (∀ j, j < 9 → f1 j = f j) ∧ f1 10 = f 10 ∧ f1 9 = nI (thP (G 212) n q).2 ∧ (thP (G 212) n q).2 ≤ n ∧ ((∃ d x g k, (thP (G 212) n q).1 = some (0, d, x, g, k) ∧ ans = nI 1 ∧ f1 11 = nI d ∧ f1 12 = nI x ∧ f1 13 = nI g ∧ f1 14 = nI k ∧ d ≤ 11 ∧ x ≤ 6 ∧ g ≤ 19 ∧ k ≤ 2) ∨ ((thP (G 212) n q).1 = none ∧ ans = nI 0))) := by
  refine MZ.go (by decide) (Nat.le_of_ble_eq_true rfl) ?_
  intro pr e s m args below meth c ls Q X h hl hret
  have hx := X.1
  have hb := X.2.1
  have hown := X.2.2.2.1
  have hts := X.2.2.2.2
  have hl : lv_has ls 1 [(0, .ref (ad 210))] := hl
  refine lv_aload_n hx hb dX8_readsPetition_0 rfl (lv_at hl 0 rfl) ?_
  refine lv_aload_n hx hb dX8_readsPetition_1 rfl (lv_at hl 0 rfl) ?_
  refine lv_iconst (v := nI 0) hx hb dX8_readsPetition_2 (by decide) ?_
  refine lv_bipush (v := nI 11) hx hb dX8_readsPetition_3 (by decide) ?_
  obtain ⟨o_5, p_5, hN_5⟩ : ∃ o q2, num (G 212) n q 0 11 = (o, q2) := ⟨_, _, rfl⟩
  have hB_5 := num_ok hN_5 (by omega)
  refine rg_civd (As := [.int (nI 0), .int (nI 11)]) (rest := [.ref (ad 210)]) X hl.1 h (c_X8_number l J z ad G f n q hn hn60 hq (by omega) 0 11 (by omega) (by omega) o_5 p_5 hN_5) mw_518 mw_519 mw_520 mw_5 mw_521 pdX8_number (by decide) (xo_210 J ad _) rfl rfl ⟨Nat.le_of_ble_eq_true rfl, Nat.le_of_ble_eq_true rfl⟩ ⟨Nat.le_of_ble_eq_true rfl, Nat.le_of_ble_eq_true rfl⟩ rfl (Nat.le_of_ble_eq_true rfl) dX8_readsPetition_5 (fun H locs h => ?_)
  rcases o_5 with _ | d_5
  · refine lv_as (y := (-5)) rfl ?_
    refine fp_X8_134 X h dX8_readsPetition_8 (fun H locs h => ?_)
    rw [u1_uu] at h
    refine lv_aload_n hx hb dX8_readsPetition_11 rfl (lv_at hl 0 rfl) ?_
    refine lv_aload_n hx hb dX8_readsPetition_12 rfl (lv_at hl 0 rfl) ?_
    refine fg_X8_134 X h dX8_readsPetition_13 ?_
    refine lv_as (y := (-5)) ((congrFun (u1_s G 210 (upd (upd f 9 (nI p_5)) 11 (-5))) 11).trans (by rw [upd_s])) ?_
    refine lv_bipush (v := (-5)) hx hb dX8_readsPetition_16 (by decide) ?_
    refine lv_icmp_eq (tgt := 40) hx hb dX8_readsPetition_18 (by decide) (fun c_18 => ?_) (fun c_18 => absurd (by decide) c_18)
    refine lv_bipush (v := (-5)) hx hb dX8_readsPetition_40 (by decide) ?_
    refine fp_X8_140 X h dX8_readsPetition_42 (fun H locs h => ?_)
    rw [u1_uu] at h
    refine lv_aload_n hx hb dX8_readsPetition_45 rfl (lv_at hl 0 rfl) ?_
    refine lv_aload_n hx hb dX8_readsPetition_46 rfl (lv_at hl 0 rfl) ?_
    refine fg_X8_140 X h dX8_readsPetition_47 ?_
    refine lv_as (y := (-5)) ((congrFun (u1_s G 210 (upd (upd (upd f 9 (nI p_5)) 11 (-5)) 12 (-5))) 12).trans (by rw [upd_s])) ?_
    refine lv_bipush (v := (-5)) hx hb dX8_readsPetition_50 (by decide) ?_
    refine lv_icmp_eq (tgt := 74) hx hb dX8_readsPetition_52 (by decide) (fun c_52 => ?_) (fun c_52 => absurd (by decide) c_52)
    refine lv_bipush (v := (-5)) hx hb dX8_readsPetition_74 (by decide) ?_
    refine fp_X8_143 X h dX8_readsPetition_76 (fun H locs h => ?_)
    rw [u1_uu] at h
    refine lv_aload_n hx hb dX8_readsPetition_79 rfl (lv_at hl 0 rfl) ?_
    refine lv_aload_n hx hb dX8_readsPetition_80 rfl (lv_at hl 0 rfl) ?_
    refine fg_X8_143 X h dX8_readsPetition_81 ?_
    refine lv_as (y := (-5)) ((congrFun (u1_s G 210 (upd (upd (upd (upd f 9 (nI p_5)) 11 (-5)) 12 (-5)) 13 (-5))) 13).trans (by rw [upd_s])) ?_
    refine lv_bipush (v := (-5)) hx hb dX8_readsPetition_84 (by decide) ?_
    refine lv_icmp_ne (tgt := 94) hx hb dX8_readsPetition_86 (by decide) (fun c_86 => absurd (by decide) c_86) (fun c_86 => ?_)
    refine lv_bipush (v := (-5)) hx hb dX8_readsPetition_89 (by decide) ?_
    refine lv_goto (tgt := 135) hx hb dX8_readsPetition_91 (by decide) ?_
    refine fp_X8_146 X h dX8_readsPetition_135 (fun H locs h => ?_)
    rw [u1_uu] at h
    refine lv_aload_n hx hb dX8_readsPetition_138 rfl (lv_at hl 0 rfl) ?_
    refine fg_X8_146 X h dX8_readsPetition_139 ?_
    refine lv_as (y := (-5)) ((congrFun (u1_s G 210 (upd (upd (upd (upd (upd f 9 (nI p_5)) 11 (-5)) 12 (-5)) 13 (-5)) 14 (-5))) 14).trans (by rw [upd_s])) ?_
    refine lv_bipush (v := (-5)) hx hb dX8_readsPetition_142 (by decide) ?_
    refine lv_icmp_eq (tgt := 151) hx hb dX8_readsPetition_144 (by decide) (fun c_144 => ?_) (fun c_144 => absurd (by decide) c_144)
    refine lv_iconst (v := nI 0) hx hb dX8_readsPetition_151 (by decide) ?_
    have e : thP (G 212) n q = (none, p_5) := by
      simp only [thP, thK, hN_5]
    exact hret (nI 0) (u1 G 210 (upd (upd (upd (upd (upd f 9 (nI p_5)) 11 (-5)) 12 (-5)) 13 (-5)) 14 (-5))) _ _ 152 _ (⟨_, rfl, (fun j hj => by rw [upd_n (by omega), upd_n (by omega), upd_n (by omega), upd_n (by omega), upd_n (by omega)]), by rw [upd_n (by decide), upd_n (by decide), upd_n (by decide), upd_n (by decide), upd_n (by decide)], by rw [e, upd_n (by decide), upd_n (by decide), upd_n (by decide), upd_n (by decide), upd_s], by rw [e]; omega, Or.inr ⟨by rw [e], rfl⟩⟩) h rfl dX8_readsPetition_152
  · have hV_5 := hB_5.2.2 d_5 rfl
    refine lv_as (y := nI d_5) rfl ?_
    refine fp_X8_134 X h dX8_readsPetition_8 (fun H locs h => ?_)
    rw [u1_uu] at h
    refine lv_aload_n hx hb dX8_readsPetition_11 rfl (lv_at hl 0 rfl) ?_
    refine lv_aload_n hx hb dX8_readsPetition_12 rfl (lv_at hl 0 rfl) ?_
    refine fg_X8_134 X h dX8_readsPetition_13 ?_
    refine lv_as (y := nI d_5) ((congrFun (u1_s G 210 (upd (upd f 9 (nI p_5)) 11 (nI d_5))) 11).trans (by rw [upd_s])) ?_
    refine lv_bipush (v := (-5)) hx hb dX8_readsPetition_16 (by decide) ?_
    refine lv_icmp_eq (tgt := 40) hx hb dX8_readsPetition_18 (by decide) (fun c_18 => absurd c_18 (nI_n5 (by omega))) (fun c_18 => ?_)
    refine lv_aload_n hx hb dX8_readsPetition_21 rfl (lv_at hl 0 rfl) ?_
    refine lv_bipush (v := nI 58) hx hb dX8_readsPetition_22 (by decide) ?_
    rcases Classical.em (isC (G 212) n p_5 58) with hC_24 | hC_24
    · have hL_24 := hC_24.1
      refine rg_civd (As := [.int (nI 58)]) (rest := [.ref (ad 210)]) X hl.1 h (c_X8_takes_t l J z ad G (upd (upd f 9 (nI p_5)) 11 (nI d_5)) n p_5 (by rw [upd_n (by decide), upd_n (by decide)]; exact hn) hn60 (by rw [upd_n (by decide), upd_s]) (by omega) 58 (by omega) hC_24) mw_526 mw_527 mw_528 mw_5 mw_529 pdX8_takes (by decide) (xo_210 J ad _) rfl rfl ⟨Nat.le_of_ble_eq_true rfl, Nat.le_of_ble_eq_true rfl⟩ ⟨Nat.le_of_ble_eq_true rfl, Nat.le_of_ble_eq_true rfl⟩ rfl (Nat.le_of_ble_eq_true rfl) dX8_readsPetition_24 (fun H locs h => ?_)
      refine lv_if_eq (tgt := 40) hx hb dX8_readsPetition_27 (by decide) (fun c_27 => absurd c_27 (by decide)) (fun c_27 => ?_)
      refine lv_aload_n hx hb dX8_readsPetition_30 rfl (lv_at hl 0 rfl) ?_
      refine lv_iconst (v := nI 0) hx hb dX8_readsPetition_31 (by decide) ?_
      refine lv_bipush (v := nI 6) hx hb dX8_readsPetition_32 (by decide) ?_
      obtain ⟨o_34, p_34, hN_34⟩ : ∃ o q2, num (G 212) n (p_5 + 1) 0 6 = (o, q2) := ⟨_, _, rfl⟩
      have hB_34 := num_ok hN_34 (by omega)
      refine rg_civd (As := [.int (nI 0), .int (nI 6)]) (rest := [.ref (ad 210)]) X hl.1 h (c_X8_number l J z ad G (upd (upd (upd f 9 (nI p_5)) 11 (nI d_5)) 9 (nI (p_5 + 1))) n (p_5 + 1) (by rw [upd_n (by decide), upd_n (by decide), upd_n (by decide)]; exact hn) hn60 (by rw [upd_s]) (by omega) 0 6 (by omega) (by omega) o_34 p_34 hN_34) mw_518 mw_519 mw_520 mw_5 mw_521 pdX8_number (by decide) (xo_210 J ad _) rfl rfl ⟨Nat.le_of_ble_eq_true rfl, Nat.le_of_ble_eq_true rfl⟩ ⟨Nat.le_of_ble_eq_true rfl, Nat.le_of_ble_eq_true rfl⟩ rfl (Nat.le_of_ble_eq_true rfl) dX8_readsPetition_34 (fun H locs h => ?_)
      rcases o_34 with _ | d_34
      · refine lv_as (y := (-5)) rfl ?_
        refine lv_goto (tgt := 42) hx hb dX8_readsPetition_37 (by decide) ?_
        refine fp_X8_140 X h dX8_readsPetition_42 (fun H locs h => ?_)
        rw [u1_uu] at h
        refine lv_aload_n hx hb dX8_readsPetition_45 rfl (lv_at hl 0 rfl) ?_
        refine lv_aload_n hx hb dX8_readsPetition_46 rfl (lv_at hl 0 rfl) ?_
        refine fg_X8_140 X h dX8_readsPetition_47 ?_
        refine lv_as (y := (-5)) ((congrFun (u1_s G 210 (upd (upd (upd (upd (upd f 9 (nI p_5)) 11 (nI d_5)) 9 (nI (p_5 + 1))) 9 (nI p_34)) 12 (-5))) 12).trans (by rw [upd_s])) ?_
        refine lv_bipush (v := (-5)) hx hb dX8_readsPetition_50 (by decide) ?_
        refine lv_icmp_eq (tgt := 74) hx hb dX8_readsPetition_52 (by decide) (fun c_52 => ?_) (fun c_52 => absurd (by decide) c_52)
        refine lv_bipush (v := (-5)) hx hb dX8_readsPetition_74 (by decide) ?_
        refine fp_X8_143 X h dX8_readsPetition_76 (fun H locs h => ?_)
        rw [u1_uu] at h
        refine lv_aload_n hx hb dX8_readsPetition_79 rfl (lv_at hl 0 rfl) ?_
        refine lv_aload_n hx hb dX8_readsPetition_80 rfl (lv_at hl 0 rfl) ?_
        refine fg_X8_143 X h dX8_readsPetition_81 ?_
        refine lv_as (y := (-5)) ((congrFun (u1_s G 210 (upd (upd (upd (upd (upd (upd f 9 (nI p_5)) 11 (nI d_5)) 9 (nI (p_5 + 1))) 9 (nI p_34)) 12 (-5)) 13 (-5))) 13).trans (by rw [upd_s])) ?_
        refine lv_bipush (v := (-5)) hx hb dX8_readsPetition_84 (by decide) ?_
        refine lv_icmp_ne (tgt := 94) hx hb dX8_readsPetition_86 (by decide) (fun c_86 => absurd (by decide) c_86) (fun c_86 => ?_)
        refine lv_bipush (v := (-5)) hx hb dX8_readsPetition_89 (by decide) ?_
        refine lv_goto (tgt := 135) hx hb dX8_readsPetition_91 (by decide) ?_
        refine fp_X8_146 X h dX8_readsPetition_135 (fun H locs h => ?_)
        rw [u1_uu] at h
        refine lv_aload_n hx hb dX8_readsPetition_138 rfl (lv_at hl 0 rfl) ?_
        refine fg_X8_146 X h dX8_readsPetition_139 ?_
        refine lv_as (y := (-5)) ((congrFun (u1_s G 210 (upd (upd (upd (upd (upd (upd (upd f 9 (nI p_5)) 11 (nI d_5)) 9 (nI (p_5 + 1))) 9 (nI p_34)) 12 (-5)) 13 (-5)) 14 (-5))) 14).trans (by rw [upd_s])) ?_
        refine lv_bipush (v := (-5)) hx hb dX8_readsPetition_142 (by decide) ?_
        refine lv_icmp_eq (tgt := 151) hx hb dX8_readsPetition_144 (by decide) (fun c_144 => ?_) (fun c_144 => absurd (by decide) c_144)
        refine lv_iconst (v := nI 0) hx hb dX8_readsPetition_151 (by decide) ?_
        have e : thP (G 212) n q = (none, p_34) := by
          simp only [thP, thK, hN_5, cif_t hC_24, hN_34]
        exact hret (nI 0) (u1 G 210 (upd (upd (upd (upd (upd (upd (upd f 9 (nI p_5)) 11 (nI d_5)) 9 (nI (p_5 + 1))) 9 (nI p_34)) 12 (-5)) 13 (-5)) 14 (-5))) _ _ 152 _ (⟨_, rfl, (fun j hj => by rw [upd_n (by omega), upd_n (by omega), upd_n (by omega), upd_n (by omega), upd_n (by omega), upd_n (by omega), upd_n (by omega)]), by rw [upd_n (by decide), upd_n (by decide), upd_n (by decide), upd_n (by decide), upd_n (by decide), upd_n (by decide), upd_n (by decide)], by rw [e, upd_n (by decide), upd_n (by decide), upd_n (by decide), upd_s], by rw [e]; omega, Or.inr ⟨by rw [e], rfl⟩⟩) h rfl dX8_readsPetition_152
      · have hV_34 := hB_34.2.2 d_34 rfl
        refine lv_as (y := nI d_34) rfl ?_
        refine lv_goto (tgt := 42) hx hb dX8_readsPetition_37 (by decide) ?_
        refine fp_X8_140 X h dX8_readsPetition_42 (fun H locs h => ?_)
        rw [u1_uu] at h
        refine lv_aload_n hx hb dX8_readsPetition_45 rfl (lv_at hl 0 rfl) ?_
        refine lv_aload_n hx hb dX8_readsPetition_46 rfl (lv_at hl 0 rfl) ?_
        refine fg_X8_140 X h dX8_readsPetition_47 ?_
        refine lv_as (y := nI d_34) ((congrFun (u1_s G 210 (upd (upd (upd (upd (upd f 9 (nI p_5)) 11 (nI d_5)) 9 (nI (p_5 + 1))) 9 (nI p_34)) 12 (nI d_34))) 12).trans (by rw [upd_s])) ?_
        refine lv_bipush (v := (-5)) hx hb dX8_readsPetition_50 (by decide) ?_
        refine lv_icmp_eq (tgt := 74) hx hb dX8_readsPetition_52 (by decide) (fun c_52 => absurd c_52 (nI_n5 (by omega))) (fun c_52 => ?_)
        refine lv_aload_n hx hb dX8_readsPetition_55 rfl (lv_at hl 0 rfl) ?_
        refine lv_bipush (v := nI 46) hx hb dX8_readsPetition_56 (by decide) ?_
        rcases Classical.em (isC (G 212) n p_34 46) with hC_58 | hC_58
        · have hL_58 := hC_58.1
          refine rg_civd (As := [.int (nI 46)]) (rest := [.ref (ad 210)]) X hl.1 h (c_X8_takes_t l J z ad G (upd (upd (upd (upd (upd f 9 (nI p_5)) 11 (nI d_5)) 9 (nI (p_5 + 1))) 9 (nI p_34)) 12 (nI d_34)) n p_34 (by rw [upd_n (by decide), upd_n (by decide), upd_n (by decide), upd_n (by decide), upd_n (by decide)]; exact hn) hn60 (by rw [upd_n (by decide), upd_s]) (by omega) 46 (by omega) hC_58) mw_526 mw_527 mw_528 mw_5 mw_529 pdX8_takes (by decide) (xo_210 J ad _) rfl rfl ⟨Nat.le_of_ble_eq_true rfl, Nat.le_of_ble_eq_true rfl⟩ ⟨Nat.le_of_ble_eq_true rfl, Nat.le_of_ble_eq_true rfl⟩ rfl (Nat.le_of_ble_eq_true rfl) dX8_readsPetition_58 (fun H locs h => ?_)
          refine lv_if_eq (tgt := 74) hx hb dX8_readsPetition_61 (by decide) (fun c_61 => absurd c_61 (by decide)) (fun c_61 => ?_)
          refine lv_aload_n hx hb dX8_readsPetition_64 rfl (lv_at hl 0 rfl) ?_
          refine lv_iconst (v := nI 0) hx hb dX8_readsPetition_65 (by decide) ?_
          refine lv_bipush (v := nI 19) hx hb dX8_readsPetition_66 (by decide) ?_
          obtain ⟨o_68, p_68, hN_68⟩ : ∃ o q2, num (G 212) n (p_34 + 1) 0 19 = (o, q2) := ⟨_, _, rfl⟩
          have hB_68 := num_ok hN_68 (by omega)
          refine rg_civd (As := [.int (nI 0), .int (nI 19)]) (rest := [.ref (ad 210)]) X hl.1 h (c_X8_number l J z ad G (upd (upd (upd (upd (upd (upd f 9 (nI p_5)) 11 (nI d_5)) 9 (nI (p_5 + 1))) 9 (nI p_34)) 12 (nI d_34)) 9 (nI (p_34 + 1))) n (p_34 + 1) (by rw [upd_n (by decide), upd_n (by decide), upd_n (by decide), upd_n (by decide), upd_n (by decide), upd_n (by decide)]; exact hn) hn60 (by rw [upd_s]) (by omega) 0 19 (by omega) (by omega) o_68 p_68 hN_68) mw_518 mw_519 mw_520 mw_5 mw_521 pdX8_number (by decide) (xo_210 J ad _) rfl rfl ⟨Nat.le_of_ble_eq_true rfl, Nat.le_of_ble_eq_true rfl⟩ ⟨Nat.le_of_ble_eq_true rfl, Nat.le_of_ble_eq_true rfl⟩ rfl (Nat.le_of_ble_eq_true rfl) dX8_readsPetition_68 (fun H locs h => ?_)
          rcases o_68 with _ | d_68
          · refine lv_as (y := (-5)) rfl ?_
            refine lv_goto (tgt := 76) hx hb dX8_readsPetition_71 (by decide) ?_
            refine fp_X8_143 X h dX8_readsPetition_76 (fun H locs h => ?_)
            rw [u1_uu] at h
            refine lv_aload_n hx hb dX8_readsPetition_79 rfl (lv_at hl 0 rfl) ?_
            refine lv_aload_n hx hb dX8_readsPetition_80 rfl (lv_at hl 0 rfl) ?_
            refine fg_X8_143 X h dX8_readsPetition_81 ?_
            refine lv_as (y := (-5)) ((congrFun (u1_s G 210 (upd (upd (upd (upd (upd (upd (upd (upd f 9 (nI p_5)) 11 (nI d_5)) 9 (nI (p_5 + 1))) 9 (nI p_34)) 12 (nI d_34)) 9 (nI (p_34 + 1))) 9 (nI p_68)) 13 (-5))) 13).trans (by rw [upd_s])) ?_
            refine lv_bipush (v := (-5)) hx hb dX8_readsPetition_84 (by decide) ?_
            refine lv_icmp_ne (tgt := 94) hx hb dX8_readsPetition_86 (by decide) (fun c_86 => absurd (by decide) c_86) (fun c_86 => ?_)
            refine lv_bipush (v := (-5)) hx hb dX8_readsPetition_89 (by decide) ?_
            refine lv_goto (tgt := 135) hx hb dX8_readsPetition_91 (by decide) ?_
            refine fp_X8_146 X h dX8_readsPetition_135 (fun H locs h => ?_)
            rw [u1_uu] at h
            refine lv_aload_n hx hb dX8_readsPetition_138 rfl (lv_at hl 0 rfl) ?_
            refine fg_X8_146 X h dX8_readsPetition_139 ?_
            refine lv_as (y := (-5)) ((congrFun (u1_s G 210 (upd (upd (upd (upd (upd (upd (upd (upd (upd f 9 (nI p_5)) 11 (nI d_5)) 9 (nI (p_5 + 1))) 9 (nI p_34)) 12 (nI d_34)) 9 (nI (p_34 + 1))) 9 (nI p_68)) 13 (-5)) 14 (-5))) 14).trans (by rw [upd_s])) ?_
            refine lv_bipush (v := (-5)) hx hb dX8_readsPetition_142 (by decide) ?_
            refine lv_icmp_eq (tgt := 151) hx hb dX8_readsPetition_144 (by decide) (fun c_144 => ?_) (fun c_144 => absurd (by decide) c_144)
            refine lv_iconst (v := nI 0) hx hb dX8_readsPetition_151 (by decide) ?_
            have e : thP (G 212) n q = (none, p_68) := by
              simp only [thP, thK, hN_5, cif_t hC_24, hN_34, cif_t hC_58, hN_68]
            exact hret (nI 0) (u1 G 210 (upd (upd (upd (upd (upd (upd (upd (upd (upd f 9 (nI p_5)) 11 (nI d_5)) 9 (nI (p_5 + 1))) 9 (nI p_34)) 12 (nI d_34)) 9 (nI (p_34 + 1))) 9 (nI p_68)) 13 (-5)) 14 (-5))) _ _ 152 _ (⟨_, rfl, (fun j hj => by rw [upd_n (by omega), upd_n (by omega), upd_n (by omega), upd_n (by omega), upd_n (by omega), upd_n (by omega), upd_n (by omega), upd_n (by omega), upd_n (by omega)]), by rw [upd_n (by decide), upd_n (by decide), upd_n (by decide), upd_n (by decide), upd_n (by decide), upd_n (by decide), upd_n (by decide), upd_n (by decide), upd_n (by decide)], by rw [e, upd_n (by decide), upd_n (by decide), upd_s], by rw [e]; omega, Or.inr ⟨by rw [e], rfl⟩⟩) h rfl dX8_readsPetition_152
          · have hV_68 := hB_68.2.2 d_68 rfl
            refine lv_as (y := nI d_68) rfl ?_
            refine lv_goto (tgt := 76) hx hb dX8_readsPetition_71 (by decide) ?_
            refine fp_X8_143 X h dX8_readsPetition_76 (fun H locs h => ?_)
            rw [u1_uu] at h
            refine lv_aload_n hx hb dX8_readsPetition_79 rfl (lv_at hl 0 rfl) ?_
            refine lv_aload_n hx hb dX8_readsPetition_80 rfl (lv_at hl 0 rfl) ?_
            refine fg_X8_143 X h dX8_readsPetition_81 ?_
            refine lv_as (y := nI d_68) ((congrFun (u1_s G 210 (upd (upd (upd (upd (upd (upd (upd (upd f 9 (nI p_5)) 11 (nI d_5)) 9 (nI (p_5 + 1))) 9 (nI p_34)) 12 (nI d_34)) 9 (nI (p_34 + 1))) 9 (nI p_68)) 13 (nI d_68))) 13).trans (by rw [upd_s])) ?_
            refine lv_bipush (v := (-5)) hx hb dX8_readsPetition_84 (by decide) ?_
            refine lv_icmp_ne (tgt := 94) hx hb dX8_readsPetition_86 (by decide) (fun c_86 => ?_) (fun c_86 => absurd c_86 (nI_n5 (by omega)))
            refine lv_aload_n hx hb dX8_readsPetition_94 rfl (lv_at hl 0 rfl) ?_
            refine lv_bipush (v := nI 43) hx hb dX8_readsPetition_95 (by decide) ?_
            rcases Classical.em (isC (G 212) n p_68 43) with hC_97 | hC_97
            · have hL_97 := hC_97.1
              refine rg_civd (As := [.int (nI 43)]) (rest := [.ref (ad 210)]) X hl.1 h (c_X8_takes_t l J z ad G (upd (upd (upd (upd (upd (upd (upd (upd f 9 (nI p_5)) 11 (nI d_5)) 9 (nI (p_5 + 1))) 9 (nI p_34)) 12 (nI d_34)) 9 (nI (p_34 + 1))) 9 (nI p_68)) 13 (nI d_68)) n p_68 (by rw [upd_n (by decide), upd_n (by decide), upd_n (by decide), upd_n (by decide), upd_n (by decide), upd_n (by decide), upd_n (by decide), upd_n (by decide)]; exact hn) hn60 (by rw [upd_n (by decide), upd_s]) (by omega) 43 (by omega) hC_97) mw_526 mw_527 mw_528 mw_5 mw_529 pdX8_takes (by decide) (xo_210 J ad _) rfl rfl ⟨Nat.le_of_ble_eq_true rfl, Nat.le_of_ble_eq_true rfl⟩ ⟨Nat.le_of_ble_eq_true rfl, Nat.le_of_ble_eq_true rfl⟩ rfl (Nat.le_of_ble_eq_true rfl) dX8_readsPetition_97 (fun H locs h => ?_)
              refine lv_if_eq (tgt := 107) hx hb dX8_readsPetition_100 (by decide) (fun c_100 => absurd c_100 (by decide)) (fun c_100 => ?_)
              refine lv_iconst (v := nI 1) hx hb dX8_readsPetition_103 (by decide) ?_
              refine lv_goto (tgt := 135) hx hb dX8_readsPetition_104 (by decide) ?_
              refine fp_X8_146 X h dX8_readsPetition_135 (fun H locs h => ?_)
              rw [u1_uu] at h
              refine lv_aload_n hx hb dX8_readsPetition_138 rfl (lv_at hl 0 rfl) ?_
              refine fg_X8_146 X h dX8_readsPetition_139 ?_
              refine lv_as (y := nI 1) ((congrFun (u1_s G 210 (upd (upd (upd (upd (upd (upd (upd (upd (upd (upd f 9 (nI p_5)) 11 (nI d_5)) 9 (nI (p_5 + 1))) 9 (nI p_34)) 12 (nI d_34)) 9 (nI (p_34 + 1))) 9 (nI p_68)) 13 (nI d_68)) 9 (nI (p_68 + 1))) 14 (nI 1))) 14).trans (by rw [upd_s])) ?_
              refine lv_bipush (v := (-5)) hx hb dX8_readsPetition_142 (by decide) ?_
              refine lv_icmp_eq (tgt := 151) hx hb dX8_readsPetition_144 (by decide) (fun c_144 => absurd c_144 (nI_n5 (by omega))) (fun c_144 => ?_)
              refine lv_iconst (v := nI 1) hx hb dX8_readsPetition_147 (by decide) ?_
              refine lv_goto (tgt := 152) hx hb dX8_readsPetition_148 (by decide) ?_
              have e : thP (G 212) n q = (some (0, d_5, d_34, d_68, 1), p_68 + 1) := by
                simp only [thP, thK, hN_5, cif_t hC_24, hN_34, cif_t hC_58, hN_68, cif_t hC_97]
              exact hret (nI 1) (u1 G 210 (upd (upd (upd (upd (upd (upd (upd (upd (upd (upd f 9 (nI p_5)) 11 (nI d_5)) 9 (nI (p_5 + 1))) 9 (nI p_34)) 12 (nI d_34)) 9 (nI (p_34 + 1))) 9 (nI p_68)) 13 (nI d_68)) 9 (nI (p_68 + 1))) 14 (nI 1))) _ _ 152 _ (⟨_, rfl, (fun j hj => by rw [upd_n (by omega), upd_n (by omega), upd_n (by omega), upd_n (by omega), upd_n (by omega), upd_n (by omega), upd_n (by omega), upd_n (by omega), upd_n (by omega), upd_n (by omega)]), by rw [upd_n (by decide), upd_n (by decide), upd_n (by decide), upd_n (by decide), upd_n (by decide), upd_n (by decide), upd_n (by decide), upd_n (by decide), upd_n (by decide), upd_n (by decide)], by rw [e, upd_n (by decide), upd_s], by rw [e]; omega, Or.inl ⟨d_5, d_34, d_68, 1, by rw [e], rfl, (by rw [upd_n (by decide), upd_n (by decide), upd_n (by decide), upd_n (by decide), upd_n (by decide), upd_n (by decide), upd_n (by decide), upd_n (by decide), upd_s]), (by rw [upd_n (by decide), upd_n (by decide), upd_n (by decide), upd_n (by decide), upd_n (by decide), upd_s]), (by rw [upd_n (by decide), upd_n (by decide), upd_s]), (by rw [upd_s]), by omega, by omega, by omega, by omega⟩⟩) h rfl dX8_readsPetition_152
            · refine rg_civd (As := [.int (nI 43)]) (rest := [.ref (ad 210)]) X hl.1 h (c_X8_takes_f l J z ad G (upd (upd (upd (upd (upd (upd (upd (upd f 9 (nI p_5)) 11 (nI d_5)) 9 (nI (p_5 + 1))) 9 (nI p_34)) 12 (nI d_34)) 9 (nI (p_34 + 1))) 9 (nI p_68)) 13 (nI d_68)) n p_68 (by rw [upd_n (by decide), upd_n (by decide), upd_n (by decide), upd_n (by decide), upd_n (by decide), upd_n (by decide), upd_n (by decide), upd_n (by decide)]; exact hn) hn60 (by rw [upd_n (by decide), upd_s]) (by omega) 43 (by omega) hC_97) mw_526 mw_527 mw_528 mw_5 mw_529 pdX8_takes (by decide) (xo_210 J ad _) rfl rfl ⟨Nat.le_of_ble_eq_true rfl, Nat.le_of_ble_eq_true rfl⟩ ⟨Nat.le_of_ble_eq_true rfl, Nat.le_of_ble_eq_true rfl⟩ rfl (Nat.le_of_ble_eq_true rfl) dX8_readsPetition_97 (fun H locs h => ?_)
              refine lv_if_eq (tgt := 107) hx hb dX8_readsPetition_100 (by decide) (fun c_100 => ?_) (fun c_100 => absurd (by decide) c_100)
              refine lv_aload_n hx hb dX8_readsPetition_107 rfl (lv_at hl 0 rfl) ?_
              refine lv_bipush (v := nI 45) hx hb dX8_readsPetition_108 (by decide) ?_
              rcases Classical.em (isC (G 212) n p_68 45) with hC_110 | hC_110
              · have hL_110 := hC_110.1
                refine rg_civd (As := [.int (nI 45)]) (rest := [.ref (ad 210)]) X hl.1 h (c_X8_takes_t l J z ad G (upd (upd (upd (upd (upd (upd (upd (upd (upd f 9 (nI p_5)) 11 (nI d_5)) 9 (nI (p_5 + 1))) 9 (nI p_34)) 12 (nI d_34)) 9 (nI (p_34 + 1))) 9 (nI p_68)) 13 (nI d_68)) 9 (nI p_68)) n p_68 (by rw [upd_n (by decide), upd_n (by decide), upd_n (by decide), upd_n (by decide), upd_n (by decide), upd_n (by decide), upd_n (by decide), upd_n (by decide), upd_n (by decide)]; exact hn) hn60 (by rw [upd_s]) (by omega) 45 (by omega) hC_110) mw_526 mw_527 mw_528 mw_5 mw_529 pdX8_takes (by decide) (xo_210 J ad _) rfl rfl ⟨Nat.le_of_ble_eq_true rfl, Nat.le_of_ble_eq_true rfl⟩ ⟨Nat.le_of_ble_eq_true rfl, Nat.le_of_ble_eq_true rfl⟩ rfl (Nat.le_of_ble_eq_true rfl) dX8_readsPetition_110 (fun H locs h => ?_)
                refine lv_if_eq (tgt := 120) hx hb dX8_readsPetition_113 (by decide) (fun c_113 => absurd c_113 (by decide)) (fun c_113 => ?_)
                refine lv_iconst (v := nI 0) hx hb dX8_readsPetition_116 (by decide) ?_
                refine lv_goto (tgt := 135) hx hb dX8_readsPetition_117 (by decide) ?_
                refine fp_X8_146 X h dX8_readsPetition_135 (fun H locs h => ?_)
                rw [u1_uu] at h
                refine lv_aload_n hx hb dX8_readsPetition_138 rfl (lv_at hl 0 rfl) ?_
                refine fg_X8_146 X h dX8_readsPetition_139 ?_
                refine lv_as (y := nI 0) ((congrFun (u1_s G 210 (upd (upd (upd (upd (upd (upd (upd (upd (upd (upd (upd f 9 (nI p_5)) 11 (nI d_5)) 9 (nI (p_5 + 1))) 9 (nI p_34)) 12 (nI d_34)) 9 (nI (p_34 + 1))) 9 (nI p_68)) 13 (nI d_68)) 9 (nI p_68)) 9 (nI (p_68 + 1))) 14 (nI 0))) 14).trans (by rw [upd_s])) ?_
                refine lv_bipush (v := (-5)) hx hb dX8_readsPetition_142 (by decide) ?_
                refine lv_icmp_eq (tgt := 151) hx hb dX8_readsPetition_144 (by decide) (fun c_144 => absurd c_144 (nI_n5 (by omega))) (fun c_144 => ?_)
                refine lv_iconst (v := nI 1) hx hb dX8_readsPetition_147 (by decide) ?_
                refine lv_goto (tgt := 152) hx hb dX8_readsPetition_148 (by decide) ?_
                have e : thP (G 212) n q = (some (0, d_5, d_34, d_68, 0), p_68 + 1) := by
                  simp only [thP, thK, hN_5, cif_t hC_24, hN_34, cif_t hC_58, hN_68, cif_f hC_97, cif_t hC_110]
                exact hret (nI 1) (u1 G 210 (upd (upd (upd (upd (upd (upd (upd (upd (upd (upd (upd f 9 (nI p_5)) 11 (nI d_5)) 9 (nI (p_5 + 1))) 9 (nI p_34)) 12 (nI d_34)) 9 (nI (p_34 + 1))) 9 (nI p_68)) 13 (nI d_68)) 9 (nI p_68)) 9 (nI (p_68 + 1))) 14 (nI 0))) _ _ 152 _ (⟨_, rfl, (fun j hj => by rw [upd_n (by omega), upd_n (by omega), upd_n (by omega), upd_n (by omega), upd_n (by omega), upd_n (by omega), upd_n (by omega), upd_n (by omega), upd_n (by omega), upd_n (by omega), upd_n (by omega)]), by rw [upd_n (by decide), upd_n (by decide), upd_n (by decide), upd_n (by decide), upd_n (by decide), upd_n (by decide), upd_n (by decide), upd_n (by decide), upd_n (by decide), upd_n (by decide), upd_n (by decide)], by rw [e, upd_n (by decide), upd_s], by rw [e]; omega, Or.inl ⟨d_5, d_34, d_68, 0, by rw [e], rfl, (by rw [upd_n (by decide), upd_n (by decide), upd_n (by decide), upd_n (by decide), upd_n (by decide), upd_n (by decide), upd_n (by decide), upd_n (by decide), upd_n (by decide), upd_s]), (by rw [upd_n (by decide), upd_n (by decide), upd_n (by decide), upd_n (by decide), upd_n (by decide), upd_n (by decide), upd_s]), (by rw [upd_n (by decide), upd_n (by decide), upd_n (by decide), upd_s]), (by rw [upd_s]), by omega, by omega, by omega, by omega⟩⟩) h rfl dX8_readsPetition_152
              · refine rg_civd (As := [.int (nI 45)]) (rest := [.ref (ad 210)]) X hl.1 h (c_X8_takes_f l J z ad G (upd (upd (upd (upd (upd (upd (upd (upd (upd f 9 (nI p_5)) 11 (nI d_5)) 9 (nI (p_5 + 1))) 9 (nI p_34)) 12 (nI d_34)) 9 (nI (p_34 + 1))) 9 (nI p_68)) 13 (nI d_68)) 9 (nI p_68)) n p_68 (by rw [upd_n (by decide), upd_n (by decide), upd_n (by decide), upd_n (by decide), upd_n (by decide), upd_n (by decide), upd_n (by decide), upd_n (by decide), upd_n (by decide)]; exact hn) hn60 (by rw [upd_s]) (by omega) 45 (by omega) hC_110) mw_526 mw_527 mw_528 mw_5 mw_529 pdX8_takes (by decide) (xo_210 J ad _) rfl rfl ⟨Nat.le_of_ble_eq_true rfl, Nat.le_of_ble_eq_true rfl⟩ ⟨Nat.le_of_ble_eq_true rfl, Nat.le_of_ble_eq_true rfl⟩ rfl (Nat.le_of_ble_eq_true rfl) dX8_readsPetition_110 (fun H locs h => ?_)
                refine lv_if_eq (tgt := 120) hx hb dX8_readsPetition_113 (by decide) (fun c_113 => ?_) (fun c_113 => absurd (by decide) c_113)
                refine lv_aload_n hx hb dX8_readsPetition_120 rfl (lv_at hl 0 rfl) ?_
                refine lv_bipush (v := nI 120) hx hb dX8_readsPetition_121 (by decide) ?_
                rcases Classical.em (isC (G 212) n p_68 120) with hC_123 | hC_123
                · have hL_123 := hC_123.1
                  refine rg_civd (As := [.int (nI 120)]) (rest := [.ref (ad 210)]) X hl.1 h (c_X8_takes_t l J z ad G (upd (upd (upd (upd (upd (upd (upd (upd (upd (upd f 9 (nI p_5)) 11 (nI d_5)) 9 (nI (p_5 + 1))) 9 (nI p_34)) 12 (nI d_34)) 9 (nI (p_34 + 1))) 9 (nI p_68)) 13 (nI d_68)) 9 (nI p_68)) 9 (nI p_68)) n p_68 (by rw [upd_n (by decide), upd_n (by decide), upd_n (by decide), upd_n (by decide), upd_n (by decide), upd_n (by decide), upd_n (by decide), upd_n (by decide), upd_n (by decide), upd_n (by decide)]; exact hn) hn60 (by rw [upd_s]) (by omega) 120 (by omega) hC_123) mw_526 mw_527 mw_528 mw_5 mw_529 pdX8_takes (by decide) (xo_210 J ad _) rfl rfl ⟨Nat.le_of_ble_eq_true rfl, Nat.le_of_ble_eq_true rfl⟩ ⟨Nat.le_of_ble_eq_true rfl, Nat.le_of_ble_eq_true rfl⟩ rfl (Nat.le_of_ble_eq_true rfl) dX8_readsPetition_123 (fun H locs h => ?_)
                  refine lv_if_eq (tgt := 133) hx hb dX8_readsPetition_126 (by decide) (fun c_126 => absurd c_126 (by decide)) (fun c_126 => ?_)
                  refine lv_iconst (v := nI 2) hx hb dX8_readsPetition_129 (by decide) ?_
                  refine lv_goto (tgt := 135) hx hb dX8_readsPetition_130 (by decide) ?_
                  refine fp_X8_146 X h dX8_readsPetition_135 (fun H locs h => ?_)
                  rw [u1_uu] at h
                  refine lv_aload_n hx hb dX8_readsPetition_138 rfl (lv_at hl 0 rfl) ?_
                  refine fg_X8_146 X h dX8_readsPetition_139 ?_
                  refine lv_as (y := nI 2) ((congrFun (u1_s G 210 (upd (upd (upd (upd (upd (upd (upd (upd (upd (upd (upd (upd f 9 (nI p_5)) 11 (nI d_5)) 9 (nI (p_5 + 1))) 9 (nI p_34)) 12 (nI d_34)) 9 (nI (p_34 + 1))) 9 (nI p_68)) 13 (nI d_68)) 9 (nI p_68)) 9 (nI p_68)) 9 (nI (p_68 + 1))) 14 (nI 2))) 14).trans (by rw [upd_s])) ?_
                  refine lv_bipush (v := (-5)) hx hb dX8_readsPetition_142 (by decide) ?_
                  refine lv_icmp_eq (tgt := 151) hx hb dX8_readsPetition_144 (by decide) (fun c_144 => absurd c_144 (nI_n5 (by omega))) (fun c_144 => ?_)
                  refine lv_iconst (v := nI 1) hx hb dX8_readsPetition_147 (by decide) ?_
                  refine lv_goto (tgt := 152) hx hb dX8_readsPetition_148 (by decide) ?_
                  have e : thP (G 212) n q = (some (0, d_5, d_34, d_68, 2), p_68 + 1) := by
                    simp only [thP, thK, hN_5, cif_t hC_24, hN_34, cif_t hC_58, hN_68, cif_f hC_97, cif_f hC_110, cif_t hC_123]
                  exact hret (nI 1) (u1 G 210 (upd (upd (upd (upd (upd (upd (upd (upd (upd (upd (upd (upd f 9 (nI p_5)) 11 (nI d_5)) 9 (nI (p_5 + 1))) 9 (nI p_34)) 12 (nI d_34)) 9 (nI (p_34 + 1))) 9 (nI p_68)) 13 (nI d_68)) 9 (nI p_68)) 9 (nI p_68)) 9 (nI (p_68 + 1))) 14 (nI 2))) _ _ 152 _ (⟨_, rfl, (fun j hj => by rw [upd_n (by omega), upd_n (by omega), upd_n (by omega), upd_n (by omega), upd_n (by omega), upd_n (by omega), upd_n (by omega), upd_n (by omega), upd_n (by omega), upd_n (by omega), upd_n (by omega), upd_n (by omega)]), by rw [upd_n (by decide), upd_n (by decide), upd_n (by decide), upd_n (by decide), upd_n (by decide), upd_n (by decide), upd_n (by decide), upd_n (by decide), upd_n (by decide), upd_n (by decide), upd_n (by decide), upd_n (by decide)], by rw [e, upd_n (by decide), upd_s], by rw [e]; omega, Or.inl ⟨d_5, d_34, d_68, 2, by rw [e], rfl, (by rw [upd_n (by decide), upd_n (by decide), upd_n (by decide), upd_n (by decide), upd_n (by decide), upd_n (by decide), upd_n (by decide), upd_n (by decide), upd_n (by decide), upd_n (by decide), upd_s]), (by rw [upd_n (by decide), upd_n (by decide), upd_n (by decide), upd_n (by decide), upd_n (by decide), upd_n (by decide), upd_n (by decide), upd_s]), (by rw [upd_n (by decide), upd_n (by decide), upd_n (by decide), upd_n (by decide), upd_s]), (by rw [upd_s]), by omega, by omega, by omega, by omega⟩⟩) h rfl dX8_readsPetition_152
                · refine rg_civd (As := [.int (nI 120)]) (rest := [.ref (ad 210)]) X hl.1 h (c_X8_takes_f l J z ad G (upd (upd (upd (upd (upd (upd (upd (upd (upd (upd f 9 (nI p_5)) 11 (nI d_5)) 9 (nI (p_5 + 1))) 9 (nI p_34)) 12 (nI d_34)) 9 (nI (p_34 + 1))) 9 (nI p_68)) 13 (nI d_68)) 9 (nI p_68)) 9 (nI p_68)) n p_68 (by rw [upd_n (by decide), upd_n (by decide), upd_n (by decide), upd_n (by decide), upd_n (by decide), upd_n (by decide), upd_n (by decide), upd_n (by decide), upd_n (by decide), upd_n (by decide)]; exact hn) hn60 (by rw [upd_s]) (by omega) 120 (by omega) hC_123) mw_526 mw_527 mw_528 mw_5 mw_529 pdX8_takes (by decide) (xo_210 J ad _) rfl rfl ⟨Nat.le_of_ble_eq_true rfl, Nat.le_of_ble_eq_true rfl⟩ ⟨Nat.le_of_ble_eq_true rfl, Nat.le_of_ble_eq_true rfl⟩ rfl (Nat.le_of_ble_eq_true rfl) dX8_readsPetition_123 (fun H locs h => ?_)
                  refine lv_if_eq (tgt := 133) hx hb dX8_readsPetition_126 (by decide) (fun c_126 => ?_) (fun c_126 => absurd (by decide) c_126)
                  refine lv_bipush (v := (-5)) hx hb dX8_readsPetition_133 (by decide) ?_
                  refine fp_X8_146 X h dX8_readsPetition_135 (fun H locs h => ?_)
                  rw [u1_uu] at h
                  refine lv_aload_n hx hb dX8_readsPetition_138 rfl (lv_at hl 0 rfl) ?_
                  refine fg_X8_146 X h dX8_readsPetition_139 ?_
                  refine lv_as (y := (-5)) ((congrFun (u1_s G 210 (upd (upd (upd (upd (upd (upd (upd (upd (upd (upd (upd (upd f 9 (nI p_5)) 11 (nI d_5)) 9 (nI (p_5 + 1))) 9 (nI p_34)) 12 (nI d_34)) 9 (nI (p_34 + 1))) 9 (nI p_68)) 13 (nI d_68)) 9 (nI p_68)) 9 (nI p_68)) 9 (nI p_68)) 14 (-5))) 14).trans (by rw [upd_s])) ?_
                  refine lv_bipush (v := (-5)) hx hb dX8_readsPetition_142 (by decide) ?_
                  refine lv_icmp_eq (tgt := 151) hx hb dX8_readsPetition_144 (by decide) (fun c_144 => ?_) (fun c_144 => absurd (by decide) c_144)
                  refine lv_iconst (v := nI 0) hx hb dX8_readsPetition_151 (by decide) ?_
                  have e : thP (G 212) n q = (none, p_68) := by
                    simp only [thP, thK, hN_5, cif_t hC_24, hN_34, cif_t hC_58, hN_68, cif_f hC_97, cif_f hC_110, cif_f hC_123]
                  exact hret (nI 0) (u1 G 210 (upd (upd (upd (upd (upd (upd (upd (upd (upd (upd (upd (upd f 9 (nI p_5)) 11 (nI d_5)) 9 (nI (p_5 + 1))) 9 (nI p_34)) 12 (nI d_34)) 9 (nI (p_34 + 1))) 9 (nI p_68)) 13 (nI d_68)) 9 (nI p_68)) 9 (nI p_68)) 9 (nI p_68)) 14 (-5))) _ _ 152 _ (⟨_, rfl, (fun j hj => by rw [upd_n (by omega), upd_n (by omega), upd_n (by omega), upd_n (by omega), upd_n (by omega), upd_n (by omega), upd_n (by omega), upd_n (by omega), upd_n (by omega), upd_n (by omega), upd_n (by omega), upd_n (by omega)]), by rw [upd_n (by decide), upd_n (by decide), upd_n (by decide), upd_n (by decide), upd_n (by decide), upd_n (by decide), upd_n (by decide), upd_n (by decide), upd_n (by decide), upd_n (by decide), upd_n (by decide), upd_n (by decide)], by rw [e, upd_n (by decide), upd_s], by rw [e]; omega, Or.inr ⟨by rw [e], rfl⟩⟩) h rfl dX8_readsPetition_152
        · refine rg_civd (As := [.int (nI 46)]) (rest := [.ref (ad 210)]) X hl.1 h (c_X8_takes_f l J z ad G (upd (upd (upd (upd (upd f 9 (nI p_5)) 11 (nI d_5)) 9 (nI (p_5 + 1))) 9 (nI p_34)) 12 (nI d_34)) n p_34 (by rw [upd_n (by decide), upd_n (by decide), upd_n (by decide), upd_n (by decide), upd_n (by decide)]; exact hn) hn60 (by rw [upd_n (by decide), upd_s]) (by omega) 46 (by omega) hC_58) mw_526 mw_527 mw_528 mw_5 mw_529 pdX8_takes (by decide) (xo_210 J ad _) rfl rfl ⟨Nat.le_of_ble_eq_true rfl, Nat.le_of_ble_eq_true rfl⟩ ⟨Nat.le_of_ble_eq_true rfl, Nat.le_of_ble_eq_true rfl⟩ rfl (Nat.le_of_ble_eq_true rfl) dX8_readsPetition_58 (fun H locs h => ?_)
          refine lv_if_eq (tgt := 74) hx hb dX8_readsPetition_61 (by decide) (fun c_61 => ?_) (fun c_61 => absurd (by decide) c_61)
          refine lv_bipush (v := (-5)) hx hb dX8_readsPetition_74 (by decide) ?_
          refine fp_X8_143 X h dX8_readsPetition_76 (fun H locs h => ?_)
          rw [u1_uu] at h
          refine lv_aload_n hx hb dX8_readsPetition_79 rfl (lv_at hl 0 rfl) ?_
          refine lv_aload_n hx hb dX8_readsPetition_80 rfl (lv_at hl 0 rfl) ?_
          refine fg_X8_143 X h dX8_readsPetition_81 ?_
          refine lv_as (y := (-5)) ((congrFun (u1_s G 210 (upd (upd (upd (upd (upd (upd (upd f 9 (nI p_5)) 11 (nI d_5)) 9 (nI (p_5 + 1))) 9 (nI p_34)) 12 (nI d_34)) 9 (nI p_34)) 13 (-5))) 13).trans (by rw [upd_s])) ?_
          refine lv_bipush (v := (-5)) hx hb dX8_readsPetition_84 (by decide) ?_
          refine lv_icmp_ne (tgt := 94) hx hb dX8_readsPetition_86 (by decide) (fun c_86 => absurd (by decide) c_86) (fun c_86 => ?_)
          refine lv_bipush (v := (-5)) hx hb dX8_readsPetition_89 (by decide) ?_
          refine lv_goto (tgt := 135) hx hb dX8_readsPetition_91 (by decide) ?_
          refine fp_X8_146 X h dX8_readsPetition_135 (fun H locs h => ?_)
          rw [u1_uu] at h
          refine lv_aload_n hx hb dX8_readsPetition_138 rfl (lv_at hl 0 rfl) ?_
          refine fg_X8_146 X h dX8_readsPetition_139 ?_
          refine lv_as (y := (-5)) ((congrFun (u1_s G 210 (upd (upd (upd (upd (upd (upd (upd (upd f 9 (nI p_5)) 11 (nI d_5)) 9 (nI (p_5 + 1))) 9 (nI p_34)) 12 (nI d_34)) 9 (nI p_34)) 13 (-5)) 14 (-5))) 14).trans (by rw [upd_s])) ?_
          refine lv_bipush (v := (-5)) hx hb dX8_readsPetition_142 (by decide) ?_
          refine lv_icmp_eq (tgt := 151) hx hb dX8_readsPetition_144 (by decide) (fun c_144 => ?_) (fun c_144 => absurd (by decide) c_144)
          refine lv_iconst (v := nI 0) hx hb dX8_readsPetition_151 (by decide) ?_
          have e : thP (G 212) n q = (none, p_34) := by
            simp only [thP, thK, hN_5, cif_t hC_24, hN_34, cif_f hC_58]
          exact hret (nI 0) (u1 G 210 (upd (upd (upd (upd (upd (upd (upd (upd f 9 (nI p_5)) 11 (nI d_5)) 9 (nI (p_5 + 1))) 9 (nI p_34)) 12 (nI d_34)) 9 (nI p_34)) 13 (-5)) 14 (-5))) _ _ 152 _ (⟨_, rfl, (fun j hj => by rw [upd_n (by omega), upd_n (by omega), upd_n (by omega), upd_n (by omega), upd_n (by omega), upd_n (by omega), upd_n (by omega), upd_n (by omega)]), by rw [upd_n (by decide), upd_n (by decide), upd_n (by decide), upd_n (by decide), upd_n (by decide), upd_n (by decide), upd_n (by decide), upd_n (by decide)], by rw [e, upd_n (by decide), upd_n (by decide), upd_s], by rw [e]; omega, Or.inr ⟨by rw [e], rfl⟩⟩) h rfl dX8_readsPetition_152
    · refine rg_civd (As := [.int (nI 58)]) (rest := [.ref (ad 210)]) X hl.1 h (c_X8_takes_f l J z ad G (upd (upd f 9 (nI p_5)) 11 (nI d_5)) n p_5 (by rw [upd_n (by decide), upd_n (by decide)]; exact hn) hn60 (by rw [upd_n (by decide), upd_s]) (by omega) 58 (by omega) hC_24) mw_526 mw_527 mw_528 mw_5 mw_529 pdX8_takes (by decide) (xo_210 J ad _) rfl rfl ⟨Nat.le_of_ble_eq_true rfl, Nat.le_of_ble_eq_true rfl⟩ ⟨Nat.le_of_ble_eq_true rfl, Nat.le_of_ble_eq_true rfl⟩ rfl (Nat.le_of_ble_eq_true rfl) dX8_readsPetition_24 (fun H locs h => ?_)
      refine lv_if_eq (tgt := 40) hx hb dX8_readsPetition_27 (by decide) (fun c_27 => ?_) (fun c_27 => absurd (by decide) c_27)
      refine lv_bipush (v := (-5)) hx hb dX8_readsPetition_40 (by decide) ?_
      refine fp_X8_140 X h dX8_readsPetition_42 (fun H locs h => ?_)
      rw [u1_uu] at h
      refine lv_aload_n hx hb dX8_readsPetition_45 rfl (lv_at hl 0 rfl) ?_
      refine lv_aload_n hx hb dX8_readsPetition_46 rfl (lv_at hl 0 rfl) ?_
      refine fg_X8_140 X h dX8_readsPetition_47 ?_
      refine lv_as (y := (-5)) ((congrFun (u1_s G 210 (upd (upd (upd (upd f 9 (nI p_5)) 11 (nI d_5)) 9 (nI p_5)) 12 (-5))) 12).trans (by rw [upd_s])) ?_
      refine lv_bipush (v := (-5)) hx hb dX8_readsPetition_50 (by decide) ?_
      refine lv_icmp_eq (tgt := 74) hx hb dX8_readsPetition_52 (by decide) (fun c_52 => ?_) (fun c_52 => absurd (by decide) c_52)
      refine lv_bipush (v := (-5)) hx hb dX8_readsPetition_74 (by decide) ?_
      refine fp_X8_143 X h dX8_readsPetition_76 (fun H locs h => ?_)
      rw [u1_uu] at h
      refine lv_aload_n hx hb dX8_readsPetition_79 rfl (lv_at hl 0 rfl) ?_
      refine lv_aload_n hx hb dX8_readsPetition_80 rfl (lv_at hl 0 rfl) ?_
      refine fg_X8_143 X h dX8_readsPetition_81 ?_
      refine lv_as (y := (-5)) ((congrFun (u1_s G 210 (upd (upd (upd (upd (upd f 9 (nI p_5)) 11 (nI d_5)) 9 (nI p_5)) 12 (-5)) 13 (-5))) 13).trans (by rw [upd_s])) ?_
      refine lv_bipush (v := (-5)) hx hb dX8_readsPetition_84 (by decide) ?_
      refine lv_icmp_ne (tgt := 94) hx hb dX8_readsPetition_86 (by decide) (fun c_86 => absurd (by decide) c_86) (fun c_86 => ?_)
      refine lv_bipush (v := (-5)) hx hb dX8_readsPetition_89 (by decide) ?_
      refine lv_goto (tgt := 135) hx hb dX8_readsPetition_91 (by decide) ?_
      refine fp_X8_146 X h dX8_readsPetition_135 (fun H locs h => ?_)
      rw [u1_uu] at h
      refine lv_aload_n hx hb dX8_readsPetition_138 rfl (lv_at hl 0 rfl) ?_
      refine fg_X8_146 X h dX8_readsPetition_139 ?_
      refine lv_as (y := (-5)) ((congrFun (u1_s G 210 (upd (upd (upd (upd (upd (upd f 9 (nI p_5)) 11 (nI d_5)) 9 (nI p_5)) 12 (-5)) 13 (-5)) 14 (-5))) 14).trans (by rw [upd_s])) ?_
      refine lv_bipush (v := (-5)) hx hb dX8_readsPetition_142 (by decide) ?_
      refine lv_icmp_eq (tgt := 151) hx hb dX8_readsPetition_144 (by decide) (fun c_144 => ?_) (fun c_144 => absurd (by decide) c_144)
      refine lv_iconst (v := nI 0) hx hb dX8_readsPetition_151 (by decide) ?_
      have e : thP (G 212) n q = (none, p_5) := by
        simp only [thP, thK, hN_5, cif_f hC_24]
      exact hret (nI 0) (u1 G 210 (upd (upd (upd (upd (upd (upd f 9 (nI p_5)) 11 (nI d_5)) 9 (nI p_5)) 12 (-5)) 13 (-5)) 14 (-5))) _ _ 152 _ (⟨_, rfl, (fun j hj => by rw [upd_n (by omega), upd_n (by omega), upd_n (by omega), upd_n (by omega), upd_n (by omega), upd_n (by omega)]), by rw [upd_n (by decide), upd_n (by decide), upd_n (by decide), upd_n (by decide), upd_n (by decide), upd_n (by decide)], by rw [e, upd_n (by decide), upd_n (by decide), upd_n (by decide), upd_s], by rw [e]; omega, Or.inr ⟨by rw [e], rfl⟩⟩) h rfl dX8_readsPetition_152
set_option maxHeartbeats 4000000 in
set_option maxRecDepth 100000 in
theorem c_X8_readsThing (l : Launch) (J : JJ) (z : Nat) (ad : Nat → Nat) (G : GG) (f : Nat → Int32) (n q : Nat) (hn : f 4 = nI n) (hn60 : n ≤ 60) (hq : f 9 = nI q) (hqn : q ≤ n)  : MI l J z ad yX8_readsThing cX8_readsThing 1 .boolean 4 [.ref (ad 210)] (u1 G 210 f) (fun ans uG => ∃ f1, uG = u1 G 210 f1 ∧ rdOK f f1 (thO (G 212) n q) n ans) := by
  refine MZ.go (by decide) (Nat.le_of_ble_eq_true rfl) ?_
  intro pr e s m args below meth c ls Q X h hl hret
  have hx := X.1
  have hb := X.2.1
  have hown := X.2.2.2.1
  have hts := X.2.2.2.2
  have hl : lv_has ls 1 [(0, .ref (ad 210))] := hl
  refine lv_aload_n hx hb dX8_readsThing_0 rfl (lv_at hl 0 rfl) ?_
  refine lv_aload_n hx hb dX8_readsThing_1 rfl (lv_at hl 0 rfl) ?_
  refine fg_X8_124 X h dX8_readsThing_2 ?_
  refine lv_as (y := nI q) ((congrFun (u1_s G 210 f) 9).trans (hq)) ?_
  refine lv_aload_n hx hb dX8_readsThing_5 rfl (lv_at hl 0 rfl) ?_
  refine fg_X8_121 X h dX8_readsThing_6 ?_
  refine lv_as (y := nI n) ((congrFun (u1_s G 210 f) 4).trans (hn)) ?_
  refine lv_icmp_ge (tgt := 24) hx hb dX8_readsThing_9 (by decide) (fun c_9 => ?_) (fun c_9 => ?_)
  · rw [nI_leI (by omega) (by omega)] at c_9
    refine lv_iconst (v := nI 0) hx hb dX8_readsThing_24 (by decide) ?_
    refine fp_X8_149 X h dX8_readsThing_25 (fun H locs h => ?_)
    rw [u1_uu] at h
    refine lv_aload_n hx hb dX8_readsThing_28 rfl (lv_at hl 0 rfl) ?_
    refine lv_dup hx hb dX8_readsThing_29 rfl ?_
    refine fg_X8_124 X h dX8_readsThing_30 ?_
    refine lv_as (y := nI q) (((congrFun (u1_s G 210 (upd f 10 (nI 0))) 9).trans (by rw [upd_n (by decide)])).trans (hq)) ?_
    refine lv_iconst (v := nI 1) hx hb dX8_readsThing_33 (by decide) ?_
    refine lv_iadd hx hb dX8_readsThing_34 ?_
    refine lv_as (y := nI (q + 1)) (nI_addc (by omega)) ?_
    refine fp_X8_124 X h dX8_readsThing_35 (fun H locs h => ?_)
    rw [u1_uu] at h
    refine lv_aload_n hx hb dX8_readsThing_38 rfl (lv_at hl 0 rfl) ?_
    refine fg_X8_149 X h dX8_readsThing_39 ?_
    refine lv_as (y := nI 0) ((congrFun (u1_s G 210 (upd (upd f 10 (nI 0)) 9 (nI (q + 1)))) 10).trans (by rw [upd_n (by decide), upd_s])) ?_
    refine lv_lookup (off := 125) (tgt := 167) hx hb dX8_readsThing_42 (by decide) (by decide) (by decide) ?_
    refine lv_aload_n hx hb dX8_readsThing_167 rfl (lv_at hl 0 rfl) ?_
    refine lv_dup hx hb dX8_readsThing_168 rfl ?_
    refine fg_X8_124 X h dX8_readsThing_169 ?_
    refine lv_as (y := nI (q + 1)) ((congrFun (u1_s G 210 (upd (upd f 10 (nI 0)) 9 (nI (q + 1)))) 9).trans (by rw [upd_s])) ?_
    refine lv_iconst (v := nI 1) hx hb dX8_readsThing_172 (by decide) ?_
    refine lv_isub hx hb dX8_readsThing_173 ?_
    refine lv_as (y := nI q) (nI_subc (by omega)) ?_
    refine fp_X8_124 X h dX8_readsThing_174 (fun H locs h => ?_)
    rw [u1_uu] at h
    refine lv_iconst (v := nI 0) hx hb dX8_readsThing_177 (by decide) ?_
    have e : thO (G 212) n q = (none, q) := by
      simp only [thO, thY, thD, cif_f (fun k : isC (G 212) n q 112 => absurd k.1 (by omega)), cif_f (fun k : isC (G 212) n q 121 => absurd k.1 (by omega)), cif_f (fun k : isC (G 212) n q 46 => absurd k.1 (by omega))]
    exact hret (nI 0) (u1 G 210 (upd (upd (upd f 10 (nI 0)) 9 (nI (q + 1))) 9 (nI q))) _ _ 178 _ (⟨_, rfl, (fun j hj => by rw [upd_n (by omega), upd_n (by omega), upd_n (by omega)]), by rw [e, upd_s], by rw [e]; omega, Or.inr ⟨by rw [e], rfl⟩⟩) h (by decide) dX8_readsThing_178
  · rw [nI_leI (by omega) (by omega)] at c_9
    refine lv_aload_n hx hb dX8_readsThing_12 rfl (lv_at hl 0 rfl) ?_
    refine fg_X8_13 X h dX8_readsThing_13 ?_
    refine lv_aload_n hx hb dX8_readsThing_16 rfl (lv_at hl 0 rfl) ?_
    refine fg_X8_124 X h dX8_readsThing_17 ?_
    refine lv_as (y := nI q) ((congrFun (u1_s G 210 f) 9).trans (hq)) ?_
    refine rg_ild X h 212 (by decide) (xa_212 J ad) (q) rfl (by omega) (by decide) dX8_readsThing_20 ?_
    refine lv_as (y := G 212 q) (congrFun (u1_n (by decide)) _) ?_
    refine lv_goto (tgt := 25) hx hb dX8_readsThing_21 (by decide) ?_
    refine fp_X8_149 X h dX8_readsThing_25 (fun H locs h => ?_)
    rw [u1_uu] at h
    refine lv_aload_n hx hb dX8_readsThing_28 rfl (lv_at hl 0 rfl) ?_
    refine lv_dup hx hb dX8_readsThing_29 rfl ?_
    refine fg_X8_124 X h dX8_readsThing_30 ?_
    refine lv_as (y := nI q) (((congrFun (u1_s G 210 (upd f 10 (G 212 q))) 9).trans (by rw [upd_n (by decide)])).trans (hq)) ?_
    refine lv_iconst (v := nI 1) hx hb dX8_readsThing_33 (by decide) ?_
    refine lv_iadd hx hb dX8_readsThing_34 ?_
    refine lv_as (y := nI (q + 1)) (nI_addc (by omega)) ?_
    refine fp_X8_124 X h dX8_readsThing_35 (fun H locs h => ?_)
    rw [u1_uu] at h
    refine lv_aload_n hx hb dX8_readsThing_38 rfl (lv_at hl 0 rfl) ?_
    refine fg_X8_149 X h dX8_readsThing_39 ?_
    refine lv_as (y := G 212 q) ((congrFun (u1_s G 210 (upd (upd f 10 (G 212 q)) 9 (nI (q + 1)))) 10).trans (by rw [upd_n (by decide), upd_s])) ?_
    rcases Classical.em (G 212 q = nI 112) with hS_112 | hS_112
    · refine lv_as (y := nI 112) hS_112 ?_
      refine lv_lookup (off := 34) (tgt := 76) hx hb dX8_readsThing_42 (by decide) (by decide) (by decide) ?_
      refine lv_aload_n hx hb dX8_readsThing_76 rfl (lv_at hl 0 rfl) ?_
      refine rg_civ (As := []) (rest := []) X hl.1 h (c_X8_readsPetition l J z ad G (upd (upd f 10 (G 212 q)) 9 (nI (q + 1))) n (q + 1) (by rw [upd_n (by decide), upd_n (by decide)]; exact hn) hn60 (by rw [upd_s]) (by omega)) mw_512 mw_513 mw_514 mw_5 mw_515 pdX8_readsPetition (by decide) (xo_210 J ad _) rfl rfl ⟨Nat.le_of_ble_eq_true rfl, Nat.le_of_ble_eq_true rfl⟩ ⟨Nat.le_of_ble_eq_true rfl, Nat.le_of_ble_eq_true rfl⟩ rfl (Nat.le_of_ble_eq_true rfl) dX8_readsThing_77 (fun r6 G6 H locs q6 h => ?_)
      obtain ⟨f1, rfl, hj, h10, h9, hle, hcase⟩ := q6
      have e : thO (G 212) n q = thP (G 212) n (q + 1) := by
        simp only [thO, cif_t (show isC (G 212) n q 112 from ⟨by omega, hS_112⟩)]
      exact hret r6 (u1 G 210 f1) _ _ 80 _ (⟨f1, rfl, fun j hj2 => by rw [hj j hj2, upd_n (by omega), upd_n (by omega)], by rw [e]; exact h9, by rw [e]; exact hle, by
            rcases hcase with ⟨d, x, g, k, a1, a2, a3, a4, a5, a6, b1, b2, b3, b4⟩ | ⟨a1, a2⟩
            · exact Or.inl ⟨_, by rw [e]; exact a1, a2, Or.inl ⟨rfl, by rw [h10, upd_n (by decide), upd_s]; exact hS_112, a3, a4, a5, a6⟩, Or.inl ⟨rfl, b1, b2, b3, b4⟩⟩
            · exact Or.inr ⟨by rw [e]; exact a1, a2⟩⟩) h (by rcases hcase with ⟨d, x, g, k, a1, a2, -⟩ | ⟨a1, a2⟩ <;> rw [a2] <;> rfl) dX8_readsThing_80
    · rcases Classical.em (G 212 q = nI 121) with hS_121 | hS_121
      · refine lv_as (y := nI 121) hS_121 ?_
        refine lv_lookup (off := 39) (tgt := 81) hx hb dX8_readsThing_42 (by decide) (by decide) (by decide) ?_
        refine lv_aload_n hx hb dX8_readsThing_81 rfl (lv_at hl 0 rfl) ?_
        refine lv_aload_n hx hb dX8_readsThing_82 rfl (lv_at hl 0 rfl) ?_
        refine lv_iconst (v := nI 0) hx hb dX8_readsThing_83 (by decide) ?_
        refine lv_bipush (v := nI 11) hx hb dX8_readsThing_84 (by decide) ?_
        obtain ⟨o_86, p_86, hN_86⟩ : ∃ o q2, num (G 212) n (q + 1) 0 11 = (o, q2) := ⟨_, _, rfl⟩
        have hB_86 := num_ok hN_86 (by omega)
        refine rg_civd (As := [.int (nI 0), .int (nI 11)]) (rest := [.ref (ad 210)]) X hl.1 h (c_X8_number l J z ad G (upd (upd f 10 (G 212 q)) 9 (nI (q + 1))) n (q + 1) (by rw [upd_n (by decide), upd_n (by decide)]; exact hn) hn60 (by rw [upd_s]) (by omega) 0 11 (by omega) (by omega) o_86 p_86 hN_86) mw_518 mw_519 mw_520 mw_5 mw_521 pdX8_number (by decide) (xo_210 J ad _) rfl rfl ⟨Nat.le_of_ble_eq_true rfl, Nat.le_of_ble_eq_true rfl⟩ ⟨Nat.le_of_ble_eq_true rfl, Nat.le_of_ble_eq_true rfl⟩ rfl (Nat.le_of_ble_eq_true rfl) dX8_readsThing_86 (fun H locs h => ?_)
        rcases o_86 with _ | d_86
        · refine lv_as (y := (-5)) rfl ?_
          refine fp_X8_134 X h dX8_readsThing_89 (fun H locs h => ?_)
          rw [u1_uu] at h
          refine lv_aload_n hx hb dX8_readsThing_92 rfl (lv_at hl 0 rfl) ?_
          refine lv_aload_n hx hb dX8_readsThing_93 rfl (lv_at hl 0 rfl) ?_
          refine fg_X8_134 X h dX8_readsThing_94 ?_
          refine lv_as (y := (-5)) ((congrFun (u1_s G 210 (upd (upd (upd (upd f 10 (G 212 q)) 9 (nI (q + 1))) 9 (nI p_86)) 11 (-5))) 11).trans (by rw [upd_s])) ?_
          refine lv_bipush (v := (-5)) hx hb dX8_readsThing_97 (by decide) ?_
          refine lv_icmp_eq (tgt := 121) hx hb dX8_readsThing_99 (by decide) (fun c_99 => ?_) (fun c_99 => absurd (by decide) c_99)
          refine lv_bipush (v := (-5)) hx hb dX8_readsThing_121 (by decide) ?_
          refine fp_X8_140 X h dX8_readsThing_123 (fun H locs h => ?_)
          rw [u1_uu] at h
          refine lv_aload_n hx hb dX8_readsThing_126 rfl (lv_at hl 0 rfl) ?_
          refine fg_X8_140 X h dX8_readsThing_127 ?_
          refine lv_as (y := (-5)) ((congrFun (u1_s G 210 (upd (upd (upd (upd (upd f 10 (G 212 q)) 9 (nI (q + 1))) 9 (nI p_86)) 11 (-5)) 12 (-5))) 12).trans (by rw [upd_s])) ?_
          refine lv_bipush (v := (-5)) hx hb dX8_readsThing_130 (by decide) ?_
          refine lv_icmp_eq (tgt := 139) hx hb dX8_readsThing_132 (by decide) (fun c_132 => ?_) (fun c_132 => absurd (by decide) c_132)
          refine lv_iconst (v := nI 0) hx hb dX8_readsThing_139 (by decide) ?_
          have e : thO (G 212) n q = (none, p_86) := by
            simp only [thO, thY, thD, cif_f (fun k : isC (G 212) n q 112 => hS_112 k.2), cif_t (show isC (G 212) n q 121 from ⟨by omega, hS_121⟩), hN_86]
          exact hret (nI 0) (u1 G 210 (upd (upd (upd (upd (upd f 10 (G 212 q)) 9 (nI (q + 1))) 9 (nI p_86)) 11 (-5)) 12 (-5))) _ _ 140 _ (⟨_, rfl, (fun j hj => by rw [upd_n (by omega), upd_n (by omega), upd_n (by omega), upd_n (by omega), upd_n (by omega)]), by rw [e, upd_n (by decide), upd_n (by decide), upd_s], by rw [e]; omega, Or.inr ⟨by rw [e], rfl⟩⟩) h (by decide) dX8_readsThing_140
        · have hV_86 := hB_86.2.2 d_86 rfl
          refine lv_as (y := nI d_86) rfl ?_
          refine fp_X8_134 X h dX8_readsThing_89 (fun H locs h => ?_)
          rw [u1_uu] at h
          refine lv_aload_n hx hb dX8_readsThing_92 rfl (lv_at hl 0 rfl) ?_
          refine lv_aload_n hx hb dX8_readsThing_93 rfl (lv_at hl 0 rfl) ?_
          refine fg_X8_134 X h dX8_readsThing_94 ?_
          refine lv_as (y := nI d_86) ((congrFun (u1_s G 210 (upd (upd (upd (upd f 10 (G 212 q)) 9 (nI (q + 1))) 9 (nI p_86)) 11 (nI d_86))) 11).trans (by rw [upd_s])) ?_
          refine lv_bipush (v := (-5)) hx hb dX8_readsThing_97 (by decide) ?_
          refine lv_icmp_eq (tgt := 121) hx hb dX8_readsThing_99 (by decide) (fun c_99 => absurd c_99 (nI_n5 (by omega))) (fun c_99 => ?_)
          refine lv_aload_n hx hb dX8_readsThing_102 rfl (lv_at hl 0 rfl) ?_
          refine lv_bipush (v := nI 58) hx hb dX8_readsThing_103 (by decide) ?_
          rcases Classical.em (isC (G 212) n p_86 58) with hC_105 | hC_105
          · have hL_105 := hC_105.1
            refine rg_civd (As := [.int (nI 58)]) (rest := [.ref (ad 210)]) X hl.1 h (c_X8_takes_t l J z ad G (upd (upd (upd (upd f 10 (G 212 q)) 9 (nI (q + 1))) 9 (nI p_86)) 11 (nI d_86)) n p_86 (by rw [upd_n (by decide), upd_n (by decide), upd_n (by decide), upd_n (by decide)]; exact hn) hn60 (by rw [upd_n (by decide), upd_s]) (by omega) 58 (by omega) hC_105) mw_526 mw_527 mw_528 mw_5 mw_529 pdX8_takes (by decide) (xo_210 J ad _) rfl rfl ⟨Nat.le_of_ble_eq_true rfl, Nat.le_of_ble_eq_true rfl⟩ ⟨Nat.le_of_ble_eq_true rfl, Nat.le_of_ble_eq_true rfl⟩ rfl (Nat.le_of_ble_eq_true rfl) dX8_readsThing_105 (fun H locs h => ?_)
            refine lv_if_eq (tgt := 121) hx hb dX8_readsThing_108 (by decide) (fun c_108 => absurd c_108 (by decide)) (fun c_108 => ?_)
            refine lv_aload_n hx hb dX8_readsThing_111 rfl (lv_at hl 0 rfl) ?_
            refine lv_iconst (v := nI 0) hx hb dX8_readsThing_112 (by decide) ?_
            refine lv_bipush (v := nI 11) hx hb dX8_readsThing_113 (by decide) ?_
            obtain ⟨o_115, p_115, hN_115⟩ : ∃ o q2, num (G 212) n (p_86 + 1) 0 11 = (o, q2) := ⟨_, _, rfl⟩
            have hB_115 := num_ok hN_115 (by omega)
            refine rg_civd (As := [.int (nI 0), .int (nI 11)]) (rest := [.ref (ad 210)]) X hl.1 h (c_X8_number l J z ad G (upd (upd (upd (upd (upd f 10 (G 212 q)) 9 (nI (q + 1))) 9 (nI p_86)) 11 (nI d_86)) 9 (nI (p_86 + 1))) n (p_86 + 1) (by rw [upd_n (by decide), upd_n (by decide), upd_n (by decide), upd_n (by decide), upd_n (by decide)]; exact hn) hn60 (by rw [upd_s]) (by omega) 0 11 (by omega) (by omega) o_115 p_115 hN_115) mw_518 mw_519 mw_520 mw_5 mw_521 pdX8_number (by decide) (xo_210 J ad _) rfl rfl ⟨Nat.le_of_ble_eq_true rfl, Nat.le_of_ble_eq_true rfl⟩ ⟨Nat.le_of_ble_eq_true rfl, Nat.le_of_ble_eq_true rfl⟩ rfl (Nat.le_of_ble_eq_true rfl) dX8_readsThing_115 (fun H locs h => ?_)
            rcases o_115 with _ | d_115
            · refine lv_as (y := (-5)) rfl ?_
              refine lv_goto (tgt := 123) hx hb dX8_readsThing_118 (by decide) ?_
              refine fp_X8_140 X h dX8_readsThing_123 (fun H locs h => ?_)
              rw [u1_uu] at h
              refine lv_aload_n hx hb dX8_readsThing_126 rfl (lv_at hl 0 rfl) ?_
              refine fg_X8_140 X h dX8_readsThing_127 ?_
              refine lv_as (y := (-5)) ((congrFun (u1_s G 210 (upd (upd (upd (upd (upd (upd (upd f 10 (G 212 q)) 9 (nI (q + 1))) 9 (nI p_86)) 11 (nI d_86)) 9 (nI (p_86 + 1))) 9 (nI p_115)) 12 (-5))) 12).trans (by rw [upd_s])) ?_
              refine lv_bipush (v := (-5)) hx hb dX8_readsThing_130 (by decide) ?_
              refine lv_icmp_eq (tgt := 139) hx hb dX8_readsThing_132 (by decide) (fun c_132 => ?_) (fun c_132 => absurd (by decide) c_132)
              refine lv_iconst (v := nI 0) hx hb dX8_readsThing_139 (by decide) ?_
              have e : thO (G 212) n q = (none, p_115) := by
                simp only [thO, thY, thD, cif_f (fun k : isC (G 212) n q 112 => hS_112 k.2), cif_t (show isC (G 212) n q 121 from ⟨by omega, hS_121⟩), hN_86, cif_t hC_105, hN_115]
              exact hret (nI 0) (u1 G 210 (upd (upd (upd (upd (upd (upd (upd f 10 (G 212 q)) 9 (nI (q + 1))) 9 (nI p_86)) 11 (nI d_86)) 9 (nI (p_86 + 1))) 9 (nI p_115)) 12 (-5))) _ _ 140 _ (⟨_, rfl, (fun j hj => by rw [upd_n (by omega), upd_n (by omega), upd_n (by omega), upd_n (by omega), upd_n (by omega), upd_n (by omega), upd_n (by omega)]), by rw [e, upd_n (by decide), upd_s], by rw [e]; omega, Or.inr ⟨by rw [e], rfl⟩⟩) h (by decide) dX8_readsThing_140
            · have hV_115 := hB_115.2.2 d_115 rfl
              refine lv_as (y := nI d_115) rfl ?_
              refine lv_goto (tgt := 123) hx hb dX8_readsThing_118 (by decide) ?_
              refine fp_X8_140 X h dX8_readsThing_123 (fun H locs h => ?_)
              rw [u1_uu] at h
              refine lv_aload_n hx hb dX8_readsThing_126 rfl (lv_at hl 0 rfl) ?_
              refine fg_X8_140 X h dX8_readsThing_127 ?_
              refine lv_as (y := nI d_115) ((congrFun (u1_s G 210 (upd (upd (upd (upd (upd (upd (upd f 10 (G 212 q)) 9 (nI (q + 1))) 9 (nI p_86)) 11 (nI d_86)) 9 (nI (p_86 + 1))) 9 (nI p_115)) 12 (nI d_115))) 12).trans (by rw [upd_s])) ?_
              refine lv_bipush (v := (-5)) hx hb dX8_readsThing_130 (by decide) ?_
              refine lv_icmp_eq (tgt := 139) hx hb dX8_readsThing_132 (by decide) (fun c_132 => absurd c_132 (nI_n5 (by omega))) (fun c_132 => ?_)
              refine lv_iconst (v := nI 1) hx hb dX8_readsThing_135 (by decide) ?_
              refine lv_goto (tgt := 140) hx hb dX8_readsThing_136 (by decide) ?_
              have e : thO (G 212) n q = (some (1, d_86, d_115, 0, 0), p_115) := by
                simp only [thO, thY, thD, cif_f (fun k : isC (G 212) n q 112 => hS_112 k.2), cif_t (show isC (G 212) n q 121 from ⟨by omega, hS_121⟩), hN_86, cif_t hC_105, hN_115]
              exact hret (nI 1) (u1 G 210 (upd (upd (upd (upd (upd (upd (upd f 10 (G 212 q)) 9 (nI (q + 1))) 9 (nI p_86)) 11 (nI d_86)) 9 (nI (p_86 + 1))) 9 (nI p_115)) 12 (nI d_115))) _ _ 140 _ (⟨_, rfl, (fun j hj => by rw [upd_n (by omega), upd_n (by omega), upd_n (by omega), upd_n (by omega), upd_n (by omega), upd_n (by omega), upd_n (by omega)]), by rw [e, upd_n (by decide), upd_s], by rw [e]; omega, Or.inl ⟨(1, d_86, d_115, 0, 0), by rw [e], rfl, Or.inr (Or.inl ⟨rfl, by rw [upd_n (by decide), upd_n (by decide), upd_n (by decide), upd_n (by decide), upd_n (by decide), upd_n (by decide), upd_s]; exact hS_121, (by rw [upd_n (by decide), upd_n (by decide), upd_n (by decide), upd_s]), (by rw [upd_s])⟩), Or.inr (Or.inl ⟨rfl, by show d_86 ≤ 11; omega, by show d_115 ≤ 11; omega⟩)⟩⟩) h (by decide) dX8_readsThing_140
          · refine rg_civd (As := [.int (nI 58)]) (rest := [.ref (ad 210)]) X hl.1 h (c_X8_takes_f l J z ad G (upd (upd (upd (upd f 10 (G 212 q)) 9 (nI (q + 1))) 9 (nI p_86)) 11 (nI d_86)) n p_86 (by rw [upd_n (by decide), upd_n (by decide), upd_n (by decide), upd_n (by decide)]; exact hn) hn60 (by rw [upd_n (by decide), upd_s]) (by omega) 58 (by omega) hC_105) mw_526 mw_527 mw_528 mw_5 mw_529 pdX8_takes (by decide) (xo_210 J ad _) rfl rfl ⟨Nat.le_of_ble_eq_true rfl, Nat.le_of_ble_eq_true rfl⟩ ⟨Nat.le_of_ble_eq_true rfl, Nat.le_of_ble_eq_true rfl⟩ rfl (Nat.le_of_ble_eq_true rfl) dX8_readsThing_105 (fun H locs h => ?_)
            refine lv_if_eq (tgt := 121) hx hb dX8_readsThing_108 (by decide) (fun c_108 => ?_) (fun c_108 => absurd (by decide) c_108)
            refine lv_bipush (v := (-5)) hx hb dX8_readsThing_121 (by decide) ?_
            refine fp_X8_140 X h dX8_readsThing_123 (fun H locs h => ?_)
            rw [u1_uu] at h
            refine lv_aload_n hx hb dX8_readsThing_126 rfl (lv_at hl 0 rfl) ?_
            refine fg_X8_140 X h dX8_readsThing_127 ?_
            refine lv_as (y := (-5)) ((congrFun (u1_s G 210 (upd (upd (upd (upd (upd (upd f 10 (G 212 q)) 9 (nI (q + 1))) 9 (nI p_86)) 11 (nI d_86)) 9 (nI p_86)) 12 (-5))) 12).trans (by rw [upd_s])) ?_
            refine lv_bipush (v := (-5)) hx hb dX8_readsThing_130 (by decide) ?_
            refine lv_icmp_eq (tgt := 139) hx hb dX8_readsThing_132 (by decide) (fun c_132 => ?_) (fun c_132 => absurd (by decide) c_132)
            refine lv_iconst (v := nI 0) hx hb dX8_readsThing_139 (by decide) ?_
            have e : thO (G 212) n q = (none, p_86) := by
              simp only [thO, thY, thD, cif_f (fun k : isC (G 212) n q 112 => hS_112 k.2), cif_t (show isC (G 212) n q 121 from ⟨by omega, hS_121⟩), hN_86, cif_f hC_105]
            exact hret (nI 0) (u1 G 210 (upd (upd (upd (upd (upd (upd f 10 (G 212 q)) 9 (nI (q + 1))) 9 (nI p_86)) 11 (nI d_86)) 9 (nI p_86)) 12 (-5))) _ _ 140 _ (⟨_, rfl, (fun j hj => by rw [upd_n (by omega), upd_n (by omega), upd_n (by omega), upd_n (by omega), upd_n (by omega), upd_n (by omega)]), by rw [e, upd_n (by decide), upd_s], by rw [e]; omega, Or.inr ⟨by rw [e], rfl⟩⟩) h (by decide) dX8_readsThing_140
      · rcases Classical.em (G 212 q = nI 46) with hS_46 | hS_46
        · refine lv_as (y := nI 46) hS_46 ?_
          refine lv_lookup (off := 99) (tgt := 141) hx hb dX8_readsThing_42 (by decide) (by decide) (by decide) ?_
          refine lv_aload_n hx hb dX8_readsThing_141 rfl (lv_at hl 0 rfl) ?_
          refine lv_aload_n hx hb dX8_readsThing_142 rfl (lv_at hl 0 rfl) ?_
          refine lv_iconst (v := nI 1) hx hb dX8_readsThing_143 (by decide) ?_
          refine lv_bipush (v := nI 99) hx hb dX8_readsThing_144 (by decide) ?_
          obtain ⟨o_146, p_146, hN_146⟩ : ∃ o q2, num (G 212) n (q + 1) 1 99 = (o, q2) := ⟨_, _, rfl⟩
          have hB_146 := num_ok hN_146 (by omega)
          refine rg_civd (As := [.int (nI 1), .int (nI 99)]) (rest := [.ref (ad 210)]) X hl.1 h (c_X8_number l J z ad G (upd (upd f 10 (G 212 q)) 9 (nI (q + 1))) n (q + 1) (by rw [upd_n (by decide), upd_n (by decide)]; exact hn) hn60 (by rw [upd_s]) (by omega) 1 99 (by omega) (by omega) o_146 p_146 hN_146) mw_518 mw_519 mw_520 mw_5 mw_521 pdX8_number (by decide) (xo_210 J ad _) rfl rfl ⟨Nat.le_of_ble_eq_true rfl, Nat.le_of_ble_eq_true rfl⟩ ⟨Nat.le_of_ble_eq_true rfl, Nat.le_of_ble_eq_true rfl⟩ rfl (Nat.le_of_ble_eq_true rfl) dX8_readsThing_146 (fun H locs h => ?_)
          rcases o_146 with _ | d_146
          · refine lv_as (y := (-5)) rfl ?_
            refine fp_X8_134 X h dX8_readsThing_149 (fun H locs h => ?_)
            rw [u1_uu] at h
            refine lv_aload_n hx hb dX8_readsThing_152 rfl (lv_at hl 0 rfl) ?_
            refine fg_X8_134 X h dX8_readsThing_153 ?_
            refine lv_as (y := (-5)) ((congrFun (u1_s G 210 (upd (upd (upd (upd f 10 (G 212 q)) 9 (nI (q + 1))) 9 (nI p_146)) 11 (-5))) 11).trans (by rw [upd_s])) ?_
            refine lv_bipush (v := (-5)) hx hb dX8_readsThing_156 (by decide) ?_
            refine lv_icmp_eq (tgt := 165) hx hb dX8_readsThing_158 (by decide) (fun c_158 => ?_) (fun c_158 => absurd (by decide) c_158)
            refine lv_iconst (v := nI 0) hx hb dX8_readsThing_165 (by decide) ?_
            have e : thO (G 212) n q = (none, p_146) := by
              simp only [thO, thY, thD, cif_f (fun k : isC (G 212) n q 112 => hS_112 k.2), cif_f (fun k : isC (G 212) n q 121 => hS_121 k.2), cif_t (show isC (G 212) n q 46 from ⟨by omega, hS_46⟩), hN_146]
            exact hret (nI 0) (u1 G 210 (upd (upd (upd (upd f 10 (G 212 q)) 9 (nI (q + 1))) 9 (nI p_146)) 11 (-5))) _ _ 166 _ (⟨_, rfl, (fun j hj => by rw [upd_n (by omega), upd_n (by omega), upd_n (by omega), upd_n (by omega)]), by rw [e, upd_n (by decide), upd_s], by rw [e]; omega, Or.inr ⟨by rw [e], rfl⟩⟩) h (by decide) dX8_readsThing_166
          · have hV_146 := hB_146.2.2 d_146 rfl
            refine lv_as (y := nI d_146) rfl ?_
            refine fp_X8_134 X h dX8_readsThing_149 (fun H locs h => ?_)
            rw [u1_uu] at h
            refine lv_aload_n hx hb dX8_readsThing_152 rfl (lv_at hl 0 rfl) ?_
            refine fg_X8_134 X h dX8_readsThing_153 ?_
            refine lv_as (y := nI d_146) ((congrFun (u1_s G 210 (upd (upd (upd (upd f 10 (G 212 q)) 9 (nI (q + 1))) 9 (nI p_146)) 11 (nI d_146))) 11).trans (by rw [upd_s])) ?_
            refine lv_bipush (v := (-5)) hx hb dX8_readsThing_156 (by decide) ?_
            refine lv_icmp_eq (tgt := 165) hx hb dX8_readsThing_158 (by decide) (fun c_158 => absurd c_158 (nI_n5 (by omega))) (fun c_158 => ?_)
            refine lv_iconst (v := nI 1) hx hb dX8_readsThing_161 (by decide) ?_
            refine lv_goto (tgt := 166) hx hb dX8_readsThing_162 (by decide) ?_
            have e : thO (G 212) n q = (some (2, d_146, 0, 0, 0), p_146) := by
              simp only [thO, thY, thD, cif_f (fun k : isC (G 212) n q 112 => hS_112 k.2), cif_f (fun k : isC (G 212) n q 121 => hS_121 k.2), cif_t (show isC (G 212) n q 46 from ⟨by omega, hS_46⟩), hN_146]
            exact hret (nI 1) (u1 G 210 (upd (upd (upd (upd f 10 (G 212 q)) 9 (nI (q + 1))) 9 (nI p_146)) 11 (nI d_146))) _ _ 166 _ (⟨_, rfl, (fun j hj => by rw [upd_n (by omega), upd_n (by omega), upd_n (by omega), upd_n (by omega)]), by rw [e, upd_n (by decide), upd_s], by rw [e]; omega, Or.inl ⟨(2, d_146, 0, 0, 0), by rw [e], rfl, Or.inr (Or.inr ⟨rfl, by rw [upd_n (by decide), upd_n (by decide), upd_n (by decide), upd_s]; exact hS_46, (by rw [upd_s])⟩), Or.inr (Or.inr ⟨rfl, by show d_146 ≤ 99; omega⟩)⟩⟩) h (by decide) dX8_readsThing_166
        · refine lv_lookup (off := 125) (tgt := 167) hx hb dX8_readsThing_42 (by decide) (lk3 hS_46 hS_112 hS_121) (by decide) ?_
          refine lv_aload_n hx hb dX8_readsThing_167 rfl (lv_at hl 0 rfl) ?_
          refine lv_dup hx hb dX8_readsThing_168 rfl ?_
          refine fg_X8_124 X h dX8_readsThing_169 ?_
          refine lv_as (y := nI (q + 1)) ((congrFun (u1_s G 210 (upd (upd f 10 (G 212 q)) 9 (nI (q + 1)))) 9).trans (by rw [upd_s])) ?_
          refine lv_iconst (v := nI 1) hx hb dX8_readsThing_172 (by decide) ?_
          refine lv_isub hx hb dX8_readsThing_173 ?_
          refine lv_as (y := nI q) (nI_subc (by omega)) ?_
          refine fp_X8_124 X h dX8_readsThing_174 (fun H locs h => ?_)
          rw [u1_uu] at h
          refine lv_iconst (v := nI 0) hx hb dX8_readsThing_177 (by decide) ?_
          have e : thO (G 212) n q = (none, q) := by
            simp only [thO, thY, thD, cif_f (fun k : isC (G 212) n q 112 => hS_112 k.2), cif_f (fun k : isC (G 212) n q 121 => hS_121 k.2), cif_f (fun k : isC (G 212) n q 46 => hS_46 k.2)]
          exact hret (nI 0) (u1 G 210 (upd (upd (upd f 10 (G 212 q)) 9 (nI (q + 1))) 9 (nI q))) _ _ 178 _ (⟨_, rfl, (fun j hj => by rw [upd_n (by omega), upd_n (by omega), upd_n (by omega)]), by rw [e, upd_s], by rw [e]; omega, Or.inr ⟨by rw [e], rfl⟩⟩) h (by decide) dX8_readsThing_178
