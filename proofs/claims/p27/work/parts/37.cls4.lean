set_option maxHeartbeats 4000000 in
set_option maxRecDepth 100000 in
theorem c_X6_add (l : Launch) (J : JJ) (z : ZZ) (ad : Nat → Nat) (G : GG) (b : Nat) (hB : IsB b) (n : Nat) (hn : G (b + 1) 0 = nI n) (hn12 : n < 12) (x w : Int32) : MI l J z ad yX6_add cX6_add 3 .int 0 [.ref (ad (b + 1)), .int x, .int w] G (fun ans uG => ans = (nI n) ∧ uG = (u1 (u1 (u1 G (b + 2) (upd (G (b + 2)) n x)) (b + 3) (upd (G (b + 3)) n w)) (b + 1) (upd (G (b + 1)) 0 (nI (n + 1))))) := by
  refine MI.go (by decide) (Nat.le_of_ble_eq_true rfl) ?_
  intro pr e s m args below meth c ls Q X h hl hret
  have hx := X.1
  have hb := X.2.1
  have hown := X.2.2.2.1
  have hts := X.2.2.2.2
  have hl : lv_has ls 3 [(0, .ref (ad (b + 1))), (1, .int x), (2, .int w)] := hl
  refine lv_aload_n hx hb dX6_add_0 rfl (lv_at hl 0 rfl) ?_
  refine fg_X6_9 hB X h dX6_add_1 ?_
  refine lv_aload_n hx hb dX6_add_4 rfl (lv_at hl 0 rfl) ?_
  refine fg_X6_27 hB X h dX6_add_5 ?_
  refine lv_as (y := nI n) (hn) ?_
  refine lv_iload_n hx hb dX6_add_8 rfl (lv_at hl 1 rfl) ?_
  refine rg_ist X h (b + 2) (hB.lt (by decide)) (sa_2 hB J ad) (n) rfl (by omega) (by decide) dX6_add_9 (fun H locs h => ?_)
  refine lv_aload_n hx hb dX6_add_10 rfl (lv_at hl 0 rfl) ?_
  refine fg_X6_15 hB X h dX6_add_11 ?_
  refine lv_aload_n hx hb dX6_add_14 rfl (lv_at hl 0 rfl) ?_
  refine fg_X6_27 hB X h dX6_add_15 ?_
  refine lv_as (y := nI n) (by rw [u1_n (show b + 1 ≠ b + 2 by omega)]; exact hn) ?_
  refine lv_iload_n hx hb dX6_add_18 rfl (lv_at hl 2 rfl) ?_
  refine rg_ist X h (b + 3) (hB.lt (by decide)) (sa_3 hB J ad) (n) rfl (by omega) (by decide) dX6_add_19 (fun H locs h => ?_)
  rw [u1_n (show b + 3 ≠ b + 2 by omega)] at h
  refine lv_aload_n hx hb dX6_add_20 rfl (lv_at hl 0 rfl) ?_
  refine lv_dup hx hb dX6_add_21 rfl ?_
  refine fg_X6_27 hB X h dX6_add_22 ?_
  refine lv_as (y := nI n) (by rw [u1_n (show b + 1 ≠ b + 3 by omega), u1_n (show b + 1 ≠ b + 2 by omega)]; exact hn) ?_
  refine lv_iconst (v := nI 1) hx hb dX6_add_25 (by decide) ?_
  refine lv_iadd hx hb dX6_add_26 ?_
  refine lv_as (y := nI (n + 1)) (nI_addc (by omega)) ?_
  refine fp_X6_27 hB X h dX6_add_27 (fun H locs h => ?_)
  rw [u1_n (show b + 1 ≠ b + 3 by omega), u1_n (show b + 1 ≠ b + 2 by omega)] at h
  refine lv_aload_n hx hb dX6_add_30 rfl (lv_at hl 0 rfl) ?_
  refine fg_X6_27 hB X h dX6_add_31 ?_
  refine lv_as (y := nI (n + 1)) (by rw [u1_s, upd_s]) ?_
  refine lv_iconst (v := nI 1) hx hb dX6_add_34 (by decide) ?_
  refine lv_isub hx hb dX6_add_35 ?_
  refine lv_as (y := nI n) (nI_subc (by omega)) ?_
  exact hret (nI n) (u1 (u1 (u1 G (b + 2) (upd (G (b + 2)) n x)) (b + 3) (upd (G (b + 3)) n w)) (b + 1) (upd (G (b + 1)) 0 (nI (n + 1)))) _ _ 36 _ (⟨rfl, rfl⟩) h dX6_add_36
set_option maxHeartbeats 4000000 in
set_option maxRecDepth 100000 in
theorem c_X3_add (l : Launch) (J : JJ) (z : ZZ) (ad : Nat → Nat) (G : GG) (b : Nat) (hB : IsB b) (n : Nat) (hn : G (b + 11) 0 = nI n) (hn12 : n < 12) (d x g k w : Int32) : MI l J z ad yX3_add cX3_add 6 .int 0 [.ref (ad (b + 11)), .int d, .int x, .int g, .int k, .int w] G (fun ans uG => ans = (nI n) ∧ uG = (u1 (u1 (u1 (u1 (u1 (u1 (u1 G (b + 12) (upd (G (b + 12)) n d)) (b + 13) (upd (G (b + 13)) n x)) (b + 14) (upd (G (b + 14)) n g)) (b + 15) (upd (G (b + 15)) n k)) (b + 16) (upd (G (b + 16)) n w)) (b + 17) (upd (G (b + 17)) n (nI 0))) (b + 11) (upd (G (b + 11)) 0 (nI (n + 1))))) := by
  refine MI.go (by decide) (Nat.le_of_ble_eq_true rfl) ?_
  intro pr e s m args below meth c ls Q X h hl hret
  have hx := X.1
  have hb := X.2.1
  have hown := X.2.2.2.1
  have hts := X.2.2.2.2
  have hl : lv_has ls 6 [(0, .ref (ad (b + 11))), (1, .int d), (2, .int x), (3, .int g), (4, .int k), (5, .int w)] := hl
  refine lv_aload_n hx hb dX3_add_0 rfl (lv_at hl 0 rfl) ?_
  refine fg_X3_9 hB X h dX3_add_1 ?_
  refine lv_aload_n hx hb dX3_add_4 rfl (lv_at hl 0 rfl) ?_
  refine fg_X3_30 hB X h dX3_add_5 ?_
  refine lv_as (y := nI n) (hn) ?_
  refine lv_iload_n hx hb dX3_add_8 rfl (lv_at hl 1 rfl) ?_
  refine rg_ist X h (b + 12) (hB.lt (by decide)) (sa_12 hB J ad) (n) rfl (by omega) (by decide) dX3_add_9 (fun H locs h => ?_)
  refine lv_aload_n hx hb dX3_add_10 rfl (lv_at hl 0 rfl) ?_
  refine fg_X3_15 hB X h dX3_add_11 ?_
  refine lv_aload_n hx hb dX3_add_14 rfl (lv_at hl 0 rfl) ?_
  refine fg_X3_30 hB X h dX3_add_15 ?_
  refine lv_as (y := nI n) (by rw [u1_n (show b + 11 ≠ b + 12 by omega)]; exact hn) ?_
  refine lv_iload_n hx hb dX3_add_18 rfl (lv_at hl 2 rfl) ?_
  refine rg_ist X h (b + 13) (hB.lt (by decide)) (sa_13 hB J ad) (n) rfl (by omega) (by decide) dX3_add_19 (fun H locs h => ?_)
  rw [u1_n (show b + 13 ≠ b + 12 by omega)] at h
  refine lv_aload_n hx hb dX3_add_20 rfl (lv_at hl 0 rfl) ?_
  refine fg_X3_18 hB X h dX3_add_21 ?_
  refine lv_aload_n hx hb dX3_add_24 rfl (lv_at hl 0 rfl) ?_
  refine fg_X3_30 hB X h dX3_add_25 ?_
  refine lv_as (y := nI n) (by rw [u1_n (show b + 11 ≠ b + 13 by omega), u1_n (show b + 11 ≠ b + 12 by omega)]; exact hn) ?_
  refine lv_iload_n hx hb dX3_add_28 rfl (lv_at hl 3 rfl) ?_
  refine rg_ist X h (b + 14) (hB.lt (by decide)) (sa_14 hB J ad) (n) rfl (by omega) (by decide) dX3_add_29 (fun H locs h => ?_)
  rw [u1_n (show b + 14 ≠ b + 13 by omega), u1_n (show b + 14 ≠ b + 12 by omega)] at h
  refine lv_aload_n hx hb dX3_add_30 rfl (lv_at hl 0 rfl) ?_
  refine fg_X3_21 hB X h dX3_add_31 ?_
  refine lv_aload_n hx hb dX3_add_34 rfl (lv_at hl 0 rfl) ?_
  refine fg_X3_30 hB X h dX3_add_35 ?_
  refine lv_as (y := nI n) (by rw [u1_n (show b + 11 ≠ b + 14 by omega), u1_n (show b + 11 ≠ b + 13 by omega), u1_n (show b + 11 ≠ b + 12 by omega)]; exact hn) ?_
  refine lv_iload hx hb dX3_add_38 (lv_at hl 4 rfl) ?_
  refine rg_ist X h (b + 15) (hB.lt (by decide)) (sa_15 hB J ad) (n) rfl (by omega) (by decide) dX3_add_40 (fun H locs h => ?_)
  rw [u1_n (show b + 15 ≠ b + 14 by omega), u1_n (show b + 15 ≠ b + 13 by omega), u1_n (show b + 15 ≠ b + 12 by omega)] at h
  refine lv_aload_n hx hb dX3_add_41 rfl (lv_at hl 0 rfl) ?_
  refine fg_X3_24 hB X h dX3_add_42 ?_
  refine lv_aload_n hx hb dX3_add_45 rfl (lv_at hl 0 rfl) ?_
  refine fg_X3_30 hB X h dX3_add_46 ?_
  refine lv_as (y := nI n) (by rw [u1_n (show b + 11 ≠ b + 15 by omega), u1_n (show b + 11 ≠ b + 14 by omega), u1_n (show b + 11 ≠ b + 13 by omega), u1_n (show b + 11 ≠ b + 12 by omega)]; exact hn) ?_
  refine lv_iload hx hb dX3_add_49 (lv_at hl 5 rfl) ?_
  refine rg_ist X h (b + 16) (hB.lt (by decide)) (sa_16 hB J ad) (n) rfl (by omega) (by decide) dX3_add_51 (fun H locs h => ?_)
  rw [u1_n (show b + 16 ≠ b + 15 by omega), u1_n (show b + 16 ≠ b + 14 by omega), u1_n (show b + 16 ≠ b + 13 by omega), u1_n (show b + 16 ≠ b + 12 by omega)] at h
  refine lv_aload_n hx hb dX3_add_52 rfl (lv_at hl 0 rfl) ?_
  refine fg_X3_27 hB X h dX3_add_53 ?_
  refine lv_aload_n hx hb dX3_add_56 rfl (lv_at hl 0 rfl) ?_
  refine fg_X3_30 hB X h dX3_add_57 ?_
  refine lv_as (y := nI n) (by rw [u1_n (show b + 11 ≠ b + 16 by omega), u1_n (show b + 11 ≠ b + 15 by omega), u1_n (show b + 11 ≠ b + 14 by omega), u1_n (show b + 11 ≠ b + 13 by omega), u1_n (show b + 11 ≠ b + 12 by omega)]; exact hn) ?_
  refine lv_iconst (v := nI 0) hx hb dX3_add_60 (by decide) ?_
  refine rg_ist X h (b + 17) (hB.lt (by decide)) (sa_17 hB J ad) (n) rfl (by omega) (by decide) dX3_add_61 (fun H locs h => ?_)
  rw [u1_n (show b + 17 ≠ b + 16 by omega), u1_n (show b + 17 ≠ b + 15 by omega), u1_n (show b + 17 ≠ b + 14 by omega), u1_n (show b + 17 ≠ b + 13 by omega), u1_n (show b + 17 ≠ b + 12 by omega)] at h
  refine lv_aload_n hx hb dX3_add_62 rfl (lv_at hl 0 rfl) ?_
  refine lv_dup hx hb dX3_add_63 rfl ?_
  refine fg_X3_30 hB X h dX3_add_64 ?_
  refine lv_as (y := nI n) (by rw [u1_n (show b + 11 ≠ b + 17 by omega), u1_n (show b + 11 ≠ b + 16 by omega), u1_n (show b + 11 ≠ b + 15 by omega), u1_n (show b + 11 ≠ b + 14 by omega), u1_n (show b + 11 ≠ b + 13 by omega), u1_n (show b + 11 ≠ b + 12 by omega)]; exact hn) ?_
  refine lv_iconst (v := nI 1) hx hb dX3_add_67 (by decide) ?_
  refine lv_iadd hx hb dX3_add_68 ?_
  refine lv_as (y := nI (n + 1)) (nI_addc (by omega)) ?_
  refine fp_X3_30 hB X h dX3_add_69 (fun H locs h => ?_)
  rw [u1_n (show b + 11 ≠ b + 17 by omega), u1_n (show b + 11 ≠ b + 16 by omega), u1_n (show b + 11 ≠ b + 15 by omega), u1_n (show b + 11 ≠ b + 14 by omega), u1_n (show b + 11 ≠ b + 13 by omega), u1_n (show b + 11 ≠ b + 12 by omega)] at h
  refine lv_aload_n hx hb dX3_add_72 rfl (lv_at hl 0 rfl) ?_
  refine fg_X3_30 hB X h dX3_add_73 ?_
  refine lv_as (y := nI (n + 1)) (by rw [u1_s, upd_s]) ?_
  refine lv_iconst (v := nI 1) hx hb dX3_add_76 (by decide) ?_
  refine lv_isub hx hb dX3_add_77 ?_
  refine lv_as (y := nI n) (nI_subc (by omega)) ?_
  exact hret (nI n) (u1 (u1 (u1 (u1 (u1 (u1 (u1 G (b + 12) (upd (G (b + 12)) n d)) (b + 13) (upd (G (b + 13)) n x)) (b + 14) (upd (G (b + 14)) n g)) (b + 15) (upd (G (b + 15)) n k)) (b + 16) (upd (G (b + 16)) n w)) (b + 17) (upd (G (b + 17)) n (nI 0))) (b + 11) (upd (G (b + 11)) 0 (nI (n + 1)))) _ _ 78 _ (⟨rfl, rfl⟩) h dX3_add_78
set_option maxHeartbeats 4000000 in
set_option maxRecDepth 100000 in
theorem c_X5_addDrone (l : Launch) (J : JJ) (z : ZZ) (ad : Nat → Nat) (G : GG) (b : Nat) (hB : IsB b) (r : Nat → Int32) (hR : Rep G b r) (x w : Int32) : MI l J z ad yX5_addDrone cX5_addDrone 3 .int 1 [.ref (ad b), .int x, .int w] G (fun ans uG => ans = (cmA r x w) ∧ frm G uG b ∧ Rep uG b (cmR r x w)) := by
  refine MI.go (by decide) (Nat.le_of_ble_eq_true rfl) ?_
  intro pr e s m args below meth c ls Q X h hl hret
  have hx := X.1
  have hb := X.2.1
  have hown := X.2.2.2.1
  have hts := X.2.2.2.2
  have hl : lv_has ls 3 [(0, .ref (ad b)), (1, .int x), (2, .int w)] := hl
  have hR0 := hR
  obtain ⟨hI, hS, hL, hP, hQ, hV, hBt⟩ := hR
  have hW := hI.1
  obtain ⟨⟨w1, w2⟩, ⟨w3, w4⟩, ⟨w5, w6⟩, w7, w8⟩ := hI.1
  have k1 : G (b + 1) 0 = nI (kn r) := hS.1.trans w1
  have k2 : G (b + 11) 0 = nI (mn r) := hP.1.trans w3
  have k3 : G (b + 18) 0 = nI (on r) := hQ.1.trans w5
  have hfr : frm G G b := fun _ _ => rfl
  refine lv_iload_n hx hb dX5_addDrone_0 rfl (lv_at hl 1 rfl) ?_
  refine rg_cisN (As := [.int x]) (rest := []) X hl.1 h (c_X7_isComb l J z ad G x) h.2.2.2.2.2.1 mw_200 mw_2 mw_201 pdX7_isComb ⟨Nat.le_of_ble_eq_true rfl, Nat.le_of_ble_eq_true rfl⟩ ⟨Nat.le_of_ble_eq_true rfl, Nat.le_of_ble_eq_true rfl⟩ rfl (Nat.le_of_ble_eq_true rfl) dX5_addDrone_1 (fun H locs h => ?_)
  refine lv_if_ne (tgt := 9) hx hb dX5_addDrone_4 (by decide) (fun c_4 => ?_) (fun c_4 => ?_)
  · rw [b2_z] at c_4
    refine lv_iload_n hx hb dX5_addDrone_9 rfl (lv_at hl 2 rfl) ?_
    refine lv_iconst (v := nI 1) hx hb dX5_addDrone_10 (by decide) ?_
    refine lv_icmp_lt (tgt := 20) hx hb dX5_addDrone_11 (by decide) (fun c_11 => ?_) (fun c_11 => ?_)
    · refine lv_bipush (v := (-2)) hx hb dX5_addDrone_20 (by decide) ?_
      exact hret (-2) G _ _ 22 _ (⟨by unfold cmA; rw [cif_t (Classical.not_not.mp c_4), cif_f (fun q => by have q2 := (inN_iff (by omega) (by omega)).mpr q; first | exact Int32.not_lt.mpr q2.1 c_11 | exact c_17 q2.2)], hfr, by unfold cmR; rw [cif_f (fun q => by have q2 := (inN_iff (by omega) (by omega)).mpr q.2.1; first | exact Int32.not_lt.mpr q2.1 c_11 | exact c_17 q2.2)]; exact hR0⟩) h dX5_addDrone_22
    · refine lv_iload_n hx hb dX5_addDrone_14 rfl (lv_at hl 2 rfl) ?_
      refine lv_bipush (v := nI 9) hx hb dX5_addDrone_15 (by decide) ?_
      refine lv_icmp_le (tgt := 23) hx hb dX5_addDrone_17 (by decide) (fun c_17 => ?_) (fun c_17 => ?_)
      · have hx6 := Classical.not_not.mp c_4
        have hw : inN w 1 9 := (inN_iff (by omega) (by omega)).mp ⟨Int32.not_lt.mp c_11, c_17⟩
        refine lv_aload_n hx hb dX5_addDrone_23 rfl (lv_at hl 0 rfl) ?_
        refine fg_X5_12 hB X h dX5_addDrone_24 ?_
        refine fg_X5_76 hB X h dX5_addDrone_27 ?_
        refine lv_as (y := nI ((kn r))) (k1) ?_
        refine lv_bipush (v := nI 12) hx hb dX5_addDrone_30 (by decide) ?_
        refine lv_icmp_lt (tgt := 38) hx hb dX5_addDrone_32 (by decide) (fun c_32 => ?_) (fun c_32 => ?_)
        · rw [nI_ltI (by omega) (by omega)] at c_32
          refine lv_aload_n hx hb dX5_addDrone_38 rfl (lv_at hl 0 rfl) ?_
          refine fg_X5_12 hB X h dX5_addDrone_39 ?_
          refine lv_iload_n hx hb dX5_addDrone_42 rfl (lv_at hl 1 rfl) ?_
          refine lv_iload_n hx hb dX5_addDrone_43 rfl (lv_at hl 2 rfl) ?_
          refine rg_civd (As := [.int x, .int w]) (rest := []) X hl.1 h (c_X6_add l J z ad G b hB (kn r) k1 (by omega) x w) mw_394 mw_395 mw_396 mw_30 mw_397 pdX6_add (hB.lt (by decide)) (so_1 hB J ad _) rfl rfl ⟨Nat.le_of_ble_eq_true rfl, Nat.le_of_ble_eq_true rfl⟩ ⟨Nat.le_of_ble_eq_true rfl, Nat.le_of_ble_eq_true rfl⟩ rfl (Nat.le_of_ble_eq_true rfl) dX5_addDrone_44 (fun H locs h => ?_)
          exact hret (nI ((kn r))) (u1 (u1 (u1 G (b + 2) (upd (G (b + 2)) (kn r) x)) (b + 3) (upd (G (b + 3)) (kn r) w)) (b + 1) (upd (G (b + 1)) 0 (nI (kn r + 1)))) _ _ 47 _ (⟨by unfold cmA; rw [cif_t hx6, cif_t hw, if_neg (show ¬ kn r = 12 by omega)], fun k hk => by rw [u1_n (by omega), u1_n (by omega), u1_n (by omega)], Rep_cm hR0 (by omega) hx6 hw (fun k g1 g2 g3 => by rw [u1_n (by omega), u1_n (by omega), u1_n (by omega)]) (by rw [u1_s, upd_s]) (by rw [u1_n (by omega), u1_n (by omega), u1_s]) (by rw [u1_n (by omega), u1_s])⟩) h dX5_addDrone_47
        · rw [nI_ltI (by omega) (by omega)] at c_32
          refine lv_bipush (v := (-3)) hx hb dX5_addDrone_35 (by decide) ?_
          exact hret (-3) G _ _ 37 _ (⟨by unfold cmA; rw [cif_t hx6, cif_t hw, if_pos (show kn r = 12 by omega)], hfr, by unfold cmR; rw [cif_f (fun q => q.2.2 (by omega))]; exact hR0⟩) h dX5_addDrone_37
      · refine lv_bipush (v := (-2)) hx hb dX5_addDrone_20 (by decide) ?_
        exact hret (-2) G _ _ 22 _ (⟨by unfold cmA; rw [cif_t (Classical.not_not.mp c_4), cif_f (fun q => by have q2 := (inN_iff (by omega) (by omega)).mpr q; first | exact Int32.not_lt.mpr q2.1 c_11 | exact c_17 q2.2)], hfr, by unfold cmR; rw [cif_f (fun q => by have q2 := (inN_iff (by omega) (by omega)).mpr q.2.1; first | exact Int32.not_lt.mpr q2.1 c_11 | exact c_17 q2.2)]; exact hR0⟩) h dX5_addDrone_22
  · rw [b2_z] at c_4
    refine lv_iconst (v := (-1)) hx hb dX5_addDrone_7 (by decide) ?_
    exact hret (-1) G _ _ 8 _ (⟨by unfold cmA; rw [cif_f c_4], hfr, by unfold cmR; rw [cif_f (fun q => c_4 q.1)]; exact hR0⟩) h dX5_addDrone_8
set_option maxHeartbeats 4000000 in
set_option maxRecDepth 100000 in
theorem c_X5_moveDrone (l : Launch) (J : JJ) (z : ZZ) (ad : Nat → Nat) (G : GG) (b : Nat) (hB : IsB b) (r : Nat → Int32) (hR : Rep G b r) (d x : Int32) : MI l J z ad yX5_moveDrone cX5_moveDrone 4 .int 1 [.ref (ad b), .int d, .int x] G (fun ans uG => ans = (mvA r d x) ∧ frm G uG b ∧ Rep uG b (mvR r d x)) := by
  refine MI.go (by decide) (Nat.le_of_ble_eq_true rfl) ?_
  intro pr e s m args below meth c ls Q X h hl hret
  have hx := X.1
  have hb := X.2.1
  have hown := X.2.2.2.1
  have hts := X.2.2.2.2
  have hl : lv_has ls 4 [(0, .ref (ad b)), (1, .int d), (2, .int x)] := hl
  have hR0 := hR
  obtain ⟨hI, hS, hL, hP, hQ, hV, hBt⟩ := hR
  have hW := hI.1
  obtain ⟨⟨w1, w2⟩, ⟨w3, w4⟩, ⟨w5, w6⟩, w7, w8⟩ := hI.1
  have k1 : G (b + 1) 0 = nI (kn r) := hS.1.trans w1
  have k2 : G (b + 11) 0 = nI (mn r) := hP.1.trans w3
  have k3 : G (b + 18) 0 = nI (on r) := hQ.1.trans w5
  have hfr : frm G G b := fun _ _ => rfl
  refine lv_aload_n hx hb dX5_moveDrone_0 rfl (lv_at hl 0 rfl) ?_
  refine fg_X5_12 hB X h dX5_moveDrone_1 ?_
  refine lv_iload_n hx hb dX5_moveDrone_4 rfl (lv_at hl 1 rfl) ?_
  refine rg_civd (As := [.int d]) (rest := []) X hl.1 h (c_X6_knows l J z ad G b hB r hR0 d ) mw_410 mw_183 mw_184 mw_30 mw_185 pdX6_knows (hB.lt (by decide)) (so_1 hB J ad _) rfl rfl ⟨Nat.le_of_ble_eq_true rfl, Nat.le_of_ble_eq_true rfl⟩ ⟨Nat.le_of_ble_eq_true rfl, Nat.le_of_ble_eq_true rfl⟩ rfl (Nat.le_of_ble_eq_true rfl) dX5_moveDrone_5 (fun H locs h => ?_)
  refine lv_if_eq (tgt := 18) hx hb dX5_moveDrone_8 (by decide) (fun c_8 => ?_) (fun c_8 => ?_)
  · rw [b2_z] at c_8
    refine lv_iconst (v := (-1)) hx hb dX5_moveDrone_18 (by decide) ?_
    exact hret (-1) G _ _ 19 _ (⟨by unfold mvA; rw [cif_f (fun q => by first | exact c_8 q.1 | exact c_15 q.2)], hfr, by unfold mvR; rw [cif_f (fun q => by first | exact c_8 q.1 | exact c_15 q.2)]; exact hR0⟩) h dX5_moveDrone_19
  · rw [b2_z] at c_8
    obtain ⟨D, hD, rfl⟩ := Classical.not_not.mp c_8
    refine lv_iload_n hx hb dX5_moveDrone_11 rfl (lv_at hl 2 rfl) ?_
    refine rg_cisN (As := [.int x]) (rest := []) X hl.1 h (c_X7_isComb l J z ad G x) h.2.2.2.2.2.1 mw_200 mw_2 mw_201 pdX7_isComb ⟨Nat.le_of_ble_eq_true rfl, Nat.le_of_ble_eq_true rfl⟩ ⟨Nat.le_of_ble_eq_true rfl, Nat.le_of_ble_eq_true rfl⟩ rfl (Nat.le_of_ble_eq_true rfl) dX5_moveDrone_12 (fun H locs h => ?_)
    refine lv_if_ne (tgt := 20) hx hb dX5_moveDrone_15 (by decide) (fun c_15 => ?_) (fun c_15 => ?_)
    · rw [b2_z] at c_15
      have hA : isN (nI D) (kn r) ∧ isN x 6 := ⟨⟨D, hD, rfl⟩, Classical.not_not.mp c_15⟩
      have eT : tn (nI D) = D := tn_nI (by omega)
      refine lv_aload_n hx hb dX5_moveDrone_20 rfl (lv_at hl 0 rfl) ?_
      refine fg_X5_12 hB X h dX5_moveDrone_21 ?_
      refine fg_X5_86 hB X h dX5_moveDrone_24 ?_
      refine lv_iload_n hx hb dX5_moveDrone_27 rfl (lv_at hl 1 rfl) ?_
      refine rg_ild X h (b + 2) (hB.lt (by decide)) (sa_2 hB J ad) (D) rfl (by omega) (by decide) dX5_moveDrone_28 ?_
      refine lv_as (y := r (6 * D + 12)) ((hS.2.1 D hD).1) ?_
      refine lv_istore_n (lv' := [(3, .int (r (6 * D + 12))), (0, .ref (ad b)), (1, .int (nI D)), (2, .int x)]) hx hb dX5_moveDrone_29 rfl hl (by decide) rfl (fun ls hl => ?_)
      refine lv_iload_n hx hb dX5_moveDrone_30 rfl (lv_at hl 0 rfl) ?_
      refine lv_iload_n hx hb dX5_moveDrone_31 rfl (lv_at hl 3 rfl) ?_
      refine lv_icmp_ne (tgt := 38) hx hb dX5_moveDrone_32 (by decide) (fun c_32 => ?_) (fun c_32 => ?_)
      · refine lv_aload_n hx hb dX5_moveDrone_38 rfl (lv_at hl 1 rfl) ?_
        refine fg_X5_12 hB X h dX5_moveDrone_39 ?_
        refine fg_X5_86 hB X h dX5_moveDrone_42 ?_
        refine lv_iload_n hx hb dX5_moveDrone_45 rfl (lv_at hl 2 rfl) ?_
        refine lv_iload_n hx hb dX5_moveDrone_46 rfl (lv_at hl 3 rfl) ?_
        refine rg_ist X h (b + 2) (hB.lt (by decide)) (sa_2 hB J ad) (D) rfl (by omega) (by decide) dX5_moveDrone_47 (fun H locs h => ?_)
        refine lv_iload_n hx hb dX5_moveDrone_48 rfl (lv_at hl 0 rfl) ?_
        exact hret (r (6 * D + 12)) (u1 G (b + 2) (upd (G (b + 2)) D x)) _ _ 49 _ (⟨by unfold mvA; rw [cif_t hA, eT, if_neg c_32], fun k hk => by rw [u1_n (by omega)], Rep_mv hR0 hD hA.2 (fun k g1 => by rw [u1_n (by omega)]) (by rw [u1_s])⟩) h dX5_moveDrone_49
      · refine lv_bipush (v := (-5)) hx hb dX5_moveDrone_35 (by decide) ?_
        exact hret (-5) G _ _ 37 _ (⟨by unfold mvA; rw [cif_t hA, eT, if_pos c_32], hfr, by unfold mvR; rw [cif_t hA, eT, ← c_32, upd_self]; exact hR0⟩) h dX5_moveDrone_37
    · rw [b2_z] at c_15
      refine lv_iconst (v := (-1)) hx hb dX5_moveDrone_18 (by decide) ?_
      exact hret (-1) G _ _ 19 _ (⟨by unfold mvA; rw [cif_f (fun q => by first | exact c_8 q.1 | exact c_15 q.2)], hfr, by unfold mvR; rw [cif_f (fun q => by first | exact c_8 q.1 | exact c_15 q.2)]; exact hR0⟩) h dX5_moveDrone_19
set_option maxHeartbeats 4000000 in
set_option maxRecDepth 100000 in
theorem c_X5_changeSetting (l : Launch) (J : JJ) (z : ZZ) (ad : Nat → Nat) (G : GG) (b : Nat) (hB : IsB b) (r : Nat → Int32) (hR : Rep G b r) (x v : Int32) : MI l J z ad yX5_changeSetting cX5_changeSetting 5 .int 0 [.ref (ad b), .int x, .int v] G (fun ans uG => ans = (stA r x v) ∧ frm G uG b ∧ Rep uG b (stR r x v)) := by
  refine MI.go (by decide) (Nat.le_of_ble_eq_true rfl) ?_
  intro pr e s m args below meth c ls Q X h hl hret
  have hx := X.1
  have hb := X.2.1
  have hown := X.2.2.2.1
  have hts := X.2.2.2.2
  have hl : lv_has ls 5 [(0, .ref (ad b)), (1, .int x), (2, .int v)] := hl
  have hR0 := hR
  obtain ⟨hI, hS, hL, hP, hQ, hV, hBt⟩ := hR
  have hW := hI.1
  obtain ⟨⟨w1, w2⟩, ⟨w3, w4⟩, ⟨w5, w6⟩, w7, w8⟩ := hI.1
  have k1 : G (b + 1) 0 = nI (kn r) := hS.1.trans w1
  have k2 : G (b + 11) 0 = nI (mn r) := hP.1.trans w3
  have k3 : G (b + 18) 0 = nI (on r) := hQ.1.trans w5
  have hfr : frm G G b := fun _ _ => rfl
  refine lv_iload_n hx hb dX5_changeSetting_0 rfl (lv_at hl 1 rfl) ?_
  refine lv_if_eq (tgt := 11) hx hb dX5_changeSetting_1 (by decide) (fun c_1 => ?_) (fun c_1 => ?_)
  · replace c_1 : x = nI 0 := c_1
    subst c_1
    have hj : inN (nI 0) 0 1 := ⟨0, by omega, by omega, rfl⟩
    have eT : tn (nI 0) = 0 := tn_nI (by omega)
    refine lv_iload_n hx hb dX5_changeSetting_11 rfl (lv_at hl 1 rfl) ?_
    refine lv_if_ne (tgt := 19) hx hb dX5_changeSetting_12 (by decide) (fun c_12 => absurd (by decide) c_12) (fun c_12 => ?_)
    refine lv_iconst (v := nI 0) hx hb dX5_changeSetting_15 (by decide) ?_
    refine lv_goto (tgt := 20) hx hb dX5_changeSetting_16 (by decide) ?_
    refine lv_istore_n (lv' := [(3, .int (nI 0)), (0, .ref (ad b)), (1, .int (nI 0)), (2, .int v)]) hx hb dX5_changeSetting_20 rfl hl (by decide) rfl (fun ls hl => ?_)
    refine lv_iload_n hx hb dX5_changeSetting_21 rfl (lv_at hl 3 rfl) ?_
    refine lv_iload_n hx hb dX5_changeSetting_22 rfl (lv_at hl 0 rfl) ?_
    refine lv_icmp_lt (tgt := 32) hx hb dX5_changeSetting_23 (by decide) (fun c_23 => ?_) (fun c_23 => ?_)
    · refine lv_bipush (v := (-2)) hx hb dX5_changeSetting_32 (by decide) ?_
      exact hret (-2) G _ _ 34 _ (⟨by unfold stA; rw [cif_t hj, eT, cif_f (fun q => by have q2 := (inN_iff (by omega) (by omega)).mpr q; first | exact Int32.not_lt.mpr q2.1 c_23 | exact c_29 q2.2)], hfr, by unfold stR; rw [eT, cif_f (fun q => by have q2 := (inN_iff (by omega) (by omega)).mpr q.2; first | exact Int32.not_lt.mpr q2.1 c_23 | exact c_29 q2.2)]; exact hR0⟩) h dX5_changeSetting_34
    · refine lv_iload_n hx hb dX5_changeSetting_26 rfl (lv_at hl 3 rfl) ?_
      refine lv_bipush (v := nI 60) hx hb dX5_changeSetting_27 (by decide) ?_
      refine lv_icmp_le (tgt := 35) hx hb dX5_changeSetting_29 (by decide) (fun c_29 => ?_) (fun c_29 => ?_)
      · have hv : inN v 0 60 := (inN_iff (by omega) (by omega)).mp ⟨Int32.not_lt.mp c_23, c_29⟩
        refine lv_aload_n hx hb dX5_changeSetting_35 rfl (lv_at hl 1 rfl) ?_
        refine fg_X5_39 hB X h dX5_changeSetting_36 ?_
        refine lv_iload_n hx hb dX5_changeSetting_39 rfl (lv_at hl 2 rfl) ?_
        refine rg_ild X h (b + 23) (hB.lt (by decide)) (sa_23 hB J ad) (0) rfl (by omega) (by decide) dX5_changeSetting_40 ?_
        refine lv_as (y := r 0) (hV.1) ?_
        refine lv_istore (lv' := [(4, .int (r 0)), (3, .int (nI 0)), (0, .ref (ad b)), (1, .int (nI 0)), (2, .int v)]) hx hb dX5_changeSetting_41 hl (by decide) rfl (fun ls hl => ?_)
        refine lv_iload hx hb dX5_changeSetting_43 (lv_at hl 0 rfl) ?_
        refine lv_iload_n hx hb dX5_changeSetting_45 rfl (lv_at hl 4 rfl) ?_
        refine lv_icmp_ne (tgt := 52) hx hb dX5_changeSetting_46 (by decide) (fun c_46 => ?_) (fun c_46 => ?_)
        · refine lv_aload_n hx hb dX5_changeSetting_52 rfl (lv_at hl 2 rfl) ?_
          refine fg_X5_39 hB X h dX5_changeSetting_53 ?_
          refine lv_iload_n hx hb dX5_changeSetting_56 rfl (lv_at hl 3 rfl) ?_
          refine lv_iload_n hx hb dX5_changeSetting_57 rfl (lv_at hl 4 rfl) ?_
          refine rg_ist X h (b + 23) (hB.lt (by decide)) (sa_23 hB J ad) (0) rfl (by omega) (by decide) dX5_changeSetting_58 (fun H locs h => ?_)
          refine lv_iload hx hb dX5_changeSetting_59 (lv_at hl 0 rfl) ?_
          exact hret (r 0) (u1 G (b + 23) (upd (G (b + 23)) 0 v)) _ _ 61 _ (⟨by unfold stA; rw [cif_t hj, eT, cif_t hv, if_neg c_46], fun k hk => by rw [u1_n (by omega)], Rep_st hR0 (by omega) hv (fun k g1 => by rw [u1_n (by omega)]) (by rw [u1_s])⟩) h dX5_changeSetting_61
        · refine lv_bipush (v := (-5)) hx hb dX5_changeSetting_49 (by decide) ?_
          exact hret (-5) G _ _ 51 _ (⟨by unfold stA; rw [cif_t hj, eT, cif_t hv, if_pos c_46], hfr, by unfold stR; rw [eT, cif_t ⟨hj, hv⟩, ← c_46, upd_self]; exact hR0⟩) h dX5_changeSetting_51
      · refine lv_bipush (v := (-2)) hx hb dX5_changeSetting_32 (by decide) ?_
        exact hret (-2) G _ _ 34 _ (⟨by unfold stA; rw [cif_t hj, eT, cif_f (fun q => by have q2 := (inN_iff (by omega) (by omega)).mpr q; first | exact Int32.not_lt.mpr q2.1 c_23 | exact c_29 q2.2)], hfr, by unfold stR; rw [eT, cif_f (fun q => by have q2 := (inN_iff (by omega) (by omega)).mpr q.2; first | exact Int32.not_lt.mpr q2.1 c_23 | exact c_29 q2.2)]; exact hR0⟩) h dX5_changeSetting_34
  · refine lv_iload_n hx hb dX5_changeSetting_4 rfl (lv_at hl 1 rfl) ?_
    refine lv_iconst (v := nI 1) hx hb dX5_changeSetting_5 (by decide) ?_
    refine lv_icmp_eq (tgt := 11) hx hb dX5_changeSetting_6 (by decide) (fun c_6 => ?_) (fun c_6 => ?_)
    · subst c_6
      have hj : inN (nI 1) 0 1 := ⟨1, by omega, by omega, rfl⟩
      have eT : tn (nI 1) = 1 := tn_nI (by omega)
      refine lv_iload_n hx hb dX5_changeSetting_11 rfl (lv_at hl 1 rfl) ?_
      refine lv_if_ne (tgt := 19) hx hb dX5_changeSetting_12 (by decide) (fun c_12 => ?_) (fun c_12 => absurd c_12 (by decide))
      refine lv_iconst (v := nI 1) hx hb dX5_changeSetting_19 (by decide) ?_
      refine lv_istore_n (lv' := [(3, .int (nI 1)), (0, .ref (ad b)), (1, .int (nI 1)), (2, .int v)]) hx hb dX5_changeSetting_20 rfl hl (by decide) rfl (fun ls hl => ?_)
      refine lv_iload_n hx hb dX5_changeSetting_21 rfl (lv_at hl 3 rfl) ?_
      refine lv_iload_n hx hb dX5_changeSetting_22 rfl (lv_at hl 0 rfl) ?_
      refine lv_icmp_lt (tgt := 32) hx hb dX5_changeSetting_23 (by decide) (fun c_23 => ?_) (fun c_23 => ?_)
      · refine lv_bipush (v := (-2)) hx hb dX5_changeSetting_32 (by decide) ?_
        exact hret (-2) G _ _ 34 _ (⟨by unfold stA; rw [cif_t hj, eT, cif_f (fun q => by have q2 := (inN_iff (by omega) (by omega)).mpr q; first | exact Int32.not_lt.mpr q2.1 c_23 | exact c_29 q2.2)], hfr, by unfold stR; rw [eT, cif_f (fun q => by have q2 := (inN_iff (by omega) (by omega)).mpr q.2; first | exact Int32.not_lt.mpr q2.1 c_23 | exact c_29 q2.2)]; exact hR0⟩) h dX5_changeSetting_34
      · refine lv_iload_n hx hb dX5_changeSetting_26 rfl (lv_at hl 3 rfl) ?_
        refine lv_bipush (v := nI 60) hx hb dX5_changeSetting_27 (by decide) ?_
        refine lv_icmp_le (tgt := 35) hx hb dX5_changeSetting_29 (by decide) (fun c_29 => ?_) (fun c_29 => ?_)
        · have hv : inN v 1 60 := (inN_iff (by omega) (by omega)).mp ⟨Int32.not_lt.mp c_23, c_29⟩
          refine lv_aload_n hx hb dX5_changeSetting_35 rfl (lv_at hl 1 rfl) ?_
          refine fg_X5_39 hB X h dX5_changeSetting_36 ?_
          refine lv_iload_n hx hb dX5_changeSetting_39 rfl (lv_at hl 2 rfl) ?_
          refine rg_ild X h (b + 23) (hB.lt (by decide)) (sa_23 hB J ad) (1) rfl (by omega) (by decide) dX5_changeSetting_40 ?_
          refine lv_as (y := r 1) (hV.2.1) ?_
          refine lv_istore (lv' := [(4, .int (r 1)), (3, .int (nI 1)), (0, .ref (ad b)), (1, .int (nI 1)), (2, .int v)]) hx hb dX5_changeSetting_41 hl (by decide) rfl (fun ls hl => ?_)
          refine lv_iload hx hb dX5_changeSetting_43 (lv_at hl 0 rfl) ?_
          refine lv_iload_n hx hb dX5_changeSetting_45 rfl (lv_at hl 4 rfl) ?_
          refine lv_icmp_ne (tgt := 52) hx hb dX5_changeSetting_46 (by decide) (fun c_46 => ?_) (fun c_46 => ?_)
          · refine lv_aload_n hx hb dX5_changeSetting_52 rfl (lv_at hl 2 rfl) ?_
            refine fg_X5_39 hB X h dX5_changeSetting_53 ?_
            refine lv_iload_n hx hb dX5_changeSetting_56 rfl (lv_at hl 3 rfl) ?_
            refine lv_iload_n hx hb dX5_changeSetting_57 rfl (lv_at hl 4 rfl) ?_
            refine rg_ist X h (b + 23) (hB.lt (by decide)) (sa_23 hB J ad) (1) rfl (by omega) (by decide) dX5_changeSetting_58 (fun H locs h => ?_)
            refine lv_iload hx hb dX5_changeSetting_59 (lv_at hl 0 rfl) ?_
            exact hret (r 1) (u1 G (b + 23) (upd (G (b + 23)) 1 v)) _ _ 61 _ (⟨by unfold stA; rw [cif_t hj, eT, cif_t hv, if_neg c_46], fun k hk => by rw [u1_n (by omega)], Rep_st hR0 (by omega) hv (fun k g1 => by rw [u1_n (by omega)]) (by rw [u1_s])⟩) h dX5_changeSetting_61
          · refine lv_bipush (v := (-5)) hx hb dX5_changeSetting_49 (by decide) ?_
            exact hret (-5) G _ _ 51 _ (⟨by unfold stA; rw [cif_t hj, eT, cif_t hv, if_pos c_46], hfr, by unfold stR; rw [eT, cif_t ⟨hj, hv⟩, ← c_46, upd_self]; exact hR0⟩) h dX5_changeSetting_51
        · refine lv_bipush (v := (-2)) hx hb dX5_changeSetting_32 (by decide) ?_
          exact hret (-2) G _ _ 34 _ (⟨by unfold stA; rw [cif_t hj, eT, cif_f (fun q => by have q2 := (inN_iff (by omega) (by omega)).mpr q; first | exact Int32.not_lt.mpr q2.1 c_23 | exact c_29 q2.2)], hfr, by unfold stR; rw [eT, cif_f (fun q => by have q2 := (inN_iff (by omega) (by omega)).mpr q.2; first | exact Int32.not_lt.mpr q2.1 c_23 | exact c_29 q2.2)]; exact hR0⟩) h dX5_changeSetting_34
    · refine lv_iconst (v := (-1)) hx hb dX5_changeSetting_9 (by decide) ?_
      exact hret (-1) G _ _ 10 _ (⟨by unfold stA; rw [cif_f (fun q => by obtain ⟨d, -, h2, h3⟩ := q; rcases (show d = 0 ∨ d = 1 by omega) with e | e; subst e; exact c_1 h3; subst e; exact c_6 h3)], hfr, by unfold stR; rw [cif_f (fun q => by obtain ⟨⟨d, -, h2, h3⟩, -⟩ := q; rcases (show d = 0 ∨ d = 1 by omega) with e | e; subst e; exact c_1 h3; subst e; exact c_6 h3)]; exact hR0⟩) h dX5_changeSetting_10
set_option maxHeartbeats 4000000 in
set_option maxRecDepth 100000 in
theorem c_X5_addPetition (l : Launch) (J : JJ) (z : ZZ) (ad : Nat → Nat) (G : GG) (b : Nat) (hB : IsB b) (r : Nat → Int32) (hR : Rep G b r) (d x g k : Int32) : MI l J z ad yX5_addPetition cX5_addPetition 6 .int 1 [.ref (ad b), .int d, .int x, .int g, .int k] G (fun ans uG => ans = (ptA r d x g k) ∧ frm G uG b ∧ Rep uG b (ptR r d x g k)) := by
  refine MI.go (by decide) (Nat.le_of_ble_eq_true rfl) ?_
  intro pr e s m args below meth c ls Q X h hl hret
  have hx := X.1
  have hb := X.2.1
  have hown := X.2.2.2.1
  have hts := X.2.2.2.2
  have hl : lv_has ls 6 [(0, .ref (ad b)), (1, .int d), (2, .int x), (3, .int g), (4, .int k)] := hl
  have hR0 := hR
  obtain ⟨hI, hS, hL, hP, hQ, hV, hBt⟩ := hR
  have hW := hI.1
  obtain ⟨⟨w1, w2⟩, ⟨w3, w4⟩, ⟨w5, w6⟩, w7, w8⟩ := hI.1
  have k1 : G (b + 1) 0 = nI (kn r) := hS.1.trans w1
  have k2 : G (b + 11) 0 = nI (mn r) := hP.1.trans w3
  have k3 : G (b + 18) 0 = nI (on r) := hQ.1.trans w5
  have hfr : frm G G b := fun _ _ => rfl
  refine lv_aload_n hx hb dX5_addPetition_0 rfl (lv_at hl 0 rfl) ?_
  refine fg_X5_12 hB X h dX5_addPetition_1 ?_
  refine lv_iload_n hx hb dX5_addPetition_4 rfl (lv_at hl 1 rfl) ?_
  refine rg_civd (As := [.int d]) (rest := []) X hl.1 h (c_X6_knows l J z ad G b hB r hR0 d ) mw_410 mw_183 mw_184 mw_30 mw_185 pdX6_knows (hB.lt (by decide)) (so_1 hB J ad _) rfl rfl ⟨Nat.le_of_ble_eq_true rfl, Nat.le_of_ble_eq_true rfl⟩ ⟨Nat.le_of_ble_eq_true rfl, Nat.le_of_ble_eq_true rfl⟩ rfl (Nat.le_of_ble_eq_true rfl) dX5_addPetition_5 (fun H locs h => ?_)
  refine lv_if_eq (tgt := 25) hx hb dX5_addPetition_8 (by decide) (fun c_8 => ?_) (fun c_8 => ?_)
  · rw [b2_z] at c_8
    refine lv_iconst (v := (-1)) hx hb dX5_addPetition_25 (by decide) ?_
    exact hret (-1) G _ _ 26 _ (⟨by unfold ptA; rw [cif_f (fun q => by first | exact c_8 q.1 | exact c_15 ((isN_in (by omega)).mp q.2.1) | exact c_22 q.2.2)], hfr, by unfold ptR; rw [cif_f (fun q => by first | exact c_8 q.1.1 | exact c_15 ((isN_in (by omega)).mp q.1.2.1) | exact c_22 q.1.2.2)]; exact hR0⟩) h dX5_addPetition_26
  · rw [b2_z] at c_8
    obtain ⟨D, hD, rfl⟩ := Classical.not_not.mp c_8
    refine lv_iload_n hx hb dX5_addPetition_11 rfl (lv_at hl 2 rfl) ?_
    refine rg_cisN (As := [.int x]) (rest := []) X hl.1 h (c_X7_isPlace l J z ad G x) h.2.2.2.2.2.2.1 mw_421 mw_2 mw_422 pdX7_isPlace ⟨Nat.le_of_ble_eq_true rfl, Nat.le_of_ble_eq_true rfl⟩ ⟨Nat.le_of_ble_eq_true rfl, Nat.le_of_ble_eq_true rfl⟩ rfl (Nat.le_of_ble_eq_true rfl) dX5_addPetition_12 (fun H locs h => ?_)
    refine lv_if_eq (tgt := 25) hx hb dX5_addPetition_15 (by decide) (fun c_15 => ?_) (fun c_15 => ?_)
    · rw [b2_z] at c_15
      refine lv_iconst (v := (-1)) hx hb dX5_addPetition_25 (by decide) ?_
      exact hret (-1) G _ _ 26 _ (⟨by unfold ptA; rw [cif_f (fun q => by first | exact c_8 q.1 | exact c_15 ((isN_in (by omega)).mp q.2.1) | exact c_22 q.2.2)], hfr, by unfold ptR; rw [cif_f (fun q => by first | exact c_8 q.1.1 | exact c_15 ((isN_in (by omega)).mp q.1.2.1) | exact c_22 q.1.2.2)]; exact hR0⟩) h dX5_addPetition_26
    · rw [b2_z] at c_15
      refine lv_iload_n hx hb dX5_addPetition_18 rfl (lv_at hl 3 rfl) ?_
      refine rg_cisN (As := [.int g]) (rest := []) X hl.1 h (c_X7_isDoing l J z ad G g) h.2.2.2.2.2.2.2 mw_203 mw_2 mw_204 pdX7_isDoing ⟨Nat.le_of_ble_eq_true rfl, Nat.le_of_ble_eq_true rfl⟩ ⟨Nat.le_of_ble_eq_true rfl, Nat.le_of_ble_eq_true rfl⟩ rfl (Nat.le_of_ble_eq_true rfl) dX5_addPetition_19 (fun H locs h => ?_)
      refine lv_if_ne (tgt := 27) hx hb dX5_addPetition_22 (by decide) (fun c_22 => ?_) (fun c_22 => ?_)
      · rw [b2_z] at c_22
        have hA : isN (nI D) (kn r) ∧ inN x 0 6 ∧ isN g 20 := ⟨⟨D, hD, rfl⟩, (isN_in (by omega)).mpr (Classical.not_not.mp c_15), Classical.not_not.mp c_22⟩
        have eT : tn (nI D) = D := tn_nI (by omega)
        refine lv_iload hx hb dX5_addPetition_27 (lv_at hl 4 rfl) ?_
        refine lv_if_lt (tgt := 38) hx hb dX5_addPetition_29 (by decide) (fun c_29 => ?_) (fun c_29 => ?_)
        · refine lv_bipush (v := (-2)) hx hb dX5_addPetition_38 (by decide) ?_
          exact hret (-2) G _ _ 40 _ (⟨by unfold ptA; rw [cif_t hA, cif_f (fun q => by have q2 := (inN_iff (by omega) (by omega)).mpr q; first | exact Int32.not_lt.mpr q2.1 c_29 | exact c_35 q2.2)], hfr, by unfold ptR; rw [cif_f (fun q => by have q2 := (inN_iff (by omega) (by omega)).mpr q.2.1; first | exact Int32.not_lt.mpr q2.1 c_29 | exact c_35 q2.2)]; exact hR0⟩) h dX5_addPetition_40
        · refine lv_iload hx hb dX5_addPetition_32 (lv_at hl 4 rfl) ?_
          refine lv_iconst (v := nI 2) hx hb dX5_addPetition_34 (by decide) ?_
          refine lv_icmp_le (tgt := 41) hx hb dX5_addPetition_35 (by decide) (fun c_35 => ?_) (fun c_35 => ?_)
          · have hK : inN k 0 2 := (inN_iff (by omega) (by omega)).mp ⟨Int32.not_lt.mp c_29, c_35⟩
            refine lv_iload_n hx hb dX5_addPetition_41 rfl (lv_at hl 2 rfl) ?_
            refine lv_bipush (v := nI 6) hx hb dX5_addPetition_42 (by decide) ?_
            refine lv_icmp_eq (tgt := 64) hx hb dX5_addPetition_44 (by decide) (fun c_44 => ?_) (fun c_44 => ?_)
            · refine lv_iconst (v := nI 0) hx hb dX5_addPetition_64 (by decide) ?_
              refine lv_istore (lv' := [(5, .int (nI 0)), (0, .ref (ad b)), (1, .int (nI D)), (2, .int x), (3, .int g), (4, .int k)]) hx hb dX5_addPetition_65 hl (by decide) rfl (fun ls hl => ?_)
              refine lv_iload hx hb dX5_addPetition_67 (lv_at hl 0 rfl) ?_
              refine lv_if_ne (tgt := 97) hx hb dX5_addPetition_69 (by decide) (fun c_69 => absurd (by decide) c_69) (fun c_69 => ?_)
              refine lv_aload_n hx hb dX5_addPetition_72 rfl (lv_at hl 1 rfl) ?_
              refine fg_X5_28 hB X h dX5_addPetition_73 ?_
              refine lv_iload_n hx hb dX5_addPetition_76 rfl (lv_at hl 2 rfl) ?_
              refine rg_civd (As := [.int (nI D)]) (rest := []) X hl.1 h (c_X3_madeBy l J z ad G b hB r hR0 D (by omega)) mw_423 mw_187 mw_188 mw_38 mw_189 pdX3_madeBy (hB.lt (by decide)) (so_11 hB J ad _) rfl rfl ⟨Nat.le_of_ble_eq_true rfl, Nat.le_of_ble_eq_true rfl⟩ ⟨Nat.le_of_ble_eq_true rfl, Nat.le_of_ble_eq_true rfl⟩ rfl (Nat.le_of_ble_eq_true rfl) dX5_addPetition_77 (fun H locs h => ?_)
              refine lv_bipush (v := (-5)) hx hb dX5_addPetition_80 (by decide) ?_
              refine lv_icmp_ne (tgt := 97) hx hb dX5_addPetition_82 (by decide) (fun c_82 => ?_) (fun c_82 => ?_)
              · refine lv_bipush (v := (-4)) hx hb dX5_addPetition_97 (by decide) ?_
                exact hret (-4) G _ _ 99 _ (⟨by unfold ptA; rw [cif_t hA, cif_t hK, cif_f (fun q : ptF r (nI D) x => by obtain ⟨q1, q2⟩ := q; rw [eT] at q1 q2; exact c_82 q1)], hfr, by unfold ptR; rw [cif_f (fun q2 => (fun q : ptF r (nI D) x => by obtain ⟨q1, q2⟩ := q; rw [eT] at q1 q2; exact c_82 q1) q2.2.2)]; exact hR0⟩) h dX5_addPetition_99
              · refine lv_aload_n hx hb dX5_addPetition_85 rfl (lv_at hl 1 rfl) ?_
                refine fg_X5_28 hB X h dX5_addPetition_86 ?_
                refine fg_X5_99 hB X h dX5_addPetition_89 ?_
                refine lv_as (y := nI ((mn r))) (k2) ?_
                refine lv_bipush (v := nI 12) hx hb dX5_addPetition_92 (by decide) ?_
                refine lv_icmp_lt (tgt := 100) hx hb dX5_addPetition_94 (by decide) (fun c_94 => ?_) (fun c_94 => absurd (nI_lt (show mn r < 12 by have hcn := cnt_not (P := fun d => r (6 * d + 14) ≠ (-5)) hD (fun q => q c_82); have hcm := hI.2.2.2; omega) (by omega)) c_94)
                have hF : ptF r (nI D) x := ⟨by rw [eT]; exact c_82, Or.inl c_44⟩
                have hm12 : mn r < 12 := by
                  have hcn := cnt_not (P := fun d => r (6 * d + 14) ≠ (-5)) hD (fun q => q c_82)
                  have hcm := hI.2.2.2
                  omega
                refine lv_aload_n hx hb dX5_addPetition_100 rfl (lv_at hl 1 rfl) ?_
                refine fg_X5_12 hB X h dX5_addPetition_101 ?_
                refine fg_X5_100 hB X h dX5_addPetition_104 ?_
                refine lv_iload_n hx hb dX5_addPetition_107 rfl (lv_at hl 2 rfl) ?_
                refine lv_dup2_11 hx hb dX5_addPetition_108 rfl rfl ?_
                refine rg_ild X h (b + 4) (hB.lt (by decide)) (sa_4 hB J ad) (D) rfl (by omega) (by decide) dX5_addPetition_109 ?_
                refine lv_iconst (v := nI 1) hx hb dX5_addPetition_110 (by decide) ?_
                refine lv_iadd hx hb dX5_addPetition_111 ?_
                refine rg_ist X h (b + 4) (hB.lt (by decide)) (sa_4 hB J ad) (D) rfl (by omega) (by decide) dX5_addPetition_112 (fun H locs h => ?_)
                refine lv_aload_n hx hb dX5_addPetition_113 rfl (lv_at hl 1 rfl) ?_
                refine fg_X5_28 hB X h dX5_addPetition_114 ?_
                refine lv_iload_n hx hb dX5_addPetition_117 rfl (lv_at hl 2 rfl) ?_
                refine lv_iload_n hx hb dX5_addPetition_118 rfl (lv_at hl 3 rfl) ?_
                refine lv_iload_n hx hb dX5_addPetition_119 rfl (lv_at hl 4 rfl) ?_
                refine lv_iload hx hb dX5_addPetition_120 (lv_at hl 5 rfl) ?_
                refine lv_aload_n hx hb dX5_addPetition_122 rfl (lv_at hl 1 rfl) ?_
                refine fg_X5_12 hB X h dX5_addPetition_123 ?_
                refine fg_X5_103 hB X h dX5_addPetition_126 ?_
                refine lv_iload_n hx hb dX5_addPetition_129 rfl (lv_at hl 2 rfl) ?_
                refine rg_ild X h (b + 3) (hB.lt (by decide)) (sa_3 hB J ad) (D) rfl (by omega) (by decide) dX5_addPetition_130 ?_
                refine lv_as (y := r (6 * D + 13)) (by rw [u1_n (show b + 3 ≠ b + 4 by omega)]; exact (hS.2.1 D hD).2.1) ?_
                refine rg_civd (As := [.int (nI D), .int x, .int g, .int k, .int (r (6 * D + 13))]) (rest := []) X hl.1 h (c_X3_add l J z ad (u1 G (b + 4) (upd (G (b + 4)) D (G (b + 4) D + nI 1))) b hB (mn r) (by rw [u1_n (show b + 11 ≠ b + 4 by omega)]; exact k2) (by omega) (nI D) x g k (r (6 * D + 13))) mw_424 mw_425 mw_426 mw_38 mw_427 pdX3_add (hB.lt (by decide)) (so_11 hB J ad _) rfl rfl ⟨Nat.le_of_ble_eq_true rfl, Nat.le_of_ble_eq_true rfl⟩ ⟨Nat.le_of_ble_eq_true rfl, Nat.le_of_ble_eq_true rfl⟩ rfl (Nat.le_of_ble_eq_true rfl) dX5_addPetition_131 (fun H locs h => ?_)
                exact hret (nI ((mn r))) (u1 (u1 (u1 (u1 (u1 (u1 (u1 (u1 G (b + 4) (upd (G (b + 4)) D (G (b + 4) D + nI 1))) (b + 12) (upd ((u1 G (b + 4) (upd (G (b + 4)) D (G (b + 4) D + nI 1))) (b + 12)) (mn r) (nI D))) (b + 13) (upd ((u1 G (b + 4) (upd (G (b + 4)) D (G (b + 4) D + nI 1))) (b + 13)) (mn r) x)) (b + 14) (upd ((u1 G (b + 4) (upd (G (b + 4)) D (G (b + 4) D + nI 1))) (b + 14)) (mn r) g)) (b + 15) (upd ((u1 G (b + 4) (upd (G (b + 4)) D (G (b + 4) D + nI 1))) (b + 15)) (mn r) k)) (b + 16) (upd ((u1 G (b + 4) (upd (G (b + 4)) D (G (b + 4) D + nI 1))) (b + 16)) (mn r) (r (6 * D + 13)))) (b + 17) (upd ((u1 G (b + 4) (upd (G (b + 4)) D (G (b + 4) D + nI 1))) (b + 17)) (mn r) (nI 0))) (b + 11) (upd ((u1 G (b + 4) (upd (G (b + 4)) D (G (b + 4) D + nI 1))) (b + 11)) 0 (nI (mn r + 1)))) _ _ 134 _ (⟨by unfold ptA; rw [cif_t hA, cif_t hK, cif_t hF], fun j hj => by rw [u1_n (by omega), u1_n (by omega), u1_n (by omega), u1_n (by omega), u1_n (by omega), u1_n (by omega), u1_n (by omega), u1_n (by omega)], Rep_pt hR0 hD hA.2.1 hA.2.2 hK hF hm12 (fun j g1 g2 g3 => by rw [u1_n (by omega), u1_n (by omega), u1_n (by omega), u1_n (by omega), u1_n (by omega), u1_n (by omega), u1_n (by omega), u1_n (by omega)]) (by rw [u1_n (by omega), u1_n (by omega), u1_n (by omega), u1_n (by omega), u1_n (by omega), u1_n (by omega), u1_n (by omega), u1_s]) (by rw [u1_s, upd_s]) (by rw [u1_n (by omega), u1_n (by omega), u1_n (by omega), u1_n (by omega), u1_n (by omega), u1_n (by omega), u1_s, u1_n (show b + 12 ≠ b + 4 by omega)]) (by rw [u1_n (by omega), u1_n (by omega), u1_n (by omega), u1_n (by omega), u1_n (by omega), u1_s, u1_n (show b + 13 ≠ b + 4 by omega)]) (by rw [u1_n (by omega), u1_n (by omega), u1_n (by omega), u1_n (by omega), u1_s, u1_n (show b + 14 ≠ b + 4 by omega)]) (by rw [u1_n (by omega), u1_n (by omega), u1_n (by omega), u1_s, u1_n (show b + 15 ≠ b + 4 by omega)]) (by rw [u1_n (by omega), u1_n (by omega), u1_s, u1_n (show b + 16 ≠ b + 4 by omega)]) (by rw [u1_n (by omega), u1_s, u1_n (show b + 17 ≠ b + 4 by omega)])⟩) h dX5_addPetition_134
            · refine lv_iload_n hx hb dX5_addPetition_47 rfl (lv_at hl 2 rfl) ?_
              refine lv_aload_n hx hb dX5_addPetition_48 rfl (lv_at hl 0 rfl) ?_
              refine fg_X5_12 hB X h dX5_addPetition_49 ?_
              refine fg_X5_86 hB X h dX5_addPetition_52 ?_
              refine lv_iload_n hx hb dX5_addPetition_55 rfl (lv_at hl 1 rfl) ?_
              refine rg_ild X h (b + 2) (hB.lt (by decide)) (sa_2 hB J ad) (D) rfl (by omega) (by decide) dX5_addPetition_56 ?_
              refine lv_as (y := r (6 * D + 12)) ((hS.2.1 D hD).1) ?_
              refine lv_icmp_eq (tgt := 64) hx hb dX5_addPetition_57 (by decide) (fun c_57 => ?_) (fun c_57 => ?_)
              · refine lv_iconst (v := nI 0) hx hb dX5_addPetition_64 (by decide) ?_
                refine lv_istore (lv' := [(5, .int (nI 0)), (0, .ref (ad b)), (1, .int (nI D)), (2, .int x), (3, .int g), (4, .int k)]) hx hb dX5_addPetition_65 hl (by decide) rfl (fun ls hl => ?_)
                refine lv_iload hx hb dX5_addPetition_67 (lv_at hl 0 rfl) ?_
                refine lv_if_ne (tgt := 97) hx hb dX5_addPetition_69 (by decide) (fun c_69 => absurd (by decide) c_69) (fun c_69 => ?_)
                refine lv_aload_n hx hb dX5_addPetition_72 rfl (lv_at hl 1 rfl) ?_
                refine fg_X5_28 hB X h dX5_addPetition_73 ?_
                refine lv_iload_n hx hb dX5_addPetition_76 rfl (lv_at hl 2 rfl) ?_
                refine rg_civd (As := [.int (nI D)]) (rest := []) X hl.1 h (c_X3_madeBy l J z ad G b hB r hR0 D (by omega)) mw_423 mw_187 mw_188 mw_38 mw_189 pdX3_madeBy (hB.lt (by decide)) (so_11 hB J ad _) rfl rfl ⟨Nat.le_of_ble_eq_true rfl, Nat.le_of_ble_eq_true rfl⟩ ⟨Nat.le_of_ble_eq_true rfl, Nat.le_of_ble_eq_true rfl⟩ rfl (Nat.le_of_ble_eq_true rfl) dX5_addPetition_77 (fun H locs h => ?_)
                refine lv_bipush (v := (-5)) hx hb dX5_addPetition_80 (by decide) ?_
                refine lv_icmp_ne (tgt := 97) hx hb dX5_addPetition_82 (by decide) (fun c_82 => ?_) (fun c_82 => ?_)
                · refine lv_bipush (v := (-4)) hx hb dX5_addPetition_97 (by decide) ?_
                  exact hret (-4) G _ _ 99 _ (⟨by unfold ptA; rw [cif_t hA, cif_t hK, cif_f (fun q : ptF r (nI D) x => by obtain ⟨q1, q2⟩ := q; rw [eT] at q1 q2; exact c_82 q1)], hfr, by unfold ptR; rw [cif_f (fun q2 => (fun q : ptF r (nI D) x => by obtain ⟨q1, q2⟩ := q; rw [eT] at q1 q2; exact c_82 q1) q2.2.2)]; exact hR0⟩) h dX5_addPetition_99
                · refine lv_aload_n hx hb dX5_addPetition_85 rfl (lv_at hl 1 rfl) ?_
                  refine fg_X5_28 hB X h dX5_addPetition_86 ?_
                  refine fg_X5_99 hB X h dX5_addPetition_89 ?_
                  refine lv_as (y := nI ((mn r))) (k2) ?_
                  refine lv_bipush (v := nI 12) hx hb dX5_addPetition_92 (by decide) ?_
                  refine lv_icmp_lt (tgt := 100) hx hb dX5_addPetition_94 (by decide) (fun c_94 => ?_) (fun c_94 => absurd (nI_lt (show mn r < 12 by have hcn := cnt_not (P := fun d => r (6 * d + 14) ≠ (-5)) hD (fun q => q c_82); have hcm := hI.2.2.2; omega) (by omega)) c_94)
                  have hF : ptF r (nI D) x := ⟨by rw [eT]; exact c_82, Or.inr (by rw [eT]; exact c_57.symm)⟩
                  have hm12 : mn r < 12 := by
                    have hcn := cnt_not (P := fun d => r (6 * d + 14) ≠ (-5)) hD (fun q => q c_82)
                    have hcm := hI.2.2.2
                    omega
                  refine lv_aload_n hx hb dX5_addPetition_100 rfl (lv_at hl 1 rfl) ?_
                  refine fg_X5_12 hB X h dX5_addPetition_101 ?_
                  refine fg_X5_100 hB X h dX5_addPetition_104 ?_
                  refine lv_iload_n hx hb dX5_addPetition_107 rfl (lv_at hl 2 rfl) ?_
                  refine lv_dup2_11 hx hb dX5_addPetition_108 rfl rfl ?_
                  refine rg_ild X h (b + 4) (hB.lt (by decide)) (sa_4 hB J ad) (D) rfl (by omega) (by decide) dX5_addPetition_109 ?_
                  refine lv_iconst (v := nI 1) hx hb dX5_addPetition_110 (by decide) ?_
                  refine lv_iadd hx hb dX5_addPetition_111 ?_
                  refine rg_ist X h (b + 4) (hB.lt (by decide)) (sa_4 hB J ad) (D) rfl (by omega) (by decide) dX5_addPetition_112 (fun H locs h => ?_)
                  refine lv_aload_n hx hb dX5_addPetition_113 rfl (lv_at hl 1 rfl) ?_
                  refine fg_X5_28 hB X h dX5_addPetition_114 ?_
                  refine lv_iload_n hx hb dX5_addPetition_117 rfl (lv_at hl 2 rfl) ?_
                  refine lv_iload_n hx hb dX5_addPetition_118 rfl (lv_at hl 3 rfl) ?_
                  refine lv_iload_n hx hb dX5_addPetition_119 rfl (lv_at hl 4 rfl) ?_
                  refine lv_iload hx hb dX5_addPetition_120 (lv_at hl 5 rfl) ?_
                  refine lv_aload_n hx hb dX5_addPetition_122 rfl (lv_at hl 1 rfl) ?_
                  refine fg_X5_12 hB X h dX5_addPetition_123 ?_
                  refine fg_X5_103 hB X h dX5_addPetition_126 ?_
                  refine lv_iload_n hx hb dX5_addPetition_129 rfl (lv_at hl 2 rfl) ?_
                  refine rg_ild X h (b + 3) (hB.lt (by decide)) (sa_3 hB J ad) (D) rfl (by omega) (by decide) dX5_addPetition_130 ?_
                  refine lv_as (y := r (6 * D + 13)) (by rw [u1_n (show b + 3 ≠ b + 4 by omega)]; exact (hS.2.1 D hD).2.1) ?_
                  refine rg_civd (As := [.int (nI D), .int x, .int g, .int k, .int (r (6 * D + 13))]) (rest := []) X hl.1 h (c_X3_add l J z ad (u1 G (b + 4) (upd (G (b + 4)) D (G (b + 4) D + nI 1))) b hB (mn r) (by rw [u1_n (show b + 11 ≠ b + 4 by omega)]; exact k2) (by omega) (nI D) x g k (r (6 * D + 13))) mw_424 mw_425 mw_426 mw_38 mw_427 pdX3_add (hB.lt (by decide)) (so_11 hB J ad _) rfl rfl ⟨Nat.le_of_ble_eq_true rfl, Nat.le_of_ble_eq_true rfl⟩ ⟨Nat.le_of_ble_eq_true rfl, Nat.le_of_ble_eq_true rfl⟩ rfl (Nat.le_of_ble_eq_true rfl) dX5_addPetition_131 (fun H locs h => ?_)
                  exact hret (nI ((mn r))) (u1 (u1 (u1 (u1 (u1 (u1 (u1 (u1 G (b + 4) (upd (G (b + 4)) D (G (b + 4) D + nI 1))) (b + 12) (upd ((u1 G (b + 4) (upd (G (b + 4)) D (G (b + 4) D + nI 1))) (b + 12)) (mn r) (nI D))) (b + 13) (upd ((u1 G (b + 4) (upd (G (b + 4)) D (G (b + 4) D + nI 1))) (b + 13)) (mn r) x)) (b + 14) (upd ((u1 G (b + 4) (upd (G (b + 4)) D (G (b + 4) D + nI 1))) (b + 14)) (mn r) g)) (b + 15) (upd ((u1 G (b + 4) (upd (G (b + 4)) D (G (b + 4) D + nI 1))) (b + 15)) (mn r) k)) (b + 16) (upd ((u1 G (b + 4) (upd (G (b + 4)) D (G (b + 4) D + nI 1))) (b + 16)) (mn r) (r (6 * D + 13)))) (b + 17) (upd ((u1 G (b + 4) (upd (G (b + 4)) D (G (b + 4) D + nI 1))) (b + 17)) (mn r) (nI 0))) (b + 11) (upd ((u1 G (b + 4) (upd (G (b + 4)) D (G (b + 4) D + nI 1))) (b + 11)) 0 (nI (mn r + 1)))) _ _ 134 _ (⟨by unfold ptA; rw [cif_t hA, cif_t hK, cif_t hF], fun j hj => by rw [u1_n (by omega), u1_n (by omega), u1_n (by omega), u1_n (by omega), u1_n (by omega), u1_n (by omega), u1_n (by omega), u1_n (by omega)], Rep_pt hR0 hD hA.2.1 hA.2.2 hK hF hm12 (fun j g1 g2 g3 => by rw [u1_n (by omega), u1_n (by omega), u1_n (by omega), u1_n (by omega), u1_n (by omega), u1_n (by omega), u1_n (by omega), u1_n (by omega)]) (by rw [u1_n (by omega), u1_n (by omega), u1_n (by omega), u1_n (by omega), u1_n (by omega), u1_n (by omega), u1_n (by omega), u1_s]) (by rw [u1_s, upd_s]) (by rw [u1_n (by omega), u1_n (by omega), u1_n (by omega), u1_n (by omega), u1_n (by omega), u1_n (by omega), u1_s, u1_n (show b + 12 ≠ b + 4 by omega)]) (by rw [u1_n (by omega), u1_n (by omega), u1_n (by omega), u1_n (by omega), u1_n (by omega), u1_s, u1_n (show b + 13 ≠ b + 4 by omega)]) (by rw [u1_n (by omega), u1_n (by omega), u1_n (by omega), u1_n (by omega), u1_s, u1_n (show b + 14 ≠ b + 4 by omega)]) (by rw [u1_n (by omega), u1_n (by omega), u1_n (by omega), u1_s, u1_n (show b + 15 ≠ b + 4 by omega)]) (by rw [u1_n (by omega), u1_n (by omega), u1_s, u1_n (show b + 16 ≠ b + 4 by omega)]) (by rw [u1_n (by omega), u1_s, u1_n (show b + 17 ≠ b + 4 by omega)])⟩) h dX5_addPetition_134
              · refine lv_iconst (v := nI 1) hx hb dX5_addPetition_60 (by decide) ?_
                refine lv_goto (tgt := 65) hx hb dX5_addPetition_61 (by decide) ?_
                refine lv_istore (lv' := [(5, .int (nI 1)), (0, .ref (ad b)), (1, .int (nI D)), (2, .int x), (3, .int g), (4, .int k)]) hx hb dX5_addPetition_65 hl (by decide) rfl (fun ls hl => ?_)
                refine lv_iload hx hb dX5_addPetition_67 (lv_at hl 0 rfl) ?_
                refine lv_if_ne (tgt := 97) hx hb dX5_addPetition_69 (by decide) (fun c_69 => ?_) (fun c_69 => absurd c_69 (by decide))
                refine lv_bipush (v := (-4)) hx hb dX5_addPetition_97 (by decide) ?_
                exact hret (-4) G _ _ 99 _ (⟨by unfold ptA; rw [cif_t hA, cif_t hK, cif_f (fun q : ptF r (nI D) x => by obtain ⟨q1, q2⟩ := q; rw [eT] at q1 q2; exact q2.elim c_44 (fun q3 => c_57 q3.symm))], hfr, by unfold ptR; rw [cif_f (fun q2 => (fun q : ptF r (nI D) x => by obtain ⟨q1, q2⟩ := q; rw [eT] at q1 q2; exact q2.elim c_44 (fun q3 => c_57 q3.symm)) q2.2.2)]; exact hR0⟩) h dX5_addPetition_99
          · refine lv_bipush (v := (-2)) hx hb dX5_addPetition_38 (by decide) ?_
            exact hret (-2) G _ _ 40 _ (⟨by unfold ptA; rw [cif_t hA, cif_f (fun q => by have q2 := (inN_iff (by omega) (by omega)).mpr q; first | exact Int32.not_lt.mpr q2.1 c_29 | exact c_35 q2.2)], hfr, by unfold ptR; rw [cif_f (fun q => by have q2 := (inN_iff (by omega) (by omega)).mpr q.2.1; first | exact Int32.not_lt.mpr q2.1 c_29 | exact c_35 q2.2)]; exact hR0⟩) h dX5_addPetition_40
      · rw [b2_z] at c_22
        refine lv_iconst (v := (-1)) hx hb dX5_addPetition_25 (by decide) ?_
        exact hret (-1) G _ _ 26 _ (⟨by unfold ptA; rw [cif_f (fun q => by first | exact c_8 q.1 | exact c_15 ((isN_in (by omega)).mp q.2.1) | exact c_22 q.2.2)], hfr, by unfold ptR; rw [cif_f (fun q => by first | exact c_8 q.1.1 | exact c_15 ((isN_in (by omega)).mp q.1.2.1) | exact c_22 q.1.2.2)]; exact hR0⟩) h dX5_addPetition_26
set_option maxHeartbeats 4000000 in
set_option maxRecDepth 100000 in
theorem c_X5_addSeconder (l : Launch) (J : JJ) (z : ZZ) (ad : Nat → Nat) (G : GG) (b : Nat) (hB : IsB b) (r : Nat → Int32) (hR : Rep G b r) (d q : Int32) : MI l J z ad yX5_addSeconder cX5_addSeconder 4 .int 1 [.ref (ad b), .int d, .int q] G (fun ans uG => ans = (scA r d q) ∧ frm G uG b ∧ Rep uG b (scR r d q)) := by
  refine MI.go (by decide) (Nat.le_of_ble_eq_true rfl) ?_
  intro pr e s m args below meth c ls Q X h hl hret
  have hx := X.1
  have hb := X.2.1
  have hown := X.2.2.2.1
  have hts := X.2.2.2.2
  have hl : lv_has ls 4 [(0, .ref (ad b)), (1, .int d), (2, .int q)] := hl
  have hR0 := hR
  obtain ⟨hI, hS, hL, hP, hQ, hV, hBt⟩ := hR
  have hW := hI.1
  obtain ⟨⟨w1, w2⟩, ⟨w3, w4⟩, ⟨w5, w6⟩, w7, w8⟩ := hI.1
  have k1 : G (b + 1) 0 = nI (kn r) := hS.1.trans w1
  have k2 : G (b + 11) 0 = nI (mn r) := hP.1.trans w3
  have k3 : G (b + 18) 0 = nI (on r) := hQ.1.trans w5
  have hfr : frm G G b := fun _ _ => rfl
  refine lv_aload_n hx hb dX5_addSeconder_0 rfl (lv_at hl 0 rfl) ?_
  refine fg_X5_12 hB X h dX5_addSeconder_1 ?_
  refine lv_iload_n hx hb dX5_addSeconder_4 rfl (lv_at hl 1 rfl) ?_
  refine rg_civd (As := [.int d]) (rest := []) X hl.1 h (c_X6_knows l J z ad G b hB r hR0 d ) mw_410 mw_183 mw_184 mw_30 mw_185 pdX6_knows (hB.lt (by decide)) (so_1 hB J ad _) rfl rfl ⟨Nat.le_of_ble_eq_true rfl, Nat.le_of_ble_eq_true rfl⟩ ⟨Nat.le_of_ble_eq_true rfl, Nat.le_of_ble_eq_true rfl⟩ rfl (Nat.le_of_ble_eq_true rfl) dX5_addSeconder_5 (fun H locs h => ?_)
  refine lv_if_eq (tgt := 22) hx hb dX5_addSeconder_8 (by decide) (fun c_8 => ?_) (fun c_8 => ?_)
  · rw [b2_z] at c_8
    refine lv_iconst (v := (-1)) hx hb dX5_addSeconder_22 (by decide) ?_
    exact hret (-1) G _ _ 23 _ (⟨by unfold scA; rw [cif_f (fun x => by first | exact c_8 x.1 | exact c_19 x.2)], hfr, by unfold scR; rw [cif_f (fun x => by first | exact c_8 x.1.1 | exact c_19 x.1.2)]; exact hR0⟩) h dX5_addSeconder_23
  · rw [b2_z] at c_8
    obtain ⟨D, hD, rfl⟩ := Classical.not_not.mp c_8
    refine lv_aload_n hx hb dX5_addSeconder_11 rfl (lv_at hl 0 rfl) ?_
    refine fg_X5_28 hB X h dX5_addSeconder_12 ?_
    refine lv_iload_n hx hb dX5_addSeconder_15 rfl (lv_at hl 2 rfl) ?_
    refine rg_civd (As := [.int q]) (rest := []) X hl.1 h (c_X3_has l J z ad G b hB r hR0 q ) mw_437 mw_231 mw_232 mw_38 mw_233 pdX3_has (hB.lt (by decide)) (so_11 hB J ad _) rfl rfl ⟨Nat.le_of_ble_eq_true rfl, Nat.le_of_ble_eq_true rfl⟩ ⟨Nat.le_of_ble_eq_true rfl, Nat.le_of_ble_eq_true rfl⟩ rfl (Nat.le_of_ble_eq_true rfl) dX5_addSeconder_16 (fun H locs h => ?_)
    refine lv_if_ne (tgt := 24) hx hb dX5_addSeconder_19 (by decide) (fun c_19 => ?_) (fun c_19 => ?_)
    · rw [b2_z] at c_19
      obtain ⟨e0, he, rfl⟩ := Classical.not_not.mp c_19
      have hA : isN (nI D) (kn r) ∧ isN (nI e0) (mn r) := ⟨⟨D, hD, rfl⟩, ⟨e0, he, rfl⟩⟩
      have eT : tn (nI D) = D := tn_nI (by omega)
      have eT2 : tn (nI e0) = e0 := tn_nI (by omega)
      refine lv_aload_n hx hb dX5_addSeconder_24 rfl (lv_at hl 0 rfl) ?_
      refine fg_X5_28 hB X h dX5_addSeconder_25 ?_
      refine fg_X5_112 hB X h dX5_addSeconder_28 ?_
      refine lv_iload_n hx hb dX5_addSeconder_31 rfl (lv_at hl 2 rfl) ?_
      refine rg_ild X h (b + 12) (hB.lt (by decide)) (sa_12 hB J ad) (e0) rfl (by omega) (by decide) dX5_addSeconder_32 ?_
      refine lv_as (y := r (5 * e0 + 84)) ((hP.2 e0 he).1) ?_
      refine lv_iload_n hx hb dX5_addSeconder_33 rfl (lv_at hl 1 rfl) ?_
      refine lv_icmp_ne (tgt := 40) hx hb dX5_addSeconder_34 (by decide) (fun c_34 => ?_) (fun c_34 => ?_)
      · refine lv_iconst (v := nI 1) hx hb dX5_addSeconder_40 (by decide) ?_
        refine lv_iload_n hx hb dX5_addSeconder_41 rfl (lv_at hl 1 rfl) ?_
        refine lv_ishl hx hb dX5_addSeconder_42 ?_
        refine lv_istore_n (lv' := [(3, .int ((nI 1) <<< ((nI D) &&& 31))), (0, .ref (ad b)), (1, .int (nI D)), (2, .int (nI e0))]) hx hb dX5_addSeconder_43 rfl hl (by decide) rfl (fun ls hl => ?_)
        refine lv_aload_n hx hb dX5_addSeconder_44 rfl (lv_at hl 1 rfl) ?_
        refine fg_X5_28 hB X h dX5_addSeconder_45 ?_
        refine fg_X5_115 hB X h dX5_addSeconder_48 ?_
        refine lv_iload_n hx hb dX5_addSeconder_51 rfl (lv_at hl 3 rfl) ?_
        refine rg_ild X h (b + 17) (hB.lt (by decide)) (sa_17 hB J ad) (e0) rfl (by omega) (by decide) dX5_addSeconder_52 ?_
        refine lv_as (y := r (5 * e0 + 88)) ((hP.2 e0 he).2.2.2.2.2.1) ?_
        refine lv_iload_n hx hb dX5_addSeconder_53 rfl (lv_at hl 0 rfl) ?_
        refine lv_iand hx hb dX5_addSeconder_54 ?_
        refine lv_if_eq (tgt := 61) hx hb dX5_addSeconder_55 (by decide) (fun c_55 => ?_) (fun c_55 => ?_)
        · rw [bit_and (by omega)] at c_55
          have hnb : ¬ sbit r e0 (nI D) := fun x => by have x2 := (bit_o (by omega)).mp x; rw [c_55] at x2; cases x2
          refine lv_aload_n hx hb dX5_addSeconder_61 rfl (lv_at hl 1 rfl) ?_
          refine fg_X5_28 hB X h dX5_addSeconder_62 ?_
          refine fg_X5_115 hB X h dX5_addSeconder_65 ?_
          refine lv_iload_n hx hb dX5_addSeconder_68 rfl (lv_at hl 3 rfl) ?_
          refine lv_dup2_11 hx hb dX5_addSeconder_69 rfl rfl ?_
          refine rg_ild X h (b + 17) (hB.lt (by decide)) (sa_17 hB J ad) (e0) rfl (by omega) (by decide) dX5_addSeconder_70 ?_
          refine lv_as (y := r (5 * e0 + 88)) ((hP.2 e0 he).2.2.2.2.2.1) ?_
          refine lv_iload_n hx hb dX5_addSeconder_71 rfl (lv_at hl 0 rfl) ?_
          refine lv_ior hx hb dX5_addSeconder_72 ?_
          refine rg_ist X h (b + 17) (hB.lt (by decide)) (sa_17 hB J ad) (e0) rfl (by omega) (by decide) dX5_addSeconder_73 (fun H locs h => ?_)
          refine lv_aload_n hx hb dX5_addSeconder_74 rfl (lv_at hl 1 rfl) ?_
          refine fg_X5_28 hB X h dX5_addSeconder_75 ?_
          refine fg_X5_118 hB X h dX5_addSeconder_78 ?_
          refine lv_iload_n hx hb dX5_addSeconder_81 rfl (lv_at hl 3 rfl) ?_
          refine lv_dup2_11 hx hb dX5_addSeconder_82 rfl rfl ?_
          refine rg_ild X h (b + 16) (hB.lt (by decide)) (sa_16 hB J ad) (e0) rfl (by omega) (by decide) dX5_addSeconder_83 ?_
          refine lv_as (y := G (b + 16) e0) (by rw [u1_n (show b + 16 ≠ b + 17 by omega)]) ?_
          refine lv_aload_n hx hb dX5_addSeconder_84 rfl (lv_at hl 1 rfl) ?_
          refine fg_X5_12 hB X h dX5_addSeconder_85 ?_
          refine fg_X5_103 hB X h dX5_addSeconder_88 ?_
          refine lv_iload_n hx hb dX5_addSeconder_91 rfl (lv_at hl 2 rfl) ?_
          refine rg_ild X h (b + 3) (hB.lt (by decide)) (sa_3 hB J ad) (D) rfl (by omega) (by decide) dX5_addSeconder_92 ?_
          refine lv_as (y := r (6 * D + 13)) (by rw [u1_n (show b + 3 ≠ b + 17 by omega)]; exact (hS.2.1 D hD).2.1) ?_
          refine lv_iadd hx hb dX5_addSeconder_93 ?_
          refine rg_ist X h (b + 16) (hB.lt (by decide)) (sa_16 hB J ad) (e0) rfl (by omega) (by decide) dX5_addSeconder_94 (fun H locs h => ?_)
          rw [u1_n (show b + 16 ≠ b + 17 by omega)] at h
          have hsc := Rep_sc (uG := (u1 (u1 G (b + 17) (upd (G (b + 17)) e0 ((r (5 * e0 + 88)) ||| ((nI 1) <<< ((nI D) &&& 31))))) (b + 16) (upd (G (b + 16)) e0 ((G (b + 16) e0) + (r (6 * D + 13)))))) hR0 hD he c_34 hnb (fun k g1 g2 => by rw [u1_n (by omega), u1_n (by omega)]) (by rw [u1_s]) (by rw [u1_n (by omega), u1_s])
          refine lv_aload_n hx hb dX5_addSeconder_95 rfl (lv_at hl 1 rfl) ?_
          refine fg_X5_28 hB X h dX5_addSeconder_96 ?_
          refine fg_X5_118 hB X h dX5_addSeconder_99 ?_
          refine lv_iload_n hx hb dX5_addSeconder_102 rfl (lv_at hl 3 rfl) ?_
          refine rg_ild X h (b + 16) (hB.lt (by decide)) (sa_16 hB J ad) (e0) rfl (by omega) (by decide) dX5_addSeconder_103 ?_
          refine lv_as (y := G (b + 16) e0 + r (6 * D + 13)) (by rw [u1_s, upd_s]) ?_
          exact hret (G (b + 16) e0 + r (6 * D + 13)) (u1 (u1 G (b + 17) (upd (G (b + 17)) e0 ((r (5 * e0 + 88)) ||| ((nI 1) <<< ((nI D) &&& 31))))) (b + 16) (upd (G (b + 16)) e0 ((G (b + 16) e0) + (r (6 * D + 13))))) _ _ 104 _ (⟨by unfold scA; rw [cif_t hA, eT2, if_neg c_34, cif_f hnb]; exact (hsc).2.symm, fun k hk => by rw [u1_n (by omega), u1_n (by omega)], (hsc).1⟩) h dX5_addSeconder_104
        · rw [bit_and (by omega)] at c_55
          have hnb : sbit r e0 (nI D) := (bit_o (by omega)).mpr (by cases x : bt (r (5 * e0 + 88)) D; exact absurd x c_55; rfl)
          refine lv_bipush (v := (-5)) hx hb dX5_addSeconder_58 (by decide) ?_
          exact hret (-5) G _ _ 60 _ (⟨by unfold scA; rw [cif_t hA, eT2, if_neg c_34, cif_t hnb], hfr, by unfold scR; rw [cif_f (fun x => by rw [eT2] at x; exact x.2.2 hnb)]; exact hR0⟩) h dX5_addSeconder_60
      · refine lv_bipush (v := (-4)) hx hb dX5_addSeconder_37 (by decide) ?_
        exact hret (-4) G _ _ 39 _ (⟨by unfold scA; rw [cif_t hA, eT2, if_pos c_34], hfr, by unfold scR; rw [cif_f (fun x => by rw [eT2] at x; exact x.2.1 c_34)]; exact hR0⟩) h dX5_addSeconder_39
    · rw [b2_z] at c_19
      refine lv_iconst (v := (-1)) hx hb dX5_addSeconder_22 (by decide) ?_
      exact hret (-1) G _ _ 23 _ (⟨by unfold scA; rw [cif_f (fun x => by first | exact c_8 x.1 | exact c_19 x.2)], hfr, by unfold scR; rw [cif_f (fun x => by first | exact c_8 x.1.1 | exact c_19 x.1.2)]; exact hR0⟩) h dX5_addSeconder_23
