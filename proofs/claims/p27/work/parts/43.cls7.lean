set_option maxHeartbeats 4000000 in
set_option maxRecDepth 100000 in
theorem c_X4_add (l : Launch) (J : JJ) (z : ZZ) (ad : Nat → Nat) (G : GG) (b : Nat) (hB : IsB b) (n : Nat) (hn : G (b + 18) 0 = nI n) (hn12 : n < 12) (q : Nat) (hq : q < 12) : MV l J z ad yX4_add cX4_add 3 0 [.ref (ad (b + 18)), .ref (ad (b + 11)), .int (nI q)] G (fun uG => uG = u1 (u1 (u1 (u1 (u1 G (b + 19) (upd (G (b + 19)) n (G (b + 13) q))) (b + 20) (upd (G (b + 20)) n (G (b + 14) q))) (b + 21) (upd (G (b + 21)) n (G (b + 15) q))) (b + 22) (upd (G (b + 22)) n (G (b + 16) q))) (b + 18) (upd (G (b + 18)) 0 (nI (n + 1)))) := by
  refine MV.go (by decide) (Nat.le_of_ble_eq_true rfl) ?_
  intro pr e s m args below meth c ls Q X h hl hret
  have hx := X.1
  have hb := X.2.1
  have hown := X.2.2.2.1
  have hts := X.2.2.2.2
  have hl : lv_has ls 3 [(0, .ref (ad (b + 18))), (1, .ref (ad (b + 11))), (2, .int (nI q))] := hl
  refine lv_aload_n hx hb dX4_add_0 rfl (lv_at hl 0 rfl) ?_
  refine fg_X4_24 hB X h dX4_add_1 ?_
  refine lv_as (y := nI n) (hn) ?_
  refine lv_bipush (v := nI 12) hx hb dX4_add_4 (by decide) ?_
  refine lv_icmp_ge (tgt := 79) hx hb dX4_add_6 (by decide) (fun c_6 => absurd c_6 (Int32.not_le.mpr (nI_lt hn12 (by omega)))) (fun c_6 => ?_)
  refine lv_aload_n hx hb dX4_add_9 rfl (lv_at hl 0 rfl) ?_
  refine fg_X4_9 hB X h dX4_add_10 ?_
  refine lv_aload_n hx hb dX4_add_13 rfl (lv_at hl 0 rfl) ?_
  refine fg_X4_24 hB X h dX4_add_14 ?_
  refine lv_as (y := nI n) (hn) ?_
  refine lv_aload_n hx hb dX4_add_17 rfl (lv_at hl 1 rfl) ?_
  refine fg_X4_34 hB X h dX4_add_18 ?_
  refine lv_iload_n hx hb dX4_add_21 rfl (lv_at hl 2 rfl) ?_
  refine rg_ild X h (b + 13) (hB.lt (by decide)) (sa_13 hB J ad) (q) rfl (by omega) (by decide) dX4_add_22 ?_
  refine lv_as (y := G (b + 13) q) (rfl) ?_
  refine rg_ist X h (b + 19) (hB.lt (by decide)) (sa_19 hB J ad) (n) rfl (by omega) (by decide) dX4_add_23 (fun H locs h => ?_)
  refine lv_aload_n hx hb dX4_add_24 rfl (lv_at hl 0 rfl) ?_
  refine fg_X4_15 hB X h dX4_add_25 ?_
  refine lv_aload_n hx hb dX4_add_28 rfl (lv_at hl 0 rfl) ?_
  refine fg_X4_24 hB X h dX4_add_29 ?_
  refine lv_as (y := nI n) (by rw [u1_n (show b + 18 ≠ b + 19 by omega)]; exact hn) ?_
  refine lv_aload_n hx hb dX4_add_32 rfl (lv_at hl 1 rfl) ?_
  refine fg_X4_37 hB X h dX4_add_33 ?_
  refine lv_iload_n hx hb dX4_add_36 rfl (lv_at hl 2 rfl) ?_
  refine rg_ild X h (b + 14) (hB.lt (by decide)) (sa_14 hB J ad) (q) rfl (by omega) (by decide) dX4_add_37 ?_
  refine lv_as (y := G (b + 14) q) (by rw [u1_n (show b + 14 ≠ b + 19 by omega)]) ?_
  refine rg_ist X h (b + 20) (hB.lt (by decide)) (sa_20 hB J ad) (n) rfl (by omega) (by decide) dX4_add_38 (fun H locs h => ?_)
  rw [u1_n (show b + 20 ≠ b + 19 by omega)] at h
  refine lv_aload_n hx hb dX4_add_39 rfl (lv_at hl 0 rfl) ?_
  refine fg_X4_18 hB X h dX4_add_40 ?_
  refine lv_aload_n hx hb dX4_add_43 rfl (lv_at hl 0 rfl) ?_
  refine fg_X4_24 hB X h dX4_add_44 ?_
  refine lv_as (y := nI n) (by rw [u1_n (show b + 18 ≠ b + 20 by omega), u1_n (show b + 18 ≠ b + 19 by omega)]; exact hn) ?_
  refine lv_aload_n hx hb dX4_add_47 rfl (lv_at hl 1 rfl) ?_
  refine fg_X4_38 hB X h dX4_add_48 ?_
  refine lv_iload_n hx hb dX4_add_51 rfl (lv_at hl 2 rfl) ?_
  refine rg_ild X h (b + 15) (hB.lt (by decide)) (sa_15 hB J ad) (q) rfl (by omega) (by decide) dX4_add_52 ?_
  refine lv_as (y := G (b + 15) q) (by rw [u1_n (show b + 15 ≠ b + 20 by omega), u1_n (show b + 15 ≠ b + 19 by omega)]) ?_
  refine rg_ist X h (b + 21) (hB.lt (by decide)) (sa_21 hB J ad) (n) rfl (by omega) (by decide) dX4_add_53 (fun H locs h => ?_)
  rw [u1_n (show b + 21 ≠ b + 20 by omega), u1_n (show b + 21 ≠ b + 19 by omega)] at h
  refine lv_aload_n hx hb dX4_add_54 rfl (lv_at hl 0 rfl) ?_
  refine fg_X4_21 hB X h dX4_add_55 ?_
  refine lv_aload_n hx hb dX4_add_58 rfl (lv_at hl 0 rfl) ?_
  refine fg_X4_24 hB X h dX4_add_59 ?_
  refine lv_as (y := nI n) (by rw [u1_n (show b + 18 ≠ b + 21 by omega), u1_n (show b + 18 ≠ b + 20 by omega), u1_n (show b + 18 ≠ b + 19 by omega)]; exact hn) ?_
  refine lv_aload_n hx hb dX4_add_62 rfl (lv_at hl 1 rfl) ?_
  refine fg_X4_39 hB X h dX4_add_63 ?_
  refine lv_iload_n hx hb dX4_add_66 rfl (lv_at hl 2 rfl) ?_
  refine rg_ild X h (b + 16) (hB.lt (by decide)) (sa_16 hB J ad) (q) rfl (by omega) (by decide) dX4_add_67 ?_
  refine lv_as (y := G (b + 16) q) (by rw [u1_n (show b + 16 ≠ b + 21 by omega), u1_n (show b + 16 ≠ b + 20 by omega), u1_n (show b + 16 ≠ b + 19 by omega)]) ?_
  refine rg_ist X h (b + 22) (hB.lt (by decide)) (sa_22 hB J ad) (n) rfl (by omega) (by decide) dX4_add_68 (fun H locs h => ?_)
  rw [u1_n (show b + 22 ≠ b + 21 by omega), u1_n (show b + 22 ≠ b + 20 by omega), u1_n (show b + 22 ≠ b + 19 by omega)] at h
  refine lv_aload_n hx hb dX4_add_69 rfl (lv_at hl 0 rfl) ?_
  refine lv_dup hx hb dX4_add_70 rfl ?_
  refine fg_X4_24 hB X h dX4_add_71 ?_
  refine lv_as (y := nI n) (by rw [u1_n (show b + 18 ≠ b + 22 by omega), u1_n (show b + 18 ≠ b + 21 by omega), u1_n (show b + 18 ≠ b + 20 by omega), u1_n (show b + 18 ≠ b + 19 by omega)]; exact hn) ?_
  refine lv_iconst (v := nI 1) hx hb dX4_add_74 (by decide) ?_
  refine lv_iadd hx hb dX4_add_75 ?_
  refine lv_as (y := nI (n + 1)) (nI_addc (by omega)) ?_
  refine fp_X4_24 hB X h dX4_add_76 (fun H locs h => ?_)
  rw [u1_n (show b + 18 ≠ b + 22 by omega), u1_n (show b + 18 ≠ b + 21 by omega), u1_n (show b + 18 ≠ b + 20 by omega), u1_n (show b + 18 ≠ b + 19 by omega)] at h
  exact hret (u1 (u1 (u1 (u1 (u1 G (b + 19) (upd (G (b + 19)) n (G (b + 13) q))) (b + 20) (upd (G (b + 20)) n (G (b + 14) q))) (b + 21) (upd (G (b + 21)) n (G (b + 15) q))) (b + 22) (upd (G (b + 22)) n (G (b + 16) q))) (b + 18) (upd (G (b + 18)) 0 (nI (n + 1)))) _ _ 79 _ (rfl) h dX4_add_79
