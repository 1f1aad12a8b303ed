
theorem sg_law {r x : Nat → Int32} (hW : WR r) (h : LawEq r x) {i : Nat} (hi : i < mn r) : sg x i = sg r i := by
  have h1 : OrdS (supp r) (mn r) (sg x) := by
    have := sg_ok x
    rw [h.mn] at this
    exact ord_congr this (fun q hq => (h.supp hW hq).symm)
  exact ord_uniq h1 (sg_ok r) hi
set_option maxHeartbeats 4000000 in
set_option maxRecDepth 100000 in
theorem c_X5_hearPetitions (l : Launch) (J : JJ) (z : ZZ) (ad : Nat → Nat) (G : GG) (b : Nat) (hB : IsB b) (r : Nat → Int32) (hR : Rep G b r) : MI l J z ad yX5_hearPetitions cX5_hearPetitions 5 .int 2 [.ref (ad b)] G (fun ans uG => ans = nI (hearC r).2.1 ∧ frm G uG b ∧ Rep uG b (hearC r).1 ∧ ∀ q, q < mn r → uG (b + 24) q = (hearC r).2.2 q) := by
  refine MI.go (by decide) (Nat.le_of_ble_eq_true rfl) ?_
  intro pr e s m args below meth c ls Q X h hl hret
  have hx := X.1
  have hb := X.2.1
  have hown := X.2.2.2.1
  have hts := X.2.2.2.2
  have hl : lv_has ls 5 [(0, .ref (ad b))] := hl
  have hR0 := hR
  obtain ⟨hI, hS, hL, hP, hQ, hV, hBt⟩ := hR
  have hW := hI.1
  obtain ⟨⟨w1, w2⟩, ⟨w3, w4⟩, ⟨w5, w6⟩, w7, w8⟩ := hI.1
  have k1 : G (b + 1) 0 = nI (kn r) := hS.1.trans w1
  have k2 : G (b + 11) 0 = nI (mn r) := hP.1.trans w3
  have k3 : G (b + 18) 0 = nI (on r) := hQ.1.trans w5
  refine lv_iconst (v := nI 0) hx hb dX5_hearPetitions_0 (by decide) ?_
  refine lv_istore_n (lv' := [(1, .int (nI 0)), (0, .ref (ad b))]) hx hb dX5_hearPetitions_1 rfl hl (by decide) rfl (fun ls hl => ?_)
  refine lv_iconst (v := nI 0) hx hb dX5_hearPetitions_2 (by decide) ?_
  refine lv_istore_n (lv' := [(2, .int (nI 0)), (1, .int (nI 0)), (0, .ref (ad b))]) hx hb dX5_hearPetitions_3 rfl hl (by decide) rfl (fun ls hl => ?_)
  have LP : ∀ (n i : Nat), mn r + 1 ≤ i + n → i ≤ mn r → ∀ (U : GG) (x : Nat → Int32) (cN : Nat) (g : Nat → Int32), hear r (G (b + 24)) (sg r) i = (x, cN, g) → Rep U b x → frm G U b → U (b + 24) = g → ∀ (H : Heap) (locs : List Loc) (ls : Array Slot), HG J z ad s U H locs → lv_has ls 5 [(0, .ref (ad b)), (1, .int (nI cN)), (2, .int (nI i))] → W pr l e (rmD 2 0 0) s m args below meth c H locs 0 0 Q (F0 m 4 ls []) := by
    intro n
    induction n with
    | zero =>
      intro i g1 g2
      exact absurd g1 (by omega)
    | succ n ih =>
      intro i g1 g2 U x cN g hE hRx hfr h24 H locs ls h hl
      obtain ⟨hLe, hc⟩ := hear_ok hE
      have hmx := hLe.mn
      have k2x : U (b + 11) 0 = nI (mn r) := by rw [hRx.2.2.2.1.1, hRx.1.1.2.1.1, hmx]
      refine lv_iload_n hx hb dX5_hearPetitions_4 rfl (lv_at hl 2 rfl) ?_
      refine lv_aload_n hx hb dX5_hearPetitions_5 rfl (lv_at hl 0 rfl) ?_
      refine fg_X5_28 hB X h dX5_hearPetitions_6 ?_
      refine fg_X5_99 hB X h dX5_hearPetitions_9 ?_
      refine lv_as (y := nI ((mn r))) (k2x) ?_
      refine lv_icmp_ge (tgt := 73) hx hb dX5_hearPetitions_12 (by decide) (fun c_12 => ?_) (fun c_12 => ?_)
      · rw [nI_leI (by omega) (by omega)] at c_12
        refine lv_iload_n hx hb dX5_hearPetitions_73 rfl (lv_at hl 1 rfl) ?_
        have hi : i = mn r := by omega
        rw [hi] at hE
        have hC := hear_C (f := G (b + 24)) (sg_ok r)
        rw [hE] at hC
        obtain ⟨a1, a2, a3⟩ := hC
        exact hret (nI cN) U _ _ 74 _ (⟨by rw [← a2], hfr, by rw [← a1]; exact hRx, fun q hq => by rw [h24]; exact a3 q hq⟩) h dX5_hearPetitions_74
      · rw [nI_leI (by omega) (by omega)] at c_12
        have hsg := sg_law hW hLe (show i < mn r by omega)
        have hsl := (sg_ok r).1 i (by omega)
        have hpx := hRx.2.2.2.1.2 (sg r i) (by omega)
        refine lv_aload_n hx hb dX5_hearPetitions_15 rfl (lv_at hl 0 rfl) ?_
        refine fg_X5_28 hB X h dX5_hearPetitions_16 ?_
        refine lv_iload_n hx hb dX5_hearPetitions_19 rfl (lv_at hl 2 rfl) ?_
        refine rg_civd (As := [.int (nI i)]) (rest := []) X hl.1 h (c_X3_atRank l J z ad U b hB x hRx (nI i) ) mw_305 mw_239 mw_240 mw_38 mw_241 pdX3_atRank (hB.lt (by decide)) (so_11 hB J ad _) rfl rfl ⟨Nat.le_of_ble_eq_true rfl, Nat.le_of_ble_eq_true rfl⟩ ⟨Nat.le_of_ble_eq_true rfl, Nat.le_of_ble_eq_true rfl⟩ rfl (Nat.le_of_ble_eq_true rfl) dX5_hearPetitions_20 (fun H locs h => ?_)
        refine lv_as (y := nI ((sg r i))) (by rw [cif_t ⟨i, by omega, rfl⟩, tn_nI (by omega), hsg]) ?_
        refine lv_istore_n (lv' := [(3, .int (nI ((sg r i)))), (0, .ref (ad b)), (1, .int (nI cN)), (2, .int (nI i))]) hx hb dX5_hearPetitions_23 rfl hl (by decide) rfl (fun ls hl => ?_)
        refine lv_iload_n hx hb dX5_hearPetitions_24 rfl (lv_at hl 0 rfl) ?_
        refine lv_bipush (v := (-5)) hx hb dX5_hearPetitions_25 (by decide) ?_
        refine lv_icmp_eq (tgt := 67) hx hb dX5_hearPetitions_27 (by decide) (fun c_27 => absurd c_27 (nI_n5 (by omega))) (fun c_27 => ?_)
        refine lv_aload_n hx hb dX5_hearPetitions_30 rfl (lv_at hl 1 rfl) ?_
        refine lv_iload_n hx hb dX5_hearPetitions_31 rfl (lv_at hl 0 rfl) ?_
        refine lv_aload_n hx hb dX5_hearPetitions_32 rfl (lv_at hl 1 rfl) ?_
        refine fg_X5_28 hB X h dX5_hearPetitions_33 ?_
        refine fg_X5_118 hB X h dX5_hearPetitions_36 ?_
        refine lv_iload_n hx hb dX5_hearPetitions_39 rfl (lv_at hl 0 rfl) ?_
        refine rg_ild X h (b + 16) (hB.lt (by decide)) (sa_16 hB J ad) ((sg r i)) rfl (by omega) (by decide) dX5_hearPetitions_40 ?_
        refine lv_as (y := supp x (sg r i)) (hpx.2.2.2.2.1) ?_
        refine rg_civd (As := [.int (nI ((sg r i))), .int (supp x (sg r i))]) (rest := []) X hl.1 h (c_X5_reasonToRefuse l J z ad U b hB x hRx (sg r i) (by omega) (supp x (sg r i)) hpx.2.2.2.2.2.2) mw_306 mw_307 mw_308 mw_11 mw_309 pdX5_reasonToRefuse (hB.lt (c := 0) (by decide)) (so_0 hB J ad _) rfl rfl ⟨Nat.le_of_ble_eq_true rfl, Nat.le_of_ble_eq_true rfl⟩ ⟨Nat.le_of_ble_eq_true rfl, Nat.le_of_ble_eq_true rfl⟩ rfl (Nat.le_of_ble_eq_true rfl) dX5_hearPetitions_41 (fun H locs h => ?_)
        refine lv_istore (lv' := [(4, .int (refu x (sg r i) (supp x (sg r i)))), (3, .int (nI ((sg r i)))), (0, .ref (ad b)), (1, .int (nI cN)), (2, .int (nI i))]) hx hb dX5_hearPetitions_44 hl (by decide) rfl (fun ls hl => ?_)
        refine lv_aload_n hx hb dX5_hearPetitions_46 rfl (lv_at hl 2 rfl) ?_
        refine fg_X5_43 hB X h dX5_hearPetitions_47 ?_
        refine lv_iload_n hx hb dX5_hearPetitions_50 rfl (lv_at hl 1 rfl) ?_
        refine lv_iload hx hb dX5_hearPetitions_51 (lv_at hl 0 rfl) ?_
        refine rg_ist X h (b + 24) (hB.lt (by decide)) (sa_24 hB J ad) ((sg r i)) rfl (by omega) (by decide) dX5_hearPetitions_53 (fun H locs h => ?_)
        have hRy : Rep (u1 U (b + 24) (upd (U (b + 24)) (sg r i) (refu x (sg r i) (supp x (sg r i))))) b x := Rep_frame (fun k h1 h2 => u1_n (by omega)) hRx
        refine lv_iload hx hb dX5_hearPetitions_54 (lv_at hl 0 rfl) ?_
        refine lv_if_ne (tgt := 67) hx hb dX5_hearPetitions_56 (by decide) (fun c_56 => ?_) (fun c_56 => ?_)
        · refine lv_iinc (v := nI (i + 1)) (lv' := [(2, .int (nI (i + 1))), (4, .int (refu x (sg r i) (supp x (sg r i)))), (3, .int (nI ((sg r i)))), (0, .ref (ad b)), (1, .int (nI cN))]) hx hb dX5_hearPetitions_67 hl (k := 4) rfl (nI_addc (b := 1) (by omega)) (by decide) rfl (fun ls hl => ?_)
          refine lv_goto (tgt := 4) hx hb dX5_hearPetitions_70 (by decide) ?_
          exact ih (i + 1) (by omega) (by omega) _ _ _ _ (hear_neg hE c_56) hRy (fun k hk => (u1_n (by omega)).trans (hfr k hk)) (by rw [u1_s, h24]) _ _ _ h (lv_sub hl [3, 4, 0] rfl)
        · refine lv_aload_n hx hb dX5_hearPetitions_59 rfl (lv_at hl 2 rfl) ?_
          refine lv_iload_n hx hb dX5_hearPetitions_60 rfl (lv_at hl 1 rfl) ?_
          refine rg_cvv (As := [.int (nI ((sg r i)))]) (rest := []) X hl.1 h (c_X5_grant l J z ad (u1 U (b + 24) (upd (U (b + 24)) (sg r i) (refu x (sg r i) (supp x (sg r i))))) b hB x hRy (sg r i) (by omega)) mw_320 mw_321 mw_322 mw_11 mw_323 pdX5_grant (hB.lt (c := 0) (by decide)) (so_0 hB J ad _) rfl rfl ⟨Nat.le_of_ble_eq_true rfl, Nat.le_of_ble_eq_true rfl⟩ ⟨Nat.le_of_ble_eq_true rfl, Nat.le_of_ble_eq_true rfl⟩ rfl (Nat.le_of_ble_eq_true rfl) dX5_hearPetitions_61 (fun G1 H locs q1 h => ?_)
          have q2 := q1
          refine lv_iinc (v := nI (cN + 1)) (lv' := [(1, .int (nI (cN + 1))), (4, .int (refu x (sg r i) (supp x (sg r i)))), (3, .int (nI ((sg r i)))), (0, .ref (ad b)), (2, .int (nI i))]) hx hb dX5_hearPetitions_64 hl (k := 3) rfl (nI_addc (b := 1) (by omega)) (by decide) rfl (fun ls hl => ?_)
          refine lv_iinc (v := nI (i + 1)) (lv' := [(2, .int (nI (i + 1))), (1, .int (nI (cN + 1))), (4, .int (refu x (sg r i) (supp x (sg r i)))), (3, .int (nI ((sg r i)))), (0, .ref (ad b))]) hx hb dX5_hearPetitions_67 hl (k := 4) rfl (nI_addc (b := 1) (by omega)) (by decide) rfl (fun ls hl => ?_)
          refine lv_goto (tgt := 4) hx hb dX5_hearPetitions_70 (by decide) ?_
          exact ih (i + 1) (by omega) (by omega) _ _ _ _ (hear_pos hE c_56) q2.2.2 (fun k hk => (q2.1 k hk).trans ((u1_n (by omega)).trans (hfr k hk))) (q2.2.1.trans (by rw [u1_s, h24])) _ _ _ h (lv_sub hl [4, 1, 0] rfl)
  exact LP (mn r + 1) 0 (by omega) (by omega) G r 0 (G (b + 24)) rfl hR0 (fun _ _ => rfl) rfl _ _ _ h (lv_sub hl [2, 1, 0] rfl)
