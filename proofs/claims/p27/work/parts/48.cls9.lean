
theorem edI_le {r : Nat → Int32} (hI : RI r) : ∀ n, (edI r n).2 ≤ 12 * n := by
  intro n
  induction n with
  | zero => exact Nat.le_refl _
  | succ n ih =>
    have h1 : RI (edI r n).1 := edI_RI hI n
    have h2 : dayA (edI r n).1 ≤ 12 := by
      unfold dayA
      split
      · omega
      · have a := (hearC_ok (dayE (edI r n).1)).2
        have c := (dayE_RI h1).1.2.1.2
        omega
    show dayA (edI r n).1 + (edI r n).2 ≤ 12 * (n + 1)
    omega
set_option maxHeartbeats 4000000 in
set_option maxRecDepth 100000 in
theorem c_X5_endDays (l : Launch) (J : JJ) (z : ZZ) (ad : Nat → Nat) (G : GG) (b : Nat) (hB : IsB b) (r : Nat → Int32) (hR : Rep G b r) (n : Int32) : MI l J z ad yX5_endDays cX5_endDays 4 .int 4 [.ref (ad b), .int n] G (fun ans uG => ans = (edA r n) ∧ frm G uG b ∧ Rep uG b (edR r n)) := by
  refine MI.go (by decide) (Nat.le_of_ble_eq_true rfl) ?_
  intro pr e s m args below meth c ls Q X h hl hret
  have hx := X.1
  have hb := X.2.1
  have hown := X.2.2.2.1
  have hts := X.2.2.2.2
  have hl : lv_has ls 4 [(0, .ref (ad b)), (1, .int n)] := hl
  have hR0 := hR
  obtain ⟨hI, hS, hL, hP, hQ, hV, hBt⟩ := hR
  have hW := hI.1
  obtain ⟨⟨w1, w2⟩, ⟨w3, w4⟩, ⟨w5, w6⟩, w7, w8⟩ := hI.1
  have k1 : G (b + 1) 0 = nI (kn r) := hS.1.trans w1
  have k2 : G (b + 11) 0 = nI (mn r) := hP.1.trans w3
  have k3 : G (b + 18) 0 = nI (on r) := hQ.1.trans w5
  have hfr : frm G G b := fun _ _ => rfl
  refine lv_iload_n hx hb dX5_endDays_0 rfl (lv_at hl 1 rfl) ?_
  refine lv_iconst (v := nI 1) hx hb dX5_endDays_1 (by decide) ?_
  refine lv_icmp_lt (tgt := 11) hx hb dX5_endDays_2 (by decide) (fun c_2 => ?_) (fun c_2 => ?_)
  · refine lv_bipush (v := (-2)) hx hb dX5_endDays_11 (by decide) ?_
    exact hret (-2) G _ _ 13 _ (⟨by unfold edA; rw [cif_f (fun q => by have q2 := (inN_iff (by omega) (by omega)).mpr q; first | exact Int32.not_lt.mpr q2.1 c_2 | exact c_8 q2.2)], hfr, by unfold edR; rw [cif_f (fun q => by have q2 := (inN_iff (by omega) (by omega)).mpr q.1; first | exact Int32.not_lt.mpr q2.1 c_2 | exact c_8 q2.2)]; exact hR0⟩) h dX5_endDays_13
  · refine lv_iload_n hx hb dX5_endDays_5 rfl (lv_at hl 1 rfl) ?_
    refine lv_bipush (v := nI 99) hx hb dX5_endDays_6 (by decide) ?_
    refine lv_icmp_le (tgt := 14) hx hb dX5_endDays_8 (by decide) (fun c_8 => ?_) (fun c_8 => ?_)
    · have hd0 : inN n 1 99 := (inN_iff (by omega) (by omega)).mp ⟨Int32.not_lt.mp c_2, c_8⟩
      refine lv_aload_n hx hb dX5_endDays_14 rfl (lv_at hl 0 rfl) ?_
      refine fg_X5_59 hB X h dX5_endDays_15 ?_
      refine lv_as (y := r 2) (hV.2.2.1) ?_
      refine lv_iload_n hx hb dX5_endDays_18 rfl (lv_at hl 1 rfl) ?_
      refine lv_iadd hx hb dX5_endDays_19 ?_
      refine lv_ldc (v := nI 99999) hx hb hown (hts _ mw_339) dX5_endDays_20 ?_
      refine lv_icmp_le (tgt := 28) hx hb dX5_endDays_22 (by decide) (fun c_22 => ?_) (fun c_22 => ?_)
      · obtain ⟨D, hD1, hD99, rfl⟩ := hd0
        have hd0 : inN (nI D) 1 99 := ⟨D, hD1, hD99, rfl⟩
        have eT : tn (nI D) = D := tn_nI (by omega)
        refine lv_iconst (v := nI 0) hx hb dX5_endDays_28 (by decide) ?_
        refine lv_istore_n (lv' := [(2, .int (nI 0)), (0, .ref (ad b)), (1, .int (nI D))]) hx hb dX5_endDays_29 rfl hl (by decide) rfl (fun ls hl => ?_)
        refine lv_iconst (v := nI 0) hx hb dX5_endDays_30 (by decide) ?_
        refine lv_istore_n (lv' := [(3, .int (nI 0)), (2, .int (nI 0)), (0, .ref (ad b)), (1, .int (nI D))]) hx hb dX5_endDays_31 rfl hl (by decide) rfl (fun ls hl => ?_)
        have LP : ∀ (n i : Nat), D + 1 ≤ i + n → i ≤ D → ∀ (U : GG), Rep U b (edI r i).1 → frm G U b → ∀ (H : Heap) (locs : List Loc) (ls : Array Slot), HG J z ad s U H locs → lv_has ls 4 [(0, .ref (ad b)), (1, .int (nI D)), (2, .int (nI ((edI r i).2))), (3, .int (nI i))] → W pr l e (rmD 4 0 0) s m args below meth c H locs 0 0 Q (F0 m 32 ls []) := by
          intro n
          induction n with
          | zero =>
            intro i g1 g2
            exact absurd g1 (by omega)
          | succ n ih =>
            intro i g1 g2 U hRU hfr H locs ls h hl
            have hle := edI_le hI i
            have hIx : RI (edI r i).1 := edI_RI hI i
            refine lv_iload_n hx hb dX5_endDays_32 rfl (lv_at hl 3 rfl) ?_
            refine lv_iload_n hx hb dX5_endDays_33 rfl (lv_at hl 1 rfl) ?_
            refine lv_icmp_ge (tgt := 83) hx hb dX5_endDays_34 (by decide) (fun c_34 => ?_) (fun c_34 => ?_)
            · rw [nI_leI (by omega) (by omega)] at c_34
              refine lv_iload_n hx hb dX5_endDays_83 rfl (lv_at hl 2 rfl) ?_
              have hi : i = D := by omega
              subst hi
              exact hret (nI ((edI r i).2)) U _ _ 84 _ (⟨by unfold edA; rw [cif_t hd0, if_pos c_22, eT], hfr, by unfold edR; rw [cif_t ⟨hd0, c_22⟩, eT]; exact hRU⟩) h dX5_endDays_84
            · rw [nI_leI (by omega) (by omega)] at c_34
              refine lv_aload_n hx hb dX5_endDays_37 rfl (lv_at hl 0 rfl) ?_
              refine lv_dup hx hb dX5_endDays_38 rfl ?_
              refine fg_X5_59 hB X h dX5_endDays_39 ?_
              refine lv_iconst (v := nI 1) hx hb dX5_endDays_42 (by decide) ?_
              refine lv_iadd hx hb dX5_endDays_43 ?_
              refine fp_X5_59 hB X h dX5_endDays_44 (fun H locs h => ?_)
              refine lv_aload_n hx hb dX5_endDays_47 rfl (lv_at hl 0 rfl) ?_
              refine lv_dup hx hb dX5_endDays_48 rfl ?_
              refine fg_X5_66 hB X h dX5_endDays_49 ?_
              refine lv_as (y := U b 7) (by rw [u1_s, upd_n (by omega)]) ?_
              refine lv_iconst (v := nI 1) hx hb dX5_endDays_52 (by decide) ?_
              refine lv_iadd hx hb dX5_endDays_53 ?_
              refine fp_X5_66 hB X h dX5_endDays_54 (fun H locs h => ?_)
              rw [u1_uu] at h
              have hRd : Rep (u1 U b (upd (upd (U b) 5 ((U b 5) + (nI 1))) 7 ((U b 7) + (nI 1)))) b (dayE (edI r i).1) := Rep_day hRU (fun k hk => u1_n (by omega)) (by rw [u1_s, upd_n (by omega), upd_s]) (by rw [u1_s, upd_n (by omega), upd_n (by omega)]) (by rw [u1_s, upd_s]) (by rw [u1_s, upd_n (by omega), upd_n (by omega)])
              have hfd : frm G (u1 U b (upd (upd (U b) 5 ((U b 5) + (nI 1))) 7 ((U b 7) + (nI 1)))) b := fun k hk => (u1_n (by omega)).trans (hfr k hk)
              refine lv_aload_n hx hb dX5_endDays_57 rfl (lv_at hl 0 rfl) ?_
              refine fg_X5_66 hB X h dX5_endDays_58 ?_
              refine lv_as (y := (edI r i).1 4 + nI 1) (by rw [u1_s, upd_s, hRU.2.2.2.2.2.1.2.2.2.2.1]) ?_
              refine lv_aload_n hx hb dX5_endDays_61 rfl (lv_at hl 0 rfl) ?_
              refine fg_X5_39 hB X h dX5_endDays_62 ?_
              refine lv_iconst (v := nI 1) hx hb dX5_endDays_65 (by decide) ?_
              refine rg_ild X h (b + 23) (hB.lt (by decide)) (sa_23 hB J ad) (1) rfl (by omega) (by decide) dX5_endDays_66 ?_
              refine lv_as (y := (edI r i).1 1) (by rw [u1_n (show b + 23 ≠ b by omega)]; exact hRU.2.2.2.2.2.1.2.1) ?_
              refine lv_icmp_lt (tgt := 77) hx hb dX5_endDays_67 (by decide) (fun c_67 => ?_) (fun c_67 => ?_)
              · have hE2 : (edI r (i + 1)).2 = (edI r i).2 := by
                  show dayA (edI r i).1 + (edI r i).2 = _
                  unfold dayA
                  rw [if_pos c_67]
                  omega
                have hE1 : (edI r (i + 1)).1 = dayE (edI r i).1 := by
                  show dayR (edI r i).1 = _
                  unfold dayR
                  rw [if_pos c_67]
                have hRn : Rep (u1 U b (upd (upd (U b) 5 ((U b 5) + (nI 1))) 7 ((U b 7) + (nI 1)))) b (edI r (i + 1)).1 := by rw [hE1]; exact hRd
                have hfn := hfd
                rw [← hE2] at hl
                refine lv_iinc (v := nI (i + 1)) (lv' := [(3, .int (nI (i + 1))), (0, .ref (ad b)), (1, .int (nI D)), (2, .int (nI ((edI r (i + 1)).2)))]) hx hb dX5_endDays_77 hl (k := 3) rfl (nI_addc (b := 1) (by omega)) (by decide) rfl (fun ls hl => ?_)
                refine lv_goto (tgt := 32) hx hb dX5_endDays_80 (by decide) ?_
                exact ih (i + 1) (by omega) (by omega) _ hRn hfn _ _ _ h (lv_sub hl [1, 2, 3, 0] rfl)
              · refine lv_iload_n hx hb dX5_endDays_70 rfl (lv_at hl 2 rfl) ?_
                refine lv_aload_n hx hb dX5_endDays_71 rfl (lv_at hl 0 rfl) ?_
                have hdR : dayR (edI r i).1 = noOwn (kn (dayE (edI r i).1)) (upd (upd (upd (hrC (dayE (edI r i).1)) 3 (dayE (edI r i).1 3 + nI 1)) 4 (nI 0)) 6 (nI 0)) := by
                  unfold dayR
                  rw [if_neg c_67, show kn (dayE (edI r i).1) = kn (edI r i).1 from rfl]
                  rfl
                have hdA : dayA (edI r i).1 = (hearC (dayE (edI r i).1)).2.1 := by
                  unfold dayA
                  rw [if_neg c_67]
                refine rg_civ (As := []) (rest := [.int (nI ((edI r i).2))]) X hl.1 h (c_X5_endSeason l J z ad (u1 U b (upd (upd (U b) 5 ((U b 5) + (nI 1))) 7 ((U b 7) + (nI 1)))) b hB (dayE (edI r i).1) hRd (dayR (edI r i).1) hdR (dayR_RI hIx)) mw_340 mw_341 mw_342 mw_11 mw_343 pdX5_endSeason (hB.lt (c := 0) (by decide)) (so_0 hB J ad _) rfl rfl ⟨Nat.le_of_ble_eq_true rfl, Nat.le_of_ble_eq_true rfl⟩ ⟨Nat.le_of_ble_eq_true rfl, Nat.le_of_ble_eq_true rfl⟩ rfl (Nat.le_of_ble_eq_true rfl) dX5_endDays_72 (fun r3 G3 H locs q3 h => ?_)
                obtain ⟨rfl, hf1, hR1⟩ := q3
                have hA12 := (hearC_ok (dayE (edI r i).1)).2
                have hm12 := hRd.1.1.2.1.2
                refine lv_iadd hx hb dX5_endDays_75 ?_
                refine lv_as (y := nI ((edI r i).2 + (hearC (dayE (edI r i).1)).2.1)) (nI_addc (by omega)) ?_
                refine lv_istore_n (lv' := [(2, .int (nI ((edI r i).2 + (hearC (dayE (edI r i).1)).2.1))), (0, .ref (ad b)), (1, .int (nI D)), (3, .int (nI i))]) hx hb dX5_endDays_76 rfl hl (by decide) rfl (fun ls hl => ?_)
                have hE2 : (edI r (i + 1)).2 = (edI r i).2 + (hearC (dayE (edI r i).1)).2.1 := by
                  show dayA (edI r i).1 + (edI r i).2 = _
                  rw [hdA]
                  omega
                have hRn : Rep G3 b (edI r (i + 1)).1 := hR1
                have hfn : frm G G3 b := fun k hk => (hf1 k hk).trans (hfd k hk)
                rw [← hE2] at hl
                refine lv_iinc (v := nI (i + 1)) (lv' := [(3, .int (nI (i + 1))), (2, .int (nI ((edI r (i + 1)).2))), (0, .ref (ad b)), (1, .int (nI D))]) hx hb dX5_endDays_77 hl (k := 3) rfl (nI_addc (b := 1) (by omega)) (by decide) rfl (fun ls hl => ?_)
                refine lv_goto (tgt := 32) hx hb dX5_endDays_80 (by decide) ?_
                exact ih (i + 1) (by omega) (by omega) _ hRn hfn _ _ _ h (lv_sub hl [2, 3, 1, 0] rfl)
        exact LP (D + 1) 0 (by omega) (by omega) G hR0 hfr _ _ _ h (lv_sub hl [2, 3, 1, 0] rfl)
      · refine lv_bipush (v := (-3)) hx hb dX5_endDays_25 (by decide) ?_
        exact hret (-3) G _ _ 27 _ (⟨by unfold edA; rw [cif_t hd0, if_neg c_22], hfr, by unfold edR; rw [cif_f (fun q => c_22 q.2)]; exact hR0⟩) h dX5_endDays_27
    · refine lv_bipush (v := (-2)) hx hb dX5_endDays_11 (by decide) ?_
      exact hret (-2) G _ _ 13 _ (⟨by unfold edA; rw [cif_f (fun q => by have q2 := (inN_iff (by omega) (by omega)).mpr q; first | exact Int32.not_lt.mpr q2.1 c_2 | exact c_8 q2.2)], hfr, by unfold edR; rw [cif_f (fun q => by have q2 := (inN_iff (by omega) (by omega)).mpr q.1; first | exact Int32.not_lt.mpr q2.1 c_2 | exact c_8 q2.2)]; exact hR0⟩) h dX5_endDays_13
