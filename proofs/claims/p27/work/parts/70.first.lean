/-! first: the one that is heard first -/
theorem st_row {r : Nat → Int32} {v : Nat} (h : v ≤ 60) : stR r (nI 0) (nI v) = upd r 0 (nI v) := by
  unfold stR
  rw [cif_t ⟨inN_c (Nat.le_refl _) (by omega), by rw [tn_nI (by omega)]; exact inN_c (by omega) h⟩, tn_nI (by omega)]
theorem st_ans {r : Nat → Int32} {v : Nat} (h : v ≤ 60) : stA r (nI 0) (nI v) = if r 0 = nI v then (-5) else r 0 := by
  unfold stA
  rw [cif_t (inN_c (Nat.le_refl _) (by omega)), cif_t (by rw [tn_nI (by omega)]; exact inN_c (by omega) h), tn_nI (by omega)]
theorem wp_no {y : Nat → Int32} {m : Nat} (hm : mn y = m) (h : ∀ q, q < m → (hearC y).2.2 q = nI 1) : wpA y = 0 := by
  unfold wpA
  rw [hm]
  exact b2_none m (fun q hq e => absurd ((h q hq).symm.trans e) (by decide))
set_option maxHeartbeats 4000000 in
set_option maxRecDepth 100000 in
theorem c_L_first (l : Launch) (J : JJ) (z : ZZ) (ad : Nat → Nat) (G : GG) (hz : z.2 ≤ 1) (r : Nat → Int32) (n B : Nat) (hv : Hv G r n) (hI : Iv B r) : MI l J z ad yL_first cL_first 7 .boolean 6 [.ref (ad 0)] G (fun ans uG => ans = nI 1 ∧ ∃ n', Hv uG r n') := by
  refine MZ.go (by decide) (Nat.le_of_ble_eq_true rfl) ?_
  intro pr e s m args below meth c ls Q X h hl hret
  have hx := X.1
  have hb := X.2.1
  have hown := X.2.2.2.1
  have hts := X.2.2.2.2
  have hl : lv_has ls 7 [(0, .ref (ad 0))] := hl
  have hR := hv.rep
  have h14 := hv.at
  have hW := hI.1.1
  obtain ⟨⟨w1, w2⟩, ⟨w3, w4⟩, ⟨w5, w6⟩, w7, w8⟩ := hI.1.1
  have hnn := hv.2.2.1
  obtain ⟨s1, s2, s3⟩ := sg_ok r
  rcases Nat.eq_zero_or_pos (mn r) with hm0 | hm0
  · have hcase := hm0
    refine lv_aload_n hx hb dL_first_0 rfl (lv_at hl 0 rfl) ?_
    refine lv_iconst (v := nI 0) hx hb dL_first_1 (by decide) ?_
    refine rg_civd (As := [.int (nI 0)]) (rest := []) X hl.1 h (c_X7_heard l J z ad G r hR (nI 0)) mw_234 mw_235 mw_236 mw_2 mw_237 pdX7_heard (by decide) (xo_0 J ad _) rfl rfl ⟨Nat.le_of_ble_eq_true rfl, Nat.le_of_ble_eq_true rfl⟩ ⟨Nat.le_of_ble_eq_true rfl, Nat.le_of_ble_eq_true rfl⟩ rfl (Nat.le_of_ble_eq_true rfl) dL_first_2 (fun H locs h => ?_)
    refine lv_as (y := (-5)) (hd_no hm0) ?_
    refine lv_istore_n (lv' := [(1, .int ((-5))), (0, .ref (ad 0))]) hx hb dL_first_5 rfl hl (by decide) rfl (fun ls hl => ?_)
    refine lv_iload_n hx hb dL_first_6 rfl (lv_at hl 0 rfl) ?_
    refine lv_if_ge (tgt := 23) hx hb dL_first_7 (by decide) (fun c_7 => absurd c_7 (by decide)) (fun c_7 => ?_)
    refine lv_aload_n hx hb dL_first_10 rfl (lv_at hl 1 rfl) ?_
    refine rg_civ (As := []) (rest := []) X hl.1 h (c_X7_wouldPass l J z ad G r hR ) mw_262 mw_263 mw_264 mw_2 mw_265 pdX7_wouldPass (by decide) (xo_0 J ad _) rfl rfl ⟨Nat.le_of_ble_eq_true rfl, Nat.le_of_ble_eq_true rfl⟩ ⟨Nat.le_of_ble_eq_true rfl, Nat.le_of_ble_eq_true rfl⟩ rfl (Nat.le_of_ble_eq_true rfl) dL_first_11 (fun r1 G1 H locs q1 h => ?_)
    obtain ⟨ea_11, tr_11⟩ := q1
    refine lv_as (y := nI 0) (ea_11.trans (wp_0 hm0)) ?_
    have hv := Hv.tr hv tr_11
    have hR := hv.rep
    have h14 := hv.at
    refine lv_if_ne (tgt := 21) hx hb dL_first_14 (by decide) (fun c_14 => absurd (by decide) c_14) (fun c_14 => ?_)
    refine lv_iconst (v := nI 1) hx hb dL_first_17 (by decide) ?_
    refine lv_goto (tgt := 22) hx hb dL_first_18 (by decide) ?_
    exact hret (nI 1) G1 _ _ 22 _ (⟨rfl, _, hv⟩) h rfl dL_first_22
  · have hF := s1 0 hm0
    refine lv_aload_n hx hb dL_first_0 rfl (lv_at hl 0 rfl) ?_
    refine lv_iconst (v := nI 0) hx hb dL_first_1 (by decide) ?_
    refine rg_civd (As := [.int (nI 0)]) (rest := []) X hl.1 h (c_X7_heard l J z ad G r hR (nI 0)) mw_234 mw_235 mw_236 mw_2 mw_237 pdX7_heard (by decide) (xo_0 J ad _) rfl rfl ⟨Nat.le_of_ble_eq_true rfl, Nat.le_of_ble_eq_true rfl⟩ ⟨Nat.le_of_ble_eq_true rfl, Nat.le_of_ble_eq_true rfl⟩ rfl (Nat.le_of_ble_eq_true rfl) dL_first_2 (fun H locs h => ?_)
    refine lv_as (y := nI ((sg r 0))) (hd_at w4 hm0) ?_
    refine lv_istore_n (lv' := [(1, .int (nI ((sg r 0)))), (0, .ref (ad 0))]) hx hb dL_first_5 rfl hl (by decide) rfl (fun ls hl => ?_)
    refine lv_iload_n hx hb dL_first_6 rfl (lv_at hl 0 rfl) ?_
    refine lv_if_ge (tgt := 23) hx hb dL_first_7 (by decide) (fun c_7 => ?_) (fun c_7 => absurd (nI_pos' (by omega)) c_7)
    refine lv_aload_n hx hb dL_first_23 rfl (lv_at hl 1 rfl) ?_
    refine rg_cisl (As := [.ref (ad 0)]) (rest := []) X hl.1 h (c_L_print l J z ad G hz r n B hv hI) mw_257 mw_258 mw_101 mw_259 pdL_print ⟨Nat.le_of_ble_eq_true rfl, Nat.le_of_ble_eq_true rfl⟩ ⟨Nat.le_of_ble_eq_true rfl, Nat.le_of_ble_eq_true rfl⟩ rfl (Nat.le_of_ble_eq_true rfl) dL_first_24 (fun H locs h => ?_)
    refine lv_lstore_n (lv' := [(2, .long (PR r)), (1, .int (nI ((sg r 0)))), (0, .ref (ad 0))]) hx hb dL_first_27 rfl hl (by decide) rfl (fun ls hl => ?_)
    rcases Classical.em ((hearC r).2.2 (sg r 0) = 0) with vf | vf
    · have hcase := vf
      refine lv_aload_n hx hb dL_first_28 rfl (lv_at hl 2 rfl) ?_
      refine lv_iload_n hx hb dL_first_29 rfl (lv_at hl 1 rfl) ?_
      refine rg_civ (As := [.int (nI ((sg r 0)))]) (rest := []) X hl.1 h (c_X7_reason l J z ad G r hR (nI ((sg r 0)))) mw_327 mw_328 mw_329 mw_2 mw_330 pdX7_reason (by decide) (xo_0 J ad _) rfl rfl ⟨Nat.le_of_ble_eq_true rfl, Nat.le_of_ble_eq_true rfl⟩ ⟨Nat.le_of_ble_eq_true rfl, Nat.le_of_ble_eq_true rfl⟩ rfl (Nat.le_of_ble_eq_true rfl) dL_first_30 (fun r2 G2 H locs q2 h => ?_)
      obtain ⟨ea_30, tr_30⟩ := q2
      refine lv_as (y := (hearC r).2.2 (sg r 0)) (ea_30.trans (rs_at w4 (by omega))) ?_
      have hv := Hv.tr hv tr_30
      have hR := hv.rep
      have h14 := hv.at
      refine lv_if_ne (tgt := 40) hx hb dL_first_33 (by decide) (fun c_33 => absurd (vf) c_33) (fun c_33 => ?_)
      refine lv_iconst (v := nI 1) hx hb dL_first_36 (by decide) ?_
      refine lv_goto (tgt := 41) hx hb dL_first_37 (by decide) ?_
      refine lv_aload_n hx hb dL_first_41 rfl (lv_at hl 2 rfl) ?_
      refine lv_iload_n hx hb dL_first_42 rfl (lv_at hl 1 rfl) ?_
      refine rg_civd (As := [.int (nI ((sg r 0)))]) (rest := [.int (nI 1)]) X hl.1 h (c_X7_lacks l J z ad G2 r hR (nI ((sg r 0)))) mw_449 mw_450 mw_451 mw_2 mw_452 pdX7_lacks (by decide) (xo_0 J ad _) rfl rfl ⟨Nat.le_of_ble_eq_true rfl, Nat.le_of_ble_eq_true rfl⟩ ⟨Nat.le_of_ble_eq_true rfl, Nat.le_of_ble_eq_true rfl⟩ rfl (Nat.le_of_ble_eq_true rfl) dL_first_43 (fun H locs h => ?_)
      refine lv_as (y := opI (lackO r (sg r 0))) (la_at w4 (by omega)) ?_
      refine lv_if_ne (tgt := 53) hx hb dL_first_46 (by decide) (fun c_46 => absurd (lack_0.mpr ((hearC_1st hm0).symm.trans vf)) c_46) (fun c_46 => ?_)
      refine lv_iconst (v := nI 1) hx hb dL_first_49 (by decide) ?_
      refine lv_goto (tgt := 54) hx hb dL_first_50 (by decide) ?_
      refine lv_icmp_ne (tgt := 61) hx hb dL_first_54 (by decide) (fun c_54 => absurd (by decide) c_54) (fun c_54 => ?_)
      refine lv_iconst (v := nI 1) hx hb dL_first_57 (by decide) ?_
      refine lv_goto (tgt := 62) hx hb dL_first_58 (by decide) ?_
      refine lv_istore (lv' := [(4, .int (nI 1)), (2, .long (PR r)), (1, .int (nI ((sg r 0)))), (0, .ref (ad 0))]) hx hb dL_first_62 hl (by decide) rfl (fun ls hl => ?_)
      refine lv_iconst (v := nI 0) hx hb dL_first_64 (by decide) ?_
      refine lv_istore (lv' := [(5, .int (nI 0)), (4, .int (nI 1)), (2, .long (PR r)), (1, .int (nI ((sg r 0)))), (0, .ref (ad 0))]) hx hb dL_first_65 hl (by decide) rfl (fun ls hl => ?_)
      have LP_67 : ∀ (k_67 i_67 : Nat), (mn r) + 1 ≤ i_67 + k_67 → i_67 ≤ (mn r) → ∀ (H : Heap) (locs : List Loc) (ls : Array Slot), HG J z ad s G2 H locs → lv_has ls 7 [(0, .ref (ad 0)), (1, .int (nI ((sg r 0)))), (2, .long (PR r)), (4, .int (nI 1)), (5, .int (nI i_67))] → W pr l e (rmD 6 0 0) s m args below meth c H locs 0 0 Q (F0 m 67 ls []) := by
        intro k_67
        induction k_67 with
        | zero =>
          intro i_67 g1 g2
          exact absurd g1 (by omega)
        | succ k_67 ih_67 =>
          intro i_67 g1_67 g2_67  H locs ls h hl
          refine lv_iload hx hb dL_first_67 (lv_at hl 4 rfl) ?_
          refine lv_aload_n hx hb dL_first_69 rfl (lv_at hl 0 rfl) ?_
          refine lv_bipush (v := nI 6) hx hb dL_first_70 (by decide) ?_
          refine rg_civd (As := [.int (nI 6)]) (rest := [.int (nI i_67)]) X hl.1 h (c_X7_count l J z ad G2 r hR (nI n) (G2 203 1) h14 rfl (nI 6)) mw_103 mw_104 mw_105 mw_2 mw_106 pdX7_count (by decide) (xo_0 J ad _) rfl rfl ⟨Nat.le_of_ble_eq_true rfl, Nat.le_of_ble_eq_true rfl⟩ ⟨Nat.le_of_ble_eq_true rfl, Nat.le_of_ble_eq_true rfl⟩ rfl (Nat.le_of_ble_eq_true rfl) dL_first_72 (fun H locs h => ?_)
          refine lv_as (y := nI ((mn r))) (mn_ct hI.1) ?_
          refine lv_icmp_ge (tgt := 149) hx hb dL_first_75 (by decide) (fun c_75 => ?_) (fun c_75 => ?_)
          · rw [nI_leI (by omega) (by omega)] at c_75
            obtain ⟨v, v1, v2, v3⟩ := supp_nat (q := sg r 0) w2 (w7 _ hF).2.1 hv.w
            refine lv_aload_n hx hb dL_first_149 rfl (lv_at hl 0 rfl) ?_
            refine lv_iload_n hx hb dL_first_150 rfl (lv_at hl 1 rfl) ?_
            refine lv_iconst (v := nI 4) hx hb dL_first_151 (by decide) ?_
            refine rg_civd (As := [.int (nI ((sg r 0))), .int (nI 4)]) (rest := []) X hl.1 h (c_X7_petitionOf l J z ad G2 r hR (nI ((sg r 0))) (nI 4)) mw_220 mw_221 mw_222 mw_2 mw_223 pdX7_petitionOf (by decide) (xo_0 J ad _) rfl rfl ⟨Nat.le_of_ble_eq_true rfl, Nat.le_of_ble_eq_true rfl⟩ ⟨Nat.le_of_ble_eq_true rfl, Nat.le_of_ble_eq_true rfl⟩ rfl (Nat.le_of_ble_eq_true rfl) dL_first_152 (fun H locs h => ?_)
            refine lv_as (y := nI v) ((po_4 w4 hF).trans v3) ?_
            refine lv_istore (lv' := [(5, .int (nI v)), (0, .ref (ad 0)), (1, .int (nI ((sg r 0)))), (2, .long (PR r)), (4, .int (nI 1))]) hx hb dL_first_155 hl (by decide) rfl (fun ls hl => ?_)
            refine lv_iload hx hb dL_first_157 (lv_at hl 4 rfl) ?_
            refine lv_if_eq (tgt := 217) hx hb dL_first_159 (by decide) (fun c_159 => absurd c_159 (by decide)) (fun c_159 => ?_)
            refine lv_iload hx hb dL_first_162 (lv_at hl 0 rfl) ?_
            refine lv_bipush (v := nI 60) hx hb dL_first_164 (by decide) ?_
            refine lv_icmp_ge (tgt := 217) hx hb dL_first_166 (by decide) (fun c_166 => ?_) (fun c_166 => ?_)
            · rw [nI_leI (by omega) (by omega)] at c_166
              refine lv_iload hx hb dL_first_217 (lv_at hl 4 rfl) ?_
              refine lv_if_eq (tgt := 235) hx hb dL_first_219 (by decide) (fun c_219 => absurd c_219 (by decide)) (fun c_219 => ?_)
              refine lv_aload_n hx hb dL_first_222 rfl (lv_at hl 1 rfl) ?_
              refine rg_cisl (As := [.ref (ad 0)]) (rest := []) X hl.1 h (c_L_print l J z ad G2 hz r n B hv hI) mw_257 mw_258 mw_101 mw_259 pdL_print ⟨Nat.le_of_ble_eq_true rfl, Nat.le_of_ble_eq_true rfl⟩ ⟨Nat.le_of_ble_eq_true rfl, Nat.le_of_ble_eq_true rfl⟩ rfl (Nat.le_of_ble_eq_true rfl) dL_first_223 (fun H locs h => ?_)
              refine lv_lload_n hx hb dL_first_226 rfl (lv_at hl 3 rfl) ?_
              refine W.lcmp hx hb dL_first_227 ?_
              refine lv_if_ne (tgt := 235) hx hb dL_first_228 (by decide) (fun c_228 => absurd (lg_self _) c_228) (fun c_228 => ?_)
              refine lv_iconst (v := nI 1) hx hb dL_first_231 (by decide) ?_
              refine lv_goto (tgt := 236) hx hb dL_first_232 (by decide) ?_
              exact hret (nI 1) G2 _ _ 236 _ (⟨rfl, _, hv⟩) h rfl dL_first_236
            · rw [nI_leI (by omega) (by omega)] at c_166
              refine lv_aload_n hx hb dL_first_169 rfl (lv_at hl 1 rfl) ?_
              refine lv_iconst (v := nI 0) hx hb dL_first_170 (by decide) ?_
              refine lv_iload hx hb dL_first_171 (lv_at hl 0 rfl) ?_
              refine lv_iconst (v := nI 1) hx hb dL_first_173 (by decide) ?_
              refine lv_iadd hx hb dL_first_174 ?_
              refine lv_as (y := nI (v + 1)) (nI_addc (by omega)) ?_
              refine rg_civ (As := [.int (nI 0), .int (nI (v + 1))]) (rest := []) X hl.1 h (k_X7_set l J z ad G2 n hv.2.1 hv.2.2.1 hv.1 r hv.2.2.2.2 (nI 0) (nI (v + 1))) mw_438 mw_439 mw_440 mw_2 mw_441 pdX7_set (by decide) (xo_0 J ad _) rfl rfl ⟨Nat.le_of_ble_eq_true rfl, Nat.le_of_ble_eq_true rfl⟩ ⟨Nat.le_of_ble_eq_true rfl, Nat.le_of_ble_eq_true rfl⟩ rfl (Nat.le_of_ble_eq_true rfl) dL_first_175 (fun r3 G3 H locs q3 h => ?_)
              obtain ⟨ea_175, G3_, hp_175, hv_175, ht_175, har_175⟩ := Hv_act hv ((stR_hi hI.1.1 (nI 0) (nI (v + 1))).cn hv.2.2.2.1) q3
              have h := HG.ph h hz hp_175
              refine lv_as (y := stA r (nI 0) (nI (v + 1))) ea_175 ?_
              have hy := st_row (r := r) (v := v + 1) (by omega)
              have ha := st_ans (r := r) (v := v + 1) (by omega)
              obtain ⟨me, mv⟩ := mood_all hI.1 hv.w v3 (by omega) hy
              obtain ⟨mm, LL, ⟨mm1, mm2⟩, -⟩ := hI.2.2.2.1
              rcases Classical.em (r 0 = nI (v + 1)) with c0 | c0
              · rw [if_pos c0] at ha
                have hyr := hy.trans (upd_sf c0)
                rw [ha] at hv_175
                rw [hyr] at hv_175 me mv
                refine lv_as (y := (-5)) ha ?_
                have hv1 := hv_175
                rw [nx_neg (by decide)] at hv1
                have hR1 := hv1.rep
                have h141 := hv1.at
                have w4y : mn r ≤ 12 := w4
                have w2y := w2
                have peI := hI
                refine lv_istore (lv' := [(6, .int ((-5))), (5, .int (nI v)), (0, .ref (ad 0)), (1, .int (nI ((sg r 0)))), (2, .long (PR r)), (4, .int (nI 1))]) hx hb dL_first_178 hl (by decide) rfl (fun ls hl => ?_)
                refine lv_aload_n hx hb dL_first_180 rfl (lv_at hl 2 rfl) ?_
                refine rg_civ (As := []) (rest := []) X hl.1 h (c_X7_wouldPass l J z ad G3_ r hR1 ) mw_262 mw_263 mw_264 mw_2 mw_265 pdX7_wouldPass (by decide) (xo_0 J ad _) rfl rfl ⟨Nat.le_of_ble_eq_true rfl, Nat.le_of_ble_eq_true rfl⟩ ⟨Nat.le_of_ble_eq_true rfl, Nat.le_of_ble_eq_true rfl⟩ rfl (Nat.le_of_ble_eq_true rfl) dL_first_181 (fun r4 G4 H locs q4 h => ?_)
                obtain ⟨ea_181, tr_181⟩ := q4
                refine lv_as (y := nI 0) (ea_181.trans (wp_no me mv)) ?_
                have hv1 := Hv.tr hv1 tr_181
                have hR1 := hv1.rep
                have h141 := hv1.at
                refine lv_if_ne (tgt := 214) hx hb dL_first_184 (by decide) (fun c_184 => absurd (by decide) c_184) (fun c_184 => ?_)
                refine lv_aload_n hx hb dL_first_187 rfl (lv_at hl 2 rfl) ?_
                refine lv_iload_n hx hb dL_first_188 rfl (lv_at hl 3 rfl) ?_
                refine rg_civ (As := [.int (nI ((sg r 0)))]) (rest := []) X hl.1 h (c_X7_reason l J z ad G4 r hR1 (nI ((sg r 0)))) mw_327 mw_328 mw_329 mw_2 mw_330 pdX7_reason (by decide) (xo_0 J ad _) rfl rfl ⟨Nat.le_of_ble_eq_true rfl, Nat.le_of_ble_eq_true rfl⟩ ⟨Nat.le_of_ble_eq_true rfl, Nat.le_of_ble_eq_true rfl⟩ rfl (Nat.le_of_ble_eq_true rfl) dL_first_189 (fun r5 G5 H locs q5 h => ?_)
                obtain ⟨ea_189, tr_189⟩ := q5
                refine lv_as (y := nI 1) (ea_189.trans ((rs_at w4y (by omega)).trans (mv _ hF))) ?_
                have hv1 := Hv.tr hv1 tr_189
                have hR1 := hv1.rep
                have h141 := hv1.at
                refine lv_iconst (v := nI 1) hx hb dL_first_192 (by decide) ?_
                refine lv_icmp_ne (tgt := 214) hx hb dL_first_193 (by decide) (fun c_193 => absurd (by decide) c_193) (fun c_193 => ?_)
                refine lv_iload hx hb dL_first_196 (lv_at hl 0 rfl) ?_
                refine lv_bipush (v := (-5)) hx hb dL_first_198 (by decide) ?_
                refine lv_icmp_eq (tgt := 210) hx hb dL_first_200 (by decide) (fun c_200 => ?_) (fun c_200 => absurd (by decide) c_200)
                refine lv_iconst (v := nI 1) hx hb dL_first_210 (by decide) ?_
                refine lv_goto (tgt := 215) hx hb dL_first_211 (by decide) ?_
                refine lv_istore (lv' := [(4, .int (nI 1)), (6, .int ((-5))), (5, .int (nI v)), (0, .ref (ad 0)), (1, .int (nI ((sg r 0)))), (2, .long (PR r))]) hx hb dL_first_215 hl (by decide) rfl (fun ls hl => ?_)
                have hv := hv1
                refine lv_iload hx hb dL_first_217 (lv_at hl 0 rfl) ?_
                refine lv_if_eq (tgt := 235) hx hb dL_first_219 (by decide) (fun c_219 => absurd c_219 (by decide)) (fun c_219 => ?_)
                refine lv_aload_n hx hb dL_first_222 rfl (lv_at hl 3 rfl) ?_
                refine rg_cisl (As := [.ref (ad 0)]) (rest := []) X hl.1 h (c_L_print l J z ad G5 hz r n B hv hI) mw_257 mw_258 mw_101 mw_259 pdL_print ⟨Nat.le_of_ble_eq_true rfl, Nat.le_of_ble_eq_true rfl⟩ ⟨Nat.le_of_ble_eq_true rfl, Nat.le_of_ble_eq_true rfl⟩ rfl (Nat.le_of_ble_eq_true rfl) dL_first_223 (fun H locs h => ?_)
                refine lv_lload_n hx hb dL_first_226 rfl (lv_at hl 5 rfl) ?_
                refine W.lcmp hx hb dL_first_227 ?_
                refine lv_if_ne (tgt := 235) hx hb dL_first_228 (by decide) (fun c_228 => absurd (lg_self _) c_228) (fun c_228 => ?_)
                refine lv_iconst (v := nI 1) hx hb dL_first_231 (by decide) ?_
                refine lv_goto (tgt := 236) hx hb dL_first_232 (by decide) ?_
                exact hret (nI 1) G5 _ _ 236 _ (⟨rfl, _, hv⟩) h rfl dL_first_236
              · rw [if_neg c0, mm1] at ha
                have hA0 : 0 ≤ stA r (nI 0) (nI (v + 1)) := by rw [ha]; exact nI_pos' (by omega)
                rw [nx_pos hA0] at hv_175 ht_175
                have htp := ht_175 hA0
                refine lv_as (y := nI mm) ha ?_
                have hv1 := hv_175
                have hR1 := hv1.rep
                have h141 := hv1.at
                have peI := stR_Iv hI (nI 0) (nI (v + 1))
                have w4y := peI.1.1.2.1.2
                have w2y := peI.1.1.1.2
                refine lv_istore (lv' := [(6, .int (nI mm)), (5, .int (nI v)), (0, .ref (ad 0)), (1, .int (nI ((sg r 0)))), (2, .long (PR r)), (4, .int (nI 1))]) hx hb dL_first_178 hl (by decide) rfl (fun ls hl => ?_)
                refine lv_aload_n hx hb dL_first_180 rfl (lv_at hl 2 rfl) ?_
                refine rg_civ (As := []) (rest := []) X hl.1 h (c_X7_wouldPass l J z ad G3_ (stR r (nI 0) (nI (v + 1))) hR1 ) mw_262 mw_263 mw_264 mw_2 mw_265 pdX7_wouldPass (by decide) (xo_0 J ad _) rfl rfl ⟨Nat.le_of_ble_eq_true rfl, Nat.le_of_ble_eq_true rfl⟩ ⟨Nat.le_of_ble_eq_true rfl, Nat.le_of_ble_eq_true rfl⟩ rfl (Nat.le_of_ble_eq_true rfl) dL_first_181 (fun r6 G6 H locs q6 h => ?_)
                obtain ⟨ea_181, tr_181⟩ := q6
                refine lv_as (y := nI 0) (ea_181.trans (wp_no me mv)) ?_
                have htp := Tp.tr htp tr_181
                have hv1 := Hv.tr hv1 tr_181
                have hR1 := hv1.rep
                have h141 := hv1.at
                refine lv_if_ne (tgt := 214) hx hb dL_first_184 (by decide) (fun c_184 => absurd (by decide) c_184) (fun c_184 => ?_)
                refine lv_aload_n hx hb dL_first_187 rfl (lv_at hl 2 rfl) ?_
                refine lv_iload_n hx hb dL_first_188 rfl (lv_at hl 3 rfl) ?_
                refine rg_civ (As := [.int (nI ((sg r 0)))]) (rest := []) X hl.1 h (c_X7_reason l J z ad G6 (stR r (nI 0) (nI (v + 1))) hR1 (nI ((sg r 0)))) mw_327 mw_328 mw_329 mw_2 mw_330 pdX7_reason (by decide) (xo_0 J ad _) rfl rfl ⟨Nat.le_of_ble_eq_true rfl, Nat.le_of_ble_eq_true rfl⟩ ⟨Nat.le_of_ble_eq_true rfl, Nat.le_of_ble_eq_true rfl⟩ rfl (Nat.le_of_ble_eq_true rfl) dL_first_189 (fun r7 G7 H locs q7 h => ?_)
                obtain ⟨ea_189, tr_189⟩ := q7
                refine lv_as (y := nI 1) (ea_189.trans ((rs_at w4y (by omega)).trans (mv _ hF))) ?_
                have htp := Tp.tr htp tr_189
                have hv1 := Hv.tr hv1 tr_189
                have hR1 := hv1.rep
                have h141 := hv1.at
                refine lv_iconst (v := nI 1) hx hb dL_first_192 (by decide) ?_
                refine lv_icmp_ne (tgt := 214) hx hb dL_first_193 (by decide) (fun c_193 => absurd (by decide) c_193) (fun c_193 => ?_)
                refine lv_iload hx hb dL_first_196 (lv_at hl 0 rfl) ?_
                refine lv_bipush (v := (-5)) hx hb dL_first_198 (by decide) ?_
                refine lv_icmp_eq (tgt := 210) hx hb dL_first_200 (by decide) (fun c_200 => absurd c_200 (nI_n5 (by omega))) (fun c_200 => ?_)
                refine lv_aload_n hx hb dL_first_203 rfl (lv_at hl 2 rfl) ?_
                refine rg_civ (As := []) (rest := []) X hl.1 h (c_X7_undo l J z ad G7 (if n = 4 then 4 else n + 1) hv1.2.1 hv1.2.2.1 hv1.1) mw_368 mw_369 mw_370 mw_2 mw_371 pdX7_undo (by decide) (xo_0 J ad _) rfl rfl ⟨Nat.le_of_ble_eq_true rfl, Nat.le_of_ble_eq_true rfl⟩ ⟨Nat.le_of_ble_eq_true rfl, Nat.le_of_ble_eq_true rfl⟩ rfl (Nat.le_of_ble_eq_true rfl) dL_first_204 (fun r8 G8 H locs q8 h => ?_)
                obtain ⟨ea_204, G8_, hp_204, hv_204, har_204⟩ := Hv_undo hv1 htp q8
                have h := HG.ph h hz hp_204
                refine lv_as (y := nI (if n = 4 then 3 else n)) (ea_204.trans (congrArg nI (by split <;> omega))) ?_
                have hv := hv_204
                rw [show (if n = 4 then 4 else n + 1) - 1 = (if n = 4 then 3 else n) by split <;> omega] at hv
                have hR := hv.rep
                have h14 := hv.at
                refine lv_if_lt (tgt := 214) hx hb dL_first_207 (by decide) (fun c_207 => absurd c_207 (nI_nn (by split <;> omega))) (fun c_207 => ?_)
                refine lv_iconst (v := nI 1) hx hb dL_first_210 (by decide) ?_
                refine lv_goto (tgt := 215) hx hb dL_first_211 (by decide) ?_
                refine lv_istore (lv' := [(4, .int (nI 1)), (6, .int (nI mm)), (5, .int (nI v)), (0, .ref (ad 0)), (1, .int (nI ((sg r 0)))), (2, .long (PR r))]) hx hb dL_first_215 hl (by decide) rfl (fun ls hl => ?_)
                refine lv_iload hx hb dL_first_217 (lv_at hl 0 rfl) ?_
                refine lv_if_eq (tgt := 235) hx hb dL_first_219 (by decide) (fun c_219 => absurd c_219 (by decide)) (fun c_219 => ?_)
                refine lv_aload_n hx hb dL_first_222 rfl (lv_at hl 3 rfl) ?_
                refine rg_cisl (As := [.ref (ad 0)]) (rest := []) X hl.1 h (c_L_print l J z ad G8_ hz r (if n = 4 then 3 else n) B hv hI) mw_257 mw_258 mw_101 mw_259 pdL_print ⟨Nat.le_of_ble_eq_true rfl, Nat.le_of_ble_eq_true rfl⟩ ⟨Nat.le_of_ble_eq_true rfl, Nat.le_of_ble_eq_true rfl⟩ rfl (Nat.le_of_ble_eq_true rfl) dL_first_223 (fun H locs h => ?_)
                refine lv_lload_n hx hb dL_first_226 rfl (lv_at hl 5 rfl) ?_
                refine W.lcmp hx hb dL_first_227 ?_
                refine lv_if_ne (tgt := 235) hx hb dL_first_228 (by decide) (fun c_228 => absurd (lg_self _) c_228) (fun c_228 => ?_)
                refine lv_iconst (v := nI 1) hx hb dL_first_231 (by decide) ?_
                refine lv_goto (tgt := 236) hx hb dL_first_232 (by decide) ?_
                exact hret (nI 1) G8_ _ _ 236 _ (⟨rfl, _, hv⟩) h rfl dL_first_236
          · rw [nI_leI (by omega) (by omega)] at c_75
            refine lv_iload hx hb dL_first_78 (lv_at hl 3 rfl) ?_
            refine lv_if_eq (tgt := 140) hx hb dL_first_80 (by decide) (fun c_80 => absurd c_80 (by decide)) (fun c_80 => ?_)
            rcases lack_c r i_67 with el | ⟨j, j1, el⟩
            · have hcase := el
              refine lv_aload_n hx hb dL_first_83 rfl (lv_at hl 0 rfl) ?_
              refine lv_iload hx hb dL_first_84 (lv_at hl 4 rfl) ?_
              refine rg_civd (As := [.int (nI i_67)]) (rest := []) X hl.1 h (c_X7_lacks l J z ad G2 r hR (nI i_67)) mw_449 mw_450 mw_451 mw_2 mw_452 pdX7_lacks (by decide) (xo_0 J ad _) rfl rfl ⟨Nat.le_of_ble_eq_true rfl, Nat.le_of_ble_eq_true rfl⟩ ⟨Nat.le_of_ble_eq_true rfl, Nat.le_of_ble_eq_true rfl⟩ rfl (Nat.le_of_ble_eq_true rfl) dL_first_86 (fun H locs h => ?_)
              refine lv_as (y := (-5)) ((la_at w4 (by omega)).trans el) ?_
              refine lv_if_eq (tgt := 96) hx hb dL_first_89 (by decide) (fun c_89 => absurd c_89 (by decide)) (fun c_89 => ?_)
              refine lv_iconst (v := nI 1) hx hb dL_first_92 (by decide) ?_
              refine lv_goto (tgt := 97) hx hb dL_first_93 (by decide) ?_
              refine lv_aload_n hx hb dL_first_97 rfl (lv_at hl 0 rfl) ?_
              refine lv_iload hx hb dL_first_98 (lv_at hl 4 rfl) ?_
              refine rg_civd (As := [.int (nI i_67)]) (rest := [.int (nI 1)]) X hl.1 h (c_X7_lacks l J z ad G2 r hR (nI i_67)) mw_449 mw_450 mw_451 mw_2 mw_452 pdX7_lacks (by decide) (xo_0 J ad _) rfl rfl ⟨Nat.le_of_ble_eq_true rfl, Nat.le_of_ble_eq_true rfl⟩ ⟨Nat.le_of_ble_eq_true rfl, Nat.le_of_ble_eq_true rfl⟩ rfl (Nat.le_of_ble_eq_true rfl) dL_first_100 (fun H locs h => ?_)
              refine lv_as (y := (-5)) ((la_at w4 (by omega)).trans el) ?_
              refine lv_if_gt (tgt := 117) hx hb dL_first_103 (by decide) (fun c_103 => absurd c_103 (by decide)) (fun c_103 => ?_)
              refine lv_aload_n hx hb dL_first_106 rfl (lv_at hl 0 rfl) ?_
              refine lv_iload hx hb dL_first_107 (lv_at hl 4 rfl) ?_
              refine rg_civd (As := [.int (nI i_67)]) (rest := [.int (nI 1)]) X hl.1 h (c_X7_lacks l J z ad G2 r hR (nI i_67)) mw_449 mw_450 mw_451 mw_2 mw_452 pdX7_lacks (by decide) (xo_0 J ad _) rfl rfl ⟨Nat.le_of_ble_eq_true rfl, Nat.le_of_ble_eq_true rfl⟩ ⟨Nat.le_of_ble_eq_true rfl, Nat.le_of_ble_eq_true rfl⟩ rfl (Nat.le_of_ble_eq_true rfl) dL_first_109 (fun H locs h => ?_)
              refine lv_as (y := (-5)) ((la_at w4 (by omega)).trans el) ?_
              refine lv_bipush (v := (-5)) hx hb dL_first_112 (by decide) ?_
              refine lv_icmp_ne (tgt := 121) hx hb dL_first_114 (by decide) (fun c_114 => absurd (by decide) c_114) (fun c_114 => ?_)
              refine lv_iconst (v := nI 1) hx hb dL_first_117 (by decide) ?_
              refine lv_goto (tgt := 122) hx hb dL_first_118 (by decide) ?_
              refine lv_icmp_ne (tgt := 140) hx hb dL_first_122 (by decide) (fun c_122 => absurd (by decide) c_122) (fun c_122 => ?_)
              refine lv_aload_n hx hb dL_first_125 rfl (lv_at hl 0 rfl) ?_
              refine lv_iload hx hb dL_first_126 (lv_at hl 4 rfl) ?_
              refine rg_civd (As := [.int (nI i_67)]) (rest := []) X hl.1 h (c_X7_lacks l J z ad G2 r hR (nI i_67)) mw_449 mw_450 mw_451 mw_2 mw_452 pdX7_lacks (by decide) (xo_0 J ad _) rfl rfl ⟨Nat.le_of_ble_eq_true rfl, Nat.le_of_ble_eq_true rfl⟩ ⟨Nat.le_of_ble_eq_true rfl, Nat.le_of_ble_eq_true rfl⟩ rfl (Nat.le_of_ble_eq_true rfl) dL_first_128 (fun H locs h => ?_)
              refine lv_as (y := (-5)) ((la_at w4 (by omega)).trans el) ?_
              refine lv_bipush (v := nI 120) hx hb dL_first_131 (by decide) ?_
              refine lv_icmp_gt (tgt := 140) hx hb dL_first_133 (by decide) (fun c_133 => absurd c_133 (by decide)) (fun c_133 => ?_)
              refine lv_iconst (v := nI 1) hx hb dL_first_136 (by decide) ?_
              refine lv_goto (tgt := 141) hx hb dL_first_137 (by decide) ?_
              refine lv_istore (lv' := [(4, .int (nI 1)), (0, .ref (ad 0)), (1, .int (nI ((sg r 0)))), (2, .long (PR r)), (5, .int (nI i_67))]) hx hb dL_first_141 hl (by decide) rfl (fun ls hl => ?_)
              refine lv_iinc (v := nI (i_67 + 1)) (lv' := [(5, .int (nI (i_67 + 1))), (4, .int (nI 1)), (0, .ref (ad 0)), (1, .int (nI ((sg r 0)))), (2, .long (PR r))]) hx hb dL_first_143 hl (k := 4) rfl (nI_addc (b := 1) (by omega)) (by decide) rfl (fun ls hl => ?_)
              refine lv_goto (tgt := 67) hx hb dL_first_146 (by decide) ?_
              exact ih_67 (i_67 + 1) (by omega) (by omega) _ _ _ h (lv_sub hl [2, 3, 4, 1, 0] rfl)
            · have hcase := el
              refine lv_aload_n hx hb dL_first_83 rfl (lv_at hl 0 rfl) ?_
              refine lv_iload hx hb dL_first_84 (lv_at hl 4 rfl) ?_
              refine rg_civd (As := [.int (nI i_67)]) (rest := []) X hl.1 h (c_X7_lacks l J z ad G2 r hR (nI i_67)) mw_449 mw_450 mw_451 mw_2 mw_452 pdX7_lacks (by decide) (xo_0 J ad _) rfl rfl ⟨Nat.le_of_ble_eq_true rfl, Nat.le_of_ble_eq_true rfl⟩ ⟨Nat.le_of_ble_eq_true rfl, Nat.le_of_ble_eq_true rfl⟩ rfl (Nat.le_of_ble_eq_true rfl) dL_first_86 (fun H locs h => ?_)
              refine lv_as (y := nI j) ((la_at w4 (by omega)).trans el) ?_
              refine lv_if_eq (tgt := 96) hx hb dL_first_89 (by decide) (fun c_89 => ?_) (fun c_89 => ?_)
              · rw [nz_eq (by omega)] at c_89
                refine lv_iconst (v := nI 0) hx hb dL_first_96 (by decide) ?_
                refine lv_aload_n hx hb dL_first_97 rfl (lv_at hl 0 rfl) ?_
                refine lv_iload hx hb dL_first_98 (lv_at hl 4 rfl) ?_
                refine rg_civd (As := [.int (nI i_67)]) (rest := [.int (nI 0)]) X hl.1 h (c_X7_lacks l J z ad G2 r hR (nI i_67)) mw_449 mw_450 mw_451 mw_2 mw_452 pdX7_lacks (by decide) (xo_0 J ad _) rfl rfl ⟨Nat.le_of_ble_eq_true rfl, Nat.le_of_ble_eq_true rfl⟩ ⟨Nat.le_of_ble_eq_true rfl, Nat.le_of_ble_eq_true rfl⟩ rfl (Nat.le_of_ble_eq_true rfl) dL_first_100 (fun H locs h => ?_)
                refine lv_as (y := nI j) ((la_at w4 (by omega)).trans el) ?_
                refine lv_if_gt (tgt := 117) hx hb dL_first_103 (by decide) (fun c_103 => absurd c_103 (fun q => by have := (nz_gt (by omega)).mp q; omega)) (fun c_103 => ?_)
                refine lv_aload_n hx hb dL_first_106 rfl (lv_at hl 0 rfl) ?_
                refine lv_iload hx hb dL_first_107 (lv_at hl 4 rfl) ?_
                refine rg_civd (As := [.int (nI i_67)]) (rest := [.int (nI 0)]) X hl.1 h (c_X7_lacks l J z ad G2 r hR (nI i_67)) mw_449 mw_450 mw_451 mw_2 mw_452 pdX7_lacks (by decide) (xo_0 J ad _) rfl rfl ⟨Nat.le_of_ble_eq_true rfl, Nat.le_of_ble_eq_true rfl⟩ ⟨Nat.le_of_ble_eq_true rfl, Nat.le_of_ble_eq_true rfl⟩ rfl (Nat.le_of_ble_eq_true rfl) dL_first_109 (fun H locs h => ?_)
                refine lv_as (y := nI j) ((la_at w4 (by omega)).trans el) ?_
                refine lv_bipush (v := (-5)) hx hb dL_first_112 (by decide) ?_
                refine lv_icmp_ne (tgt := 121) hx hb dL_first_114 (by decide) (fun c_114 => ?_) (fun c_114 => absurd c_114 (nI_n5 (by omega)))
                refine lv_iconst (v := nI 0) hx hb dL_first_121 (by decide) ?_
                refine lv_icmp_ne (tgt := 140) hx hb dL_first_122 (by decide) (fun c_122 => absurd (by decide) c_122) (fun c_122 => ?_)
                refine lv_aload_n hx hb dL_first_125 rfl (lv_at hl 0 rfl) ?_
                refine lv_iload hx hb dL_first_126 (lv_at hl 4 rfl) ?_
                refine rg_civd (As := [.int (nI i_67)]) (rest := []) X hl.1 h (c_X7_lacks l J z ad G2 r hR (nI i_67)) mw_449 mw_450 mw_451 mw_2 mw_452 pdX7_lacks (by decide) (xo_0 J ad _) rfl rfl ⟨Nat.le_of_ble_eq_true rfl, Nat.le_of_ble_eq_true rfl⟩ ⟨Nat.le_of_ble_eq_true rfl, Nat.le_of_ble_eq_true rfl⟩ rfl (Nat.le_of_ble_eq_true rfl) dL_first_128 (fun H locs h => ?_)
                refine lv_as (y := nI j) ((la_at w4 (by omega)).trans el) ?_
                refine lv_bipush (v := nI 120) hx hb dL_first_131 (by decide) ?_
                refine lv_icmp_gt (tgt := 140) hx hb dL_first_133 (by decide) (fun c_133 => absurd c_133 (fun q => by have := (nI_ltI (by omega) (by omega)).mp q; omega)) (fun c_133 => ?_)
                refine lv_iconst (v := nI 1) hx hb dL_first_136 (by decide) ?_
                refine lv_goto (tgt := 141) hx hb dL_first_137 (by decide) ?_
                refine lv_istore (lv' := [(4, .int (nI 1)), (0, .ref (ad 0)), (1, .int (nI ((sg r 0)))), (2, .long (PR r)), (5, .int (nI i_67))]) hx hb dL_first_141 hl (by decide) rfl (fun ls hl => ?_)
                refine lv_iinc (v := nI (i_67 + 1)) (lv' := [(5, .int (nI (i_67 + 1))), (4, .int (nI 1)), (0, .ref (ad 0)), (1, .int (nI ((sg r 0)))), (2, .long (PR r))]) hx hb dL_first_143 hl (k := 4) rfl (nI_addc (b := 1) (by omega)) (by decide) rfl (fun ls hl => ?_)
                refine lv_goto (tgt := 67) hx hb dL_first_146 (by decide) ?_
                exact ih_67 (i_67 + 1) (by omega) (by omega) _ _ _ h (lv_sub hl [2, 3, 4, 1, 0] rfl)
              · rw [nz_eq (by omega)] at c_89
                refine lv_iconst (v := nI 1) hx hb dL_first_92 (by decide) ?_
                refine lv_goto (tgt := 97) hx hb dL_first_93 (by decide) ?_
                refine lv_aload_n hx hb dL_first_97 rfl (lv_at hl 0 rfl) ?_
                refine lv_iload hx hb dL_first_98 (lv_at hl 4 rfl) ?_
                refine rg_civd (As := [.int (nI i_67)]) (rest := [.int (nI 1)]) X hl.1 h (c_X7_lacks l J z ad G2 r hR (nI i_67)) mw_449 mw_450 mw_451 mw_2 mw_452 pdX7_lacks (by decide) (xo_0 J ad _) rfl rfl ⟨Nat.le_of_ble_eq_true rfl, Nat.le_of_ble_eq_true rfl⟩ ⟨Nat.le_of_ble_eq_true rfl, Nat.le_of_ble_eq_true rfl⟩ rfl (Nat.le_of_ble_eq_true rfl) dL_first_100 (fun H locs h => ?_)
                refine lv_as (y := nI j) ((la_at w4 (by omega)).trans el) ?_
                refine lv_if_gt (tgt := 117) hx hb dL_first_103 (by decide) (fun c_103 => ?_) (fun c_103 => absurd ((nz_gt (by omega)).mpr (by omega)) c_103)
                refine lv_iconst (v := nI 1) hx hb dL_first_117 (by decide) ?_
                refine lv_goto (tgt := 122) hx hb dL_first_118 (by decide) ?_
                refine lv_icmp_ne (tgt := 140) hx hb dL_first_122 (by decide) (fun c_122 => absurd (by decide) c_122) (fun c_122 => ?_)
                refine lv_aload_n hx hb dL_first_125 rfl (lv_at hl 0 rfl) ?_
                refine lv_iload hx hb dL_first_126 (lv_at hl 4 rfl) ?_
                refine rg_civd (As := [.int (nI i_67)]) (rest := []) X hl.1 h (c_X7_lacks l J z ad G2 r hR (nI i_67)) mw_449 mw_450 mw_451 mw_2 mw_452 pdX7_lacks (by decide) (xo_0 J ad _) rfl rfl ⟨Nat.le_of_ble_eq_true rfl, Nat.le_of_ble_eq_true rfl⟩ ⟨Nat.le_of_ble_eq_true rfl, Nat.le_of_ble_eq_true rfl⟩ rfl (Nat.le_of_ble_eq_true rfl) dL_first_128 (fun H locs h => ?_)
                refine lv_as (y := nI j) ((la_at w4 (by omega)).trans el) ?_
                refine lv_bipush (v := nI 120) hx hb dL_first_131 (by decide) ?_
                refine lv_icmp_gt (tgt := 140) hx hb dL_first_133 (by decide) (fun c_133 => absurd c_133 (fun q => by have := (nI_ltI (by omega) (by omega)).mp q; omega)) (fun c_133 => ?_)
                refine lv_iconst (v := nI 1) hx hb dL_first_136 (by decide) ?_
                refine lv_goto (tgt := 141) hx hb dL_first_137 (by decide) ?_
                refine lv_istore (lv' := [(4, .int (nI 1)), (0, .ref (ad 0)), (1, .int (nI ((sg r 0)))), (2, .long (PR r)), (5, .int (nI i_67))]) hx hb dL_first_141 hl (by decide) rfl (fun ls hl => ?_)
                refine lv_iinc (v := nI (i_67 + 1)) (lv' := [(5, .int (nI (i_67 + 1))), (4, .int (nI 1)), (0, .ref (ad 0)), (1, .int (nI ((sg r 0)))), (2, .long (PR r))]) hx hb dL_first_143 hl (k := 4) rfl (nI_addc (b := 1) (by omega)) (by decide) rfl (fun ls hl => ?_)
                refine lv_goto (tgt := 67) hx hb dL_first_146 (by decide) ?_
                exact ih_67 (i_67 + 1) (by omega) (by omega) _ _ _ h (lv_sub hl [2, 3, 4, 1, 0] rfl)
      exact LP_67 ((mn r) + 1) 0 (by omega) (by omega) _ _ _ h (lv_sub hl [4, 3, 2, 1, 0] rfl)
    · have hcase := vf
      refine lv_aload_n hx hb dL_first_28 rfl (lv_at hl 2 rfl) ?_
      refine lv_iload_n hx hb dL_first_29 rfl (lv_at hl 1 rfl) ?_
      refine rg_civ (As := [.int (nI ((sg r 0)))]) (rest := []) X hl.1 h (c_X7_reason l J z ad G r hR (nI ((sg r 0)))) mw_327 mw_328 mw_329 mw_2 mw_330 pdX7_reason (by decide) (xo_0 J ad _) rfl rfl ⟨Nat.le_of_ble_eq_true rfl, Nat.le_of_ble_eq_true rfl⟩ ⟨Nat.le_of_ble_eq_true rfl, Nat.le_of_ble_eq_true rfl⟩ rfl (Nat.le_of_ble_eq_true rfl) dL_first_30 (fun r9 G9 H locs q9 h => ?_)
      obtain ⟨ea_30, tr_30⟩ := q9
      refine lv_as (y := (hearC r).2.2 (sg r 0)) (ea_30.trans (rs_at w4 (by omega))) ?_
      have hv := Hv.tr hv tr_30
      have hR := hv.rep
      have h14 := hv.at
      refine lv_if_ne (tgt := 40) hx hb dL_first_33 (by decide) (fun c_33 => ?_) (fun c_33 => absurd c_33 (vf))
      refine lv_iconst (v := nI 0) hx hb dL_first_40 (by decide) ?_
      refine lv_aload_n hx hb dL_first_41 rfl (lv_at hl 2 rfl) ?_
      refine lv_iload_n hx hb dL_first_42 rfl (lv_at hl 1 rfl) ?_
      refine rg_civd (As := [.int (nI ((sg r 0)))]) (rest := [.int (nI 0)]) X hl.1 h (c_X7_lacks l J z ad G9 r hR (nI ((sg r 0)))) mw_449 mw_450 mw_451 mw_2 mw_452 pdX7_lacks (by decide) (xo_0 J ad _) rfl rfl ⟨Nat.le_of_ble_eq_true rfl, Nat.le_of_ble_eq_true rfl⟩ ⟨Nat.le_of_ble_eq_true rfl, Nat.le_of_ble_eq_true rfl⟩ rfl (Nat.le_of_ble_eq_true rfl) dL_first_43 (fun H locs h => ?_)
      refine lv_as (y := opI (lackO r (sg r 0))) (la_at w4 (by omega)) ?_
      refine lv_if_ne (tgt := 53) hx hb dL_first_46 (by decide) (fun c_46 => ?_) (fun c_46 => absurd c_46 (fun q => vf ((hearC_1st hm0).trans (lack_0.mp q))))
      refine lv_iconst (v := nI 0) hx hb dL_first_53 (by decide) ?_
      refine lv_icmp_ne (tgt := 61) hx hb dL_first_54 (by decide) (fun c_54 => absurd (by decide) c_54) (fun c_54 => ?_)
      refine lv_iconst (v := nI 1) hx hb dL_first_57 (by decide) ?_
      refine lv_goto (tgt := 62) hx hb dL_first_58 (by decide) ?_
      refine lv_istore (lv' := [(4, .int (nI 1)), (2, .long (PR r)), (1, .int (nI ((sg r 0)))), (0, .ref (ad 0))]) hx hb dL_first_62 hl (by decide) rfl (fun ls hl => ?_)
      refine lv_iconst (v := nI 0) hx hb dL_first_64 (by decide) ?_
      refine lv_istore (lv' := [(5, .int (nI 0)), (4, .int (nI 1)), (2, .long (PR r)), (1, .int (nI ((sg r 0)))), (0, .ref (ad 0))]) hx hb dL_first_65 hl (by decide) rfl (fun ls hl => ?_)
      have LP_67 : ∀ (k_67 i_67 : Nat), (mn r) + 1 ≤ i_67 + k_67 → i_67 ≤ (mn r) → ∀ (H : Heap) (locs : List Loc) (ls : Array Slot), HG J z ad s G9 H locs → lv_has ls 7 [(0, .ref (ad 0)), (1, .int (nI ((sg r 0)))), (2, .long (PR r)), (4, .int (nI 1)), (5, .int (nI i_67))] → W pr l e (rmD 6 0 0) s m args below meth c H locs 0 0 Q (F0 m 67 ls []) := by
        intro k_67
        induction k_67 with
        | zero =>
          intro i_67 g1 g2
          exact absurd g1 (by omega)
        | succ k_67 ih_67 =>
          intro i_67 g1_67 g2_67  H locs ls h hl
          refine lv_iload hx hb dL_first_67 (lv_at hl 4 rfl) ?_
          refine lv_aload_n hx hb dL_first_69 rfl (lv_at hl 0 rfl) ?_
          refine lv_bipush (v := nI 6) hx hb dL_first_70 (by decide) ?_
          refine rg_civd (As := [.int (nI 6)]) (rest := [.int (nI i_67)]) X hl.1 h (c_X7_count l J z ad G9 r hR (nI n) (G9 203 1) h14 rfl (nI 6)) mw_103 mw_104 mw_105 mw_2 mw_106 pdX7_count (by decide) (xo_0 J ad _) rfl rfl ⟨Nat.le_of_ble_eq_true rfl, Nat.le_of_ble_eq_true rfl⟩ ⟨Nat.le_of_ble_eq_true rfl, Nat.le_of_ble_eq_true rfl⟩ rfl (Nat.le_of_ble_eq_true rfl) dL_first_72 (fun H locs h => ?_)
          refine lv_as (y := nI ((mn r))) (mn_ct hI.1) ?_
          refine lv_icmp_ge (tgt := 149) hx hb dL_first_75 (by decide) (fun c_75 => ?_) (fun c_75 => ?_)
          · rw [nI_leI (by omega) (by omega)] at c_75
            obtain ⟨v, v1, v2, v3⟩ := supp_nat (q := sg r 0) w2 (w7 _ hF).2.1 hv.w
            refine lv_aload_n hx hb dL_first_149 rfl (lv_at hl 0 rfl) ?_
            refine lv_iload_n hx hb dL_first_150 rfl (lv_at hl 1 rfl) ?_
            refine lv_iconst (v := nI 4) hx hb dL_first_151 (by decide) ?_
            refine rg_civd (As := [.int (nI ((sg r 0))), .int (nI 4)]) (rest := []) X hl.1 h (c_X7_petitionOf l J z ad G9 r hR (nI ((sg r 0))) (nI 4)) mw_220 mw_221 mw_222 mw_2 mw_223 pdX7_petitionOf (by decide) (xo_0 J ad _) rfl rfl ⟨Nat.le_of_ble_eq_true rfl, Nat.le_of_ble_eq_true rfl⟩ ⟨Nat.le_of_ble_eq_true rfl, Nat.le_of_ble_eq_true rfl⟩ rfl (Nat.le_of_ble_eq_true rfl) dL_first_152 (fun H locs h => ?_)
            refine lv_as (y := nI v) ((po_4 w4 hF).trans v3) ?_
            refine lv_istore (lv' := [(5, .int (nI v)), (0, .ref (ad 0)), (1, .int (nI ((sg r 0)))), (2, .long (PR r)), (4, .int (nI 1))]) hx hb dL_first_155 hl (by decide) rfl (fun ls hl => ?_)
            refine lv_iload hx hb dL_first_157 (lv_at hl 4 rfl) ?_
            refine lv_if_eq (tgt := 217) hx hb dL_first_159 (by decide) (fun c_159 => absurd c_159 (by decide)) (fun c_159 => ?_)
            refine lv_iload hx hb dL_first_162 (lv_at hl 0 rfl) ?_
            refine lv_bipush (v := nI 60) hx hb dL_first_164 (by decide) ?_
            refine lv_icmp_ge (tgt := 217) hx hb dL_first_166 (by decide) (fun c_166 => ?_) (fun c_166 => ?_)
            · rw [nI_leI (by omega) (by omega)] at c_166
              refine lv_iload hx hb dL_first_217 (lv_at hl 4 rfl) ?_
              refine lv_if_eq (tgt := 235) hx hb dL_first_219 (by decide) (fun c_219 => absurd c_219 (by decide)) (fun c_219 => ?_)
              refine lv_aload_n hx hb dL_first_222 rfl (lv_at hl 1 rfl) ?_
              refine rg_cisl (As := [.ref (ad 0)]) (rest := []) X hl.1 h (c_L_print l J z ad G9 hz r n B hv hI) mw_257 mw_258 mw_101 mw_259 pdL_print ⟨Nat.le_of_ble_eq_true rfl, Nat.le_of_ble_eq_true rfl⟩ ⟨Nat.le_of_ble_eq_true rfl, Nat.le_of_ble_eq_true rfl⟩ rfl (Nat.le_of_ble_eq_true rfl) dL_first_223 (fun H locs h => ?_)
              refine lv_lload_n hx hb dL_first_226 rfl (lv_at hl 3 rfl) ?_
              refine W.lcmp hx hb dL_first_227 ?_
              refine lv_if_ne (tgt := 235) hx hb dL_first_228 (by decide) (fun c_228 => absurd (lg_self _) c_228) (fun c_228 => ?_)
              refine lv_iconst (v := nI 1) hx hb dL_first_231 (by decide) ?_
              refine lv_goto (tgt := 236) hx hb dL_first_232 (by decide) ?_
              exact hret (nI 1) G9 _ _ 236 _ (⟨rfl, _, hv⟩) h rfl dL_first_236
            · rw [nI_leI (by omega) (by omega)] at c_166
              refine lv_aload_n hx hb dL_first_169 rfl (lv_at hl 1 rfl) ?_
              refine lv_iconst (v := nI 0) hx hb dL_first_170 (by decide) ?_
              refine lv_iload hx hb dL_first_171 (lv_at hl 0 rfl) ?_
              refine lv_iconst (v := nI 1) hx hb dL_first_173 (by decide) ?_
              refine lv_iadd hx hb dL_first_174 ?_
              refine lv_as (y := nI (v + 1)) (nI_addc (by omega)) ?_
              refine rg_civ (As := [.int (nI 0), .int (nI (v + 1))]) (rest := []) X hl.1 h (k_X7_set l J z ad G9 n hv.2.1 hv.2.2.1 hv.1 r hv.2.2.2.2 (nI 0) (nI (v + 1))) mw_438 mw_439 mw_440 mw_2 mw_441 pdX7_set (by decide) (xo_0 J ad _) rfl rfl ⟨Nat.le_of_ble_eq_true rfl, Nat.le_of_ble_eq_true rfl⟩ ⟨Nat.le_of_ble_eq_true rfl, Nat.le_of_ble_eq_true rfl⟩ rfl (Nat.le_of_ble_eq_true rfl) dL_first_175 (fun r10 G10 H locs q10 h => ?_)
              obtain ⟨ea_175, G10_, hp_175, hv_175, ht_175, har_175⟩ := Hv_act hv ((stR_hi hI.1.1 (nI 0) (nI (v + 1))).cn hv.2.2.2.1) q10
              have h := HG.ph h hz hp_175
              refine lv_as (y := stA r (nI 0) (nI (v + 1))) ea_175 ?_
              have hy := st_row (r := r) (v := v + 1) (by omega)
              have ha := st_ans (r := r) (v := v + 1) (by omega)
              obtain ⟨me, mv⟩ := mood_all hI.1 hv.w v3 (by omega) hy
              obtain ⟨mm, LL, ⟨mm1, mm2⟩, -⟩ := hI.2.2.2.1
              rcases Classical.em (r 0 = nI (v + 1)) with c0 | c0
              · rw [if_pos c0] at ha
                have hyr := hy.trans (upd_sf c0)
                rw [ha] at hv_175
                rw [hyr] at hv_175 me mv
                refine lv_as (y := (-5)) ha ?_
                have hv1 := hv_175
                rw [nx_neg (by decide)] at hv1
                have hR1 := hv1.rep
                have h141 := hv1.at
                have w4y : mn r ≤ 12 := w4
                have w2y := w2
                have peI := hI
                refine lv_istore (lv' := [(6, .int ((-5))), (5, .int (nI v)), (0, .ref (ad 0)), (1, .int (nI ((sg r 0)))), (2, .long (PR r)), (4, .int (nI 1))]) hx hb dL_first_178 hl (by decide) rfl (fun ls hl => ?_)
                refine lv_aload_n hx hb dL_first_180 rfl (lv_at hl 2 rfl) ?_
                refine rg_civ (As := []) (rest := []) X hl.1 h (c_X7_wouldPass l J z ad G10_ r hR1 ) mw_262 mw_263 mw_264 mw_2 mw_265 pdX7_wouldPass (by decide) (xo_0 J ad _) rfl rfl ⟨Nat.le_of_ble_eq_true rfl, Nat.le_of_ble_eq_true rfl⟩ ⟨Nat.le_of_ble_eq_true rfl, Nat.le_of_ble_eq_true rfl⟩ rfl (Nat.le_of_ble_eq_true rfl) dL_first_181 (fun r11 G11 H locs q11 h => ?_)
                obtain ⟨ea_181, tr_181⟩ := q11
                refine lv_as (y := nI 0) (ea_181.trans (wp_no me mv)) ?_
                have hv1 := Hv.tr hv1 tr_181
                have hR1 := hv1.rep
                have h141 := hv1.at
                refine lv_if_ne (tgt := 214) hx hb dL_first_184 (by decide) (fun c_184 => absurd (by decide) c_184) (fun c_184 => ?_)
                refine lv_aload_n hx hb dL_first_187 rfl (lv_at hl 2 rfl) ?_
                refine lv_iload_n hx hb dL_first_188 rfl (lv_at hl 3 rfl) ?_
                refine rg_civ (As := [.int (nI ((sg r 0)))]) (rest := []) X hl.1 h (c_X7_reason l J z ad G11 r hR1 (nI ((sg r 0)))) mw_327 mw_328 mw_329 mw_2 mw_330 pdX7_reason (by decide) (xo_0 J ad _) rfl rfl ⟨Nat.le_of_ble_eq_true rfl, Nat.le_of_ble_eq_true rfl⟩ ⟨Nat.le_of_ble_eq_true rfl, Nat.le_of_ble_eq_true rfl⟩ rfl (Nat.le_of_ble_eq_true rfl) dL_first_189 (fun r12 G12 H locs q12 h => ?_)
                obtain ⟨ea_189, tr_189⟩ := q12
                refine lv_as (y := nI 1) (ea_189.trans ((rs_at w4y (by omega)).trans (mv _ hF))) ?_
                have hv1 := Hv.tr hv1 tr_189
                have hR1 := hv1.rep
                have h141 := hv1.at
                refine lv_iconst (v := nI 1) hx hb dL_first_192 (by decide) ?_
                refine lv_icmp_ne (tgt := 214) hx hb dL_first_193 (by decide) (fun c_193 => absurd (by decide) c_193) (fun c_193 => ?_)
                refine lv_iload hx hb dL_first_196 (lv_at hl 0 rfl) ?_
                refine lv_bipush (v := (-5)) hx hb dL_first_198 (by decide) ?_
                refine lv_icmp_eq (tgt := 210) hx hb dL_first_200 (by decide) (fun c_200 => ?_) (fun c_200 => absurd (by decide) c_200)
                refine lv_iconst (v := nI 1) hx hb dL_first_210 (by decide) ?_
                refine lv_goto (tgt := 215) hx hb dL_first_211 (by decide) ?_
                refine lv_istore (lv' := [(4, .int (nI 1)), (6, .int ((-5))), (5, .int (nI v)), (0, .ref (ad 0)), (1, .int (nI ((sg r 0)))), (2, .long (PR r))]) hx hb dL_first_215 hl (by decide) rfl (fun ls hl => ?_)
                have hv := hv1
                refine lv_iload hx hb dL_first_217 (lv_at hl 0 rfl) ?_
                refine lv_if_eq (tgt := 235) hx hb dL_first_219 (by decide) (fun c_219 => absurd c_219 (by decide)) (fun c_219 => ?_)
                refine lv_aload_n hx hb dL_first_222 rfl (lv_at hl 3 rfl) ?_
                refine rg_cisl (As := [.ref (ad 0)]) (rest := []) X hl.1 h (c_L_print l J z ad G12 hz r n B hv hI) mw_257 mw_258 mw_101 mw_259 pdL_print ⟨Nat.le_of_ble_eq_true rfl, Nat.le_of_ble_eq_true rfl⟩ ⟨Nat.le_of_ble_eq_true rfl, Nat.le_of_ble_eq_true rfl⟩ rfl (Nat.le_of_ble_eq_true rfl) dL_first_223 (fun H locs h => ?_)
                refine lv_lload_n hx hb dL_first_226 rfl (lv_at hl 5 rfl) ?_
                refine W.lcmp hx hb dL_first_227 ?_
                refine lv_if_ne (tgt := 235) hx hb dL_first_228 (by decide) (fun c_228 => absurd (lg_self _) c_228) (fun c_228 => ?_)
                refine lv_iconst (v := nI 1) hx hb dL_first_231 (by decide) ?_
                refine lv_goto (tgt := 236) hx hb dL_first_232 (by decide) ?_
                exact hret (nI 1) G12 _ _ 236 _ (⟨rfl, _, hv⟩) h rfl dL_first_236
              · rw [if_neg c0, mm1] at ha
                have hA0 : 0 ≤ stA r (nI 0) (nI (v + 1)) := by rw [ha]; exact nI_pos' (by omega)
                rw [nx_pos hA0] at hv_175 ht_175
                have htp := ht_175 hA0
                refine lv_as (y := nI mm) ha ?_
                have hv1 := hv_175
                have hR1 := hv1.rep
                have h141 := hv1.at
                have peI := stR_Iv hI (nI 0) (nI (v + 1))
                have w4y := peI.1.1.2.1.2
                have w2y := peI.1.1.1.2
                refine lv_istore (lv' := [(6, .int (nI mm)), (5, .int (nI v)), (0, .ref (ad 0)), (1, .int (nI ((sg r 0)))), (2, .long (PR r)), (4, .int (nI 1))]) hx hb dL_first_178 hl (by decide) rfl (fun ls hl => ?_)
                refine lv_aload_n hx hb dL_first_180 rfl (lv_at hl 2 rfl) ?_
                refine rg_civ (As := []) (rest := []) X hl.1 h (c_X7_wouldPass l J z ad G10_ (stR r (nI 0) (nI (v + 1))) hR1 ) mw_262 mw_263 mw_264 mw_2 mw_265 pdX7_wouldPass (by decide) (xo_0 J ad _) rfl rfl ⟨Nat.le_of_ble_eq_true rfl, Nat.le_of_ble_eq_true rfl⟩ ⟨Nat.le_of_ble_eq_true rfl, Nat.le_of_ble_eq_true rfl⟩ rfl (Nat.le_of_ble_eq_true rfl) dL_first_181 (fun r13 G13 H locs q13 h => ?_)
                obtain ⟨ea_181, tr_181⟩ := q13
                refine lv_as (y := nI 0) (ea_181.trans (wp_no me mv)) ?_
                have htp := Tp.tr htp tr_181
                have hv1 := Hv.tr hv1 tr_181
                have hR1 := hv1.rep
                have h141 := hv1.at
                refine lv_if_ne (tgt := 214) hx hb dL_first_184 (by decide) (fun c_184 => absurd (by decide) c_184) (fun c_184 => ?_)
                refine lv_aload_n hx hb dL_first_187 rfl (lv_at hl 2 rfl) ?_
                refine lv_iload_n hx hb dL_first_188 rfl (lv_at hl 3 rfl) ?_
                refine rg_civ (As := [.int (nI ((sg r 0)))]) (rest := []) X hl.1 h (c_X7_reason l J z ad G13 (stR r (nI 0) (nI (v + 1))) hR1 (nI ((sg r 0)))) mw_327 mw_328 mw_329 mw_2 mw_330 pdX7_reason (by decide) (xo_0 J ad _) rfl rfl ⟨Nat.le_of_ble_eq_true rfl, Nat.le_of_ble_eq_true rfl⟩ ⟨Nat.le_of_ble_eq_true rfl, Nat.le_of_ble_eq_true rfl⟩ rfl (Nat.le_of_ble_eq_true rfl) dL_first_189 (fun r14 G14 H locs q14 h => ?_)
                obtain ⟨ea_189, tr_189⟩ := q14
                refine lv_as (y := nI 1) (ea_189.trans ((rs_at w4y (by omega)).trans (mv _ hF))) ?_
                have htp := Tp.tr htp tr_189
                have hv1 := Hv.tr hv1 tr_189
                have hR1 := hv1.rep
                have h141 := hv1.at
                refine lv_iconst (v := nI 1) hx hb dL_first_192 (by decide) ?_
                refine lv_icmp_ne (tgt := 214) hx hb dL_first_193 (by decide) (fun c_193 => absurd (by decide) c_193) (fun c_193 => ?_)
                refine lv_iload hx hb dL_first_196 (lv_at hl 0 rfl) ?_
                refine lv_bipush (v := (-5)) hx hb dL_first_198 (by decide) ?_
                refine lv_icmp_eq (tgt := 210) hx hb dL_first_200 (by decide) (fun c_200 => absurd c_200 (nI_n5 (by omega))) (fun c_200 => ?_)
                refine lv_aload_n hx hb dL_first_203 rfl (lv_at hl 2 rfl) ?_
                refine rg_civ (As := []) (rest := []) X hl.1 h (c_X7_undo l J z ad G14 (if n = 4 then 4 else n + 1) hv1.2.1 hv1.2.2.1 hv1.1) mw_368 mw_369 mw_370 mw_2 mw_371 pdX7_undo (by decide) (xo_0 J ad _) rfl rfl ⟨Nat.le_of_ble_eq_true rfl, Nat.le_of_ble_eq_true rfl⟩ ⟨Nat.le_of_ble_eq_true rfl, Nat.le_of_ble_eq_true rfl⟩ rfl (Nat.le_of_ble_eq_true rfl) dL_first_204 (fun r15 G15 H locs q15 h => ?_)
                obtain ⟨ea_204, G15_, hp_204, hv_204, har_204⟩ := Hv_undo hv1 htp q15
                have h := HG.ph h hz hp_204
                refine lv_as (y := nI (if n = 4 then 3 else n)) (ea_204.trans (congrArg nI (by split <;> omega))) ?_
                have hv := hv_204
                rw [show (if n = 4 then 4 else n + 1) - 1 = (if n = 4 then 3 else n) by split <;> omega] at hv
                have hR := hv.rep
                have h14 := hv.at
                refine lv_if_lt (tgt := 214) hx hb dL_first_207 (by decide) (fun c_207 => absurd c_207 (nI_nn (by split <;> omega))) (fun c_207 => ?_)
                refine lv_iconst (v := nI 1) hx hb dL_first_210 (by decide) ?_
                refine lv_goto (tgt := 215) hx hb dL_first_211 (by decide) ?_
                refine lv_istore (lv' := [(4, .int (nI 1)), (6, .int (nI mm)), (5, .int (nI v)), (0, .ref (ad 0)), (1, .int (nI ((sg r 0)))), (2, .long (PR r))]) hx hb dL_first_215 hl (by decide) rfl (fun ls hl => ?_)
                refine lv_iload hx hb dL_first_217 (lv_at hl 0 rfl) ?_
                refine lv_if_eq (tgt := 235) hx hb dL_first_219 (by decide) (fun c_219 => absurd c_219 (by decide)) (fun c_219 => ?_)
                refine lv_aload_n hx hb dL_first_222 rfl (lv_at hl 3 rfl) ?_
                refine rg_cisl (As := [.ref (ad 0)]) (rest := []) X hl.1 h (c_L_print l J z ad G15_ hz r (if n = 4 then 3 else n) B hv hI) mw_257 mw_258 mw_101 mw_259 pdL_print ⟨Nat.le_of_ble_eq_true rfl, Nat.le_of_ble_eq_true rfl⟩ ⟨Nat.le_of_ble_eq_true rfl, Nat.le_of_ble_eq_true rfl⟩ rfl (Nat.le_of_ble_eq_true rfl) dL_first_223 (fun H locs h => ?_)
                refine lv_lload_n hx hb dL_first_226 rfl (lv_at hl 5 rfl) ?_
                refine W.lcmp hx hb dL_first_227 ?_
                refine lv_if_ne (tgt := 235) hx hb dL_first_228 (by decide) (fun c_228 => absurd (lg_self _) c_228) (fun c_228 => ?_)
                refine lv_iconst (v := nI 1) hx hb dL_first_231 (by decide) ?_
                refine lv_goto (tgt := 236) hx hb dL_first_232 (by decide) ?_
                exact hret (nI 1) G15_ _ _ 236 _ (⟨rfl, _, hv⟩) h rfl dL_first_236
          · rw [nI_leI (by omega) (by omega)] at c_75
            refine lv_iload hx hb dL_first_78 (lv_at hl 3 rfl) ?_
            refine lv_if_eq (tgt := 140) hx hb dL_first_80 (by decide) (fun c_80 => absurd c_80 (by decide)) (fun c_80 => ?_)
            rcases lack_c r i_67 with el | ⟨j, j1, el⟩
            · have hcase := el
              refine lv_aload_n hx hb dL_first_83 rfl (lv_at hl 0 rfl) ?_
              refine lv_iload hx hb dL_first_84 (lv_at hl 4 rfl) ?_
              refine rg_civd (As := [.int (nI i_67)]) (rest := []) X hl.1 h (c_X7_lacks l J z ad G9 r hR (nI i_67)) mw_449 mw_450 mw_451 mw_2 mw_452 pdX7_lacks (by decide) (xo_0 J ad _) rfl rfl ⟨Nat.le_of_ble_eq_true rfl, Nat.le_of_ble_eq_true rfl⟩ ⟨Nat.le_of_ble_eq_true rfl, Nat.le_of_ble_eq_true rfl⟩ rfl (Nat.le_of_ble_eq_true rfl) dL_first_86 (fun H locs h => ?_)
              refine lv_as (y := (-5)) ((la_at w4 (by omega)).trans el) ?_
              refine lv_if_eq (tgt := 96) hx hb dL_first_89 (by decide) (fun c_89 => absurd c_89 (by decide)) (fun c_89 => ?_)
              refine lv_iconst (v := nI 1) hx hb dL_first_92 (by decide) ?_
              refine lv_goto (tgt := 97) hx hb dL_first_93 (by decide) ?_
              refine lv_aload_n hx hb dL_first_97 rfl (lv_at hl 0 rfl) ?_
              refine lv_iload hx hb dL_first_98 (lv_at hl 4 rfl) ?_
              refine rg_civd (As := [.int (nI i_67)]) (rest := [.int (nI 1)]) X hl.1 h (c_X7_lacks l J z ad G9 r hR (nI i_67)) mw_449 mw_450 mw_451 mw_2 mw_452 pdX7_lacks (by decide) (xo_0 J ad _) rfl rfl ⟨Nat.le_of_ble_eq_true rfl, Nat.le_of_ble_eq_true rfl⟩ ⟨Nat.le_of_ble_eq_true rfl, Nat.le_of_ble_eq_true rfl⟩ rfl (Nat.le_of_ble_eq_true rfl) dL_first_100 (fun H locs h => ?_)
              refine lv_as (y := (-5)) ((la_at w4 (by omega)).trans el) ?_
              refine lv_if_gt (tgt := 117) hx hb dL_first_103 (by decide) (fun c_103 => absurd c_103 (by decide)) (fun c_103 => ?_)
              refine lv_aload_n hx hb dL_first_106 rfl (lv_at hl 0 rfl) ?_
              refine lv_iload hx hb dL_first_107 (lv_at hl 4 rfl) ?_
              refine rg_civd (As := [.int (nI i_67)]) (rest := [.int (nI 1)]) X hl.1 h (c_X7_lacks l J z ad G9 r hR (nI i_67)) mw_449 mw_450 mw_451 mw_2 mw_452 pdX7_lacks (by decide) (xo_0 J ad _) rfl rfl ⟨Nat.le_of_ble_eq_true rfl, Nat.le_of_ble_eq_true rfl⟩ ⟨Nat.le_of_ble_eq_true rfl, Nat.le_of_ble_eq_true rfl⟩ rfl (Nat.le_of_ble_eq_true rfl) dL_first_109 (fun H locs h => ?_)
              refine lv_as (y := (-5)) ((la_at w4 (by omega)).trans el) ?_
              refine lv_bipush (v := (-5)) hx hb dL_first_112 (by decide) ?_
              refine lv_icmp_ne (tgt := 121) hx hb dL_first_114 (by decide) (fun c_114 => absurd (by decide) c_114) (fun c_114 => ?_)
              refine lv_iconst (v := nI 1) hx hb dL_first_117 (by decide) ?_
              refine lv_goto (tgt := 122) hx hb dL_first_118 (by decide) ?_
              refine lv_icmp_ne (tgt := 140) hx hb dL_first_122 (by decide) (fun c_122 => absurd (by decide) c_122) (fun c_122 => ?_)
              refine lv_aload_n hx hb dL_first_125 rfl (lv_at hl 0 rfl) ?_
              refine lv_iload hx hb dL_first_126 (lv_at hl 4 rfl) ?_
              refine rg_civd (As := [.int (nI i_67)]) (rest := []) X hl.1 h (c_X7_lacks l J z ad G9 r hR (nI i_67)) mw_449 mw_450 mw_451 mw_2 mw_452 pdX7_lacks (by decide) (xo_0 J ad _) rfl rfl ⟨Nat.le_of_ble_eq_true rfl, Nat.le_of_ble_eq_true rfl⟩ ⟨Nat.le_of_ble_eq_true rfl, Nat.le_of_ble_eq_true rfl⟩ rfl (Nat.le_of_ble_eq_true rfl) dL_first_128 (fun H locs h => ?_)
              refine lv_as (y := (-5)) ((la_at w4 (by omega)).trans el) ?_
              refine lv_bipush (v := nI 120) hx hb dL_first_131 (by decide) ?_
              refine lv_icmp_gt (tgt := 140) hx hb dL_first_133 (by decide) (fun c_133 => absurd c_133 (by decide)) (fun c_133 => ?_)
              refine lv_iconst (v := nI 1) hx hb dL_first_136 (by decide) ?_
              refine lv_goto (tgt := 141) hx hb dL_first_137 (by decide) ?_
              refine lv_istore (lv' := [(4, .int (nI 1)), (0, .ref (ad 0)), (1, .int (nI ((sg r 0)))), (2, .long (PR r)), (5, .int (nI i_67))]) hx hb dL_first_141 hl (by decide) rfl (fun ls hl => ?_)
              refine lv_iinc (v := nI (i_67 + 1)) (lv' := [(5, .int (nI (i_67 + 1))), (4, .int (nI 1)), (0, .ref (ad 0)), (1, .int (nI ((sg r 0)))), (2, .long (PR r))]) hx hb dL_first_143 hl (k := 4) rfl (nI_addc (b := 1) (by omega)) (by decide) rfl (fun ls hl => ?_)
              refine lv_goto (tgt := 67) hx hb dL_first_146 (by decide) ?_
              exact ih_67 (i_67 + 1) (by omega) (by omega) _ _ _ h (lv_sub hl [2, 3, 4, 1, 0] rfl)
            · have hcase := el
              refine lv_aload_n hx hb dL_first_83 rfl (lv_at hl 0 rfl) ?_
              refine lv_iload hx hb dL_first_84 (lv_at hl 4 rfl) ?_
              refine rg_civd (As := [.int (nI i_67)]) (rest := []) X hl.1 h (c_X7_lacks l J z ad G9 r hR (nI i_67)) mw_449 mw_450 mw_451 mw_2 mw_452 pdX7_lacks (by decide) (xo_0 J ad _) rfl rfl ⟨Nat.le_of_ble_eq_true rfl, Nat.le_of_ble_eq_true rfl⟩ ⟨Nat.le_of_ble_eq_true rfl, Nat.le_of_ble_eq_true rfl⟩ rfl (Nat.le_of_ble_eq_true rfl) dL_first_86 (fun H locs h => ?_)
              refine lv_as (y := nI j) ((la_at w4 (by omega)).trans el) ?_
              refine lv_if_eq (tgt := 96) hx hb dL_first_89 (by decide) (fun c_89 => ?_) (fun c_89 => ?_)
              · rw [nz_eq (by omega)] at c_89
                refine lv_iconst (v := nI 0) hx hb dL_first_96 (by decide) ?_
                refine lv_aload_n hx hb dL_first_97 rfl (lv_at hl 0 rfl) ?_
                refine lv_iload hx hb dL_first_98 (lv_at hl 4 rfl) ?_
                refine rg_civd (As := [.int (nI i_67)]) (rest := [.int (nI 0)]) X hl.1 h (c_X7_lacks l J z ad G9 r hR (nI i_67)) mw_449 mw_450 mw_451 mw_2 mw_452 pdX7_lacks (by decide) (xo_0 J ad _) rfl rfl ⟨Nat.le_of_ble_eq_true rfl, Nat.le_of_ble_eq_true rfl⟩ ⟨Nat.le_of_ble_eq_true rfl, Nat.le_of_ble_eq_true rfl⟩ rfl (Nat.le_of_ble_eq_true rfl) dL_first_100 (fun H locs h => ?_)
                refine lv_as (y := nI j) ((la_at w4 (by omega)).trans el) ?_
                refine lv_if_gt (tgt := 117) hx hb dL_first_103 (by decide) (fun c_103 => absurd c_103 (fun q => by have := (nz_gt (by omega)).mp q; omega)) (fun c_103 => ?_)
                refine lv_aload_n hx hb dL_first_106 rfl (lv_at hl 0 rfl) ?_
                refine lv_iload hx hb dL_first_107 (lv_at hl 4 rfl) ?_
                refine rg_civd (As := [.int (nI i_67)]) (rest := [.int (nI 0)]) X hl.1 h (c_X7_lacks l J z ad G9 r hR (nI i_67)) mw_449 mw_450 mw_451 mw_2 mw_452 pdX7_lacks (by decide) (xo_0 J ad _) rfl rfl ⟨Nat.le_of_ble_eq_true rfl, Nat.le_of_ble_eq_true rfl⟩ ⟨Nat.le_of_ble_eq_true rfl, Nat.le_of_ble_eq_true rfl⟩ rfl (Nat.le_of_ble_eq_true rfl) dL_first_109 (fun H locs h => ?_)
                refine lv_as (y := nI j) ((la_at w4 (by omega)).trans el) ?_
                refine lv_bipush (v := (-5)) hx hb dL_first_112 (by decide) ?_
                refine lv_icmp_ne (tgt := 121) hx hb dL_first_114 (by decide) (fun c_114 => ?_) (fun c_114 => absurd c_114 (nI_n5 (by omega)))
                refine lv_iconst (v := nI 0) hx hb dL_first_121 (by decide) ?_
                refine lv_icmp_ne (tgt := 140) hx hb dL_first_122 (by decide) (fun c_122 => absurd (by decide) c_122) (fun c_122 => ?_)
                refine lv_aload_n hx hb dL_first_125 rfl (lv_at hl 0 rfl) ?_
                refine lv_iload hx hb dL_first_126 (lv_at hl 4 rfl) ?_
                refine rg_civd (As := [.int (nI i_67)]) (rest := []) X hl.1 h (c_X7_lacks l J z ad G9 r hR (nI i_67)) mw_449 mw_450 mw_451 mw_2 mw_452 pdX7_lacks (by decide) (xo_0 J ad _) rfl rfl ⟨Nat.le_of_ble_eq_true rfl, Nat.le_of_ble_eq_true rfl⟩ ⟨Nat.le_of_ble_eq_true rfl, Nat.le_of_ble_eq_true rfl⟩ rfl (Nat.le_of_ble_eq_true rfl) dL_first_128 (fun H locs h => ?_)
                refine lv_as (y := nI j) ((la_at w4 (by omega)).trans el) ?_
                refine lv_bipush (v := nI 120) hx hb dL_first_131 (by decide) ?_
                refine lv_icmp_gt (tgt := 140) hx hb dL_first_133 (by decide) (fun c_133 => absurd c_133 (fun q => by have := (nI_ltI (by omega) (by omega)).mp q; omega)) (fun c_133 => ?_)
                refine lv_iconst (v := nI 1) hx hb dL_first_136 (by decide) ?_
                refine lv_goto (tgt := 141) hx hb dL_first_137 (by decide) ?_
                refine lv_istore (lv' := [(4, .int (nI 1)), (0, .ref (ad 0)), (1, .int (nI ((sg r 0)))), (2, .long (PR r)), (5, .int (nI i_67))]) hx hb dL_first_141 hl (by decide) rfl (fun ls hl => ?_)
                refine lv_iinc (v := nI (i_67 + 1)) (lv' := [(5, .int (nI (i_67 + 1))), (4, .int (nI 1)), (0, .ref (ad 0)), (1, .int (nI ((sg r 0)))), (2, .long (PR r))]) hx hb dL_first_143 hl (k := 4) rfl (nI_addc (b := 1) (by omega)) (by decide) rfl (fun ls hl => ?_)
                refine lv_goto (tgt := 67) hx hb dL_first_146 (by decide) ?_
                exact ih_67 (i_67 + 1) (by omega) (by omega) _ _ _ h (lv_sub hl [2, 3, 4, 1, 0] rfl)
              · rw [nz_eq (by omega)] at c_89
                refine lv_iconst (v := nI 1) hx hb dL_first_92 (by decide) ?_
                refine lv_goto (tgt := 97) hx hb dL_first_93 (by decide) ?_
                refine lv_aload_n hx hb dL_first_97 rfl (lv_at hl 0 rfl) ?_
                refine lv_iload hx hb dL_first_98 (lv_at hl 4 rfl) ?_
                refine rg_civd (As := [.int (nI i_67)]) (rest := [.int (nI 1)]) X hl.1 h (c_X7_lacks l J z ad G9 r hR (nI i_67)) mw_449 mw_450 mw_451 mw_2 mw_452 pdX7_lacks (by decide) (xo_0 J ad _) rfl rfl ⟨Nat.le_of_ble_eq_true rfl, Nat.le_of_ble_eq_true rfl⟩ ⟨Nat.le_of_ble_eq_true rfl, Nat.le_of_ble_eq_true rfl⟩ rfl (Nat.le_of_ble_eq_true rfl) dL_first_100 (fun H locs h => ?_)
                refine lv_as (y := nI j) ((la_at w4 (by omega)).trans el) ?_
                refine lv_if_gt (tgt := 117) hx hb dL_first_103 (by decide) (fun c_103 => ?_) (fun c_103 => absurd ((nz_gt (by omega)).mpr (by omega)) c_103)
                refine lv_iconst (v := nI 1) hx hb dL_first_117 (by decide) ?_
                refine lv_goto (tgt := 122) hx hb dL_first_118 (by decide) ?_
                refine lv_icmp_ne (tgt := 140) hx hb dL_first_122 (by decide) (fun c_122 => absurd (by decide) c_122) (fun c_122 => ?_)
                refine lv_aload_n hx hb dL_first_125 rfl (lv_at hl 0 rfl) ?_
                refine lv_iload hx hb dL_first_126 (lv_at hl 4 rfl) ?_
                refine rg_civd (As := [.int (nI i_67)]) (rest := []) X hl.1 h (c_X7_lacks l J z ad G9 r hR (nI i_67)) mw_449 mw_450 mw_451 mw_2 mw_452 pdX7_lacks (by decide) (xo_0 J ad _) rfl rfl ⟨Nat.le_of_ble_eq_true rfl, Nat.le_of_ble_eq_true rfl⟩ ⟨Nat.le_of_ble_eq_true rfl, Nat.le_of_ble_eq_true rfl⟩ rfl (Nat.le_of_ble_eq_true rfl) dL_first_128 (fun H locs h => ?_)
                refine lv_as (y := nI j) ((la_at w4 (by omega)).trans el) ?_
                refine lv_bipush (v := nI 120) hx hb dL_first_131 (by decide) ?_
                refine lv_icmp_gt (tgt := 140) hx hb dL_first_133 (by decide) (fun c_133 => absurd c_133 (fun q => by have := (nI_ltI (by omega) (by omega)).mp q; omega)) (fun c_133 => ?_)
                refine lv_iconst (v := nI 1) hx hb dL_first_136 (by decide) ?_
                refine lv_goto (tgt := 141) hx hb dL_first_137 (by decide) ?_
                refine lv_istore (lv' := [(4, .int (nI 1)), (0, .ref (ad 0)), (1, .int (nI ((sg r 0)))), (2, .long (PR r)), (5, .int (nI i_67))]) hx hb dL_first_141 hl (by decide) rfl (fun ls hl => ?_)
                refine lv_iinc (v := nI (i_67 + 1)) (lv' := [(5, .int (nI (i_67 + 1))), (4, .int (nI 1)), (0, .ref (ad 0)), (1, .int (nI ((sg r 0)))), (2, .long (PR r))]) hx hb dL_first_143 hl (k := 4) rfl (nI_addc (b := 1) (by omega)) (by decide) rfl (fun ls hl => ?_)
                refine lv_goto (tgt := 67) hx hb dL_first_146 (by decide) ?_
                exact ih_67 (i_67 + 1) (by omega) (by omega) _ _ _ h (lv_sub hl [2, 3, 4, 1, 0] rfl)
      exact LP_67 ((mn r) + 1) 0 (by omega) (by omega) _ _ _ h (lv_sub hl [4, 3, 2, 1, 0] rfl)
