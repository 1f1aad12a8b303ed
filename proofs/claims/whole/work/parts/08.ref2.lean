
/-- a petition has passed -/
noncomputable def psr (r : Nat → Int32) (q : Nat) (v : Int32) : Nat → Int32 := upd (upd (upd (upd r (60 * (pc r q) + 3 * (pg r q) + 192) (if pk r q = 2 then (-5) else nI (pk r q))) (60 * (pc r q) + 3 * (pg r q) + 193) v) (60 * (pc r q) + 3 * (pg r q) + 194) (r 3)) 10 (r 10 + b2 (pk r q = 2))
set_option maxHeartbeats 4000000 in
set_option maxRecDepth 100000 in
theorem c_X8_refusal (l : Launch) (J : JJ) (z : Nat) (ad : Nat → Nat) (G : GG) (r : Nat → Int32) (B : Nat) (hB : B ≤ 4284) (hrow : rwS (G 211) B = r) (hW : WR r) (q : Nat) (hq : q < mn r) (v : Int32) : MI l J z ad yX8_refusal cX8_refusal 11 .int 2 [.ref (ad 210), .int (nI B), .int (nI q), .int v] G (fun ans uG => ans = (refu r q v) ∧ uG = (G)) := by
  refine MI.go (by decide) (Nat.le_of_ble_eq_true rfl) ?_
  intro pr e s m args below meth c ls Q X h hl hret
  have hx := X.1
  have hb := X.2.1
  have hown := X.2.2.2.1
  have hts := X.2.2.2.2
  have hl : lv_has ls 11 [(0, .ref (ad 210)), (1, .int (nI B)), (2, .int (nI q)), (3, .int v)] := hl
  have hW0 := hW
  obtain ⟨⟨w1, w2⟩, ⟨w3, w4⟩, ⟨w5, w6⟩, w7, w8⟩ := hW
  obtain ⟨v1, v2, v3, v4, v5, v6, v7, v8⟩ := w7 q hq
  refine lv_iload_n hx hb dX8_refusal_0 rfl (lv_at hl 1 rfl) ?_
  refine lv_iload_n hx hb dX8_refusal_1 rfl (lv_at hl 2 rfl) ?_
  refine rg_cisd (As := [.int (nI B), .int (nI q)]) (rest := []) X hl.1 h (c_X8_petitionAt l J z ad G B q) mw_261 mw_262 mw_5 mw_263 pdX8_petitionAt ⟨Nat.le_of_ble_eq_true rfl, Nat.le_of_ble_eq_true rfl⟩ ⟨Nat.le_of_ble_eq_true rfl, Nat.le_of_ble_eq_true rfl⟩ rfl (Nat.le_of_ble_eq_true rfl) dX8_refusal_2 (fun H locs h => ?_)
  refine lv_as (y := nI (B + 5 * q + 84)) (congrArg nI (by omega)) ?_
  refine lv_istore (lv' := [(4, .int (nI (B + 5 * q + 84))), (0, .ref (ad 210)), (1, .int (nI B)), (2, .int (nI q)), (3, .int v)]) hx hb dX8_refusal_5 hl (by decide) rfl (fun ls hl => ?_)
  refine lv_aload_n hx hb dX8_refusal_7 rfl (lv_at hl 1 rfl) ?_
  refine fg_X8_7 X h dX8_refusal_8 ?_
  refine lv_iload hx hb dX8_refusal_11 (lv_at hl 0 rfl) ?_
  refine lv_iconst (v := nI 1) hx hb dX8_refusal_13 (by decide) ?_
  refine lv_iadd hx hb dX8_refusal_14 ?_
  refine lv_as (y := nI (B + 5 * q + 85)) (nI_addc (by omega)) ?_
  refine rs_ld X h B (5 * q + 85) (congrArg nI (by omega)) (by omega) dX8_refusal_15 ?_
  refine lv_as (y := nI ((pc r q))) ((congrFun hrow _).trans (v3)) ?_
  refine lv_istore (lv' := [(5, .int (nI ((pc r q)))), (4, .int (nI (B + 5 * q + 84))), (0, .ref (ad 210)), (1, .int (nI B)), (2, .int (nI q)), (3, .int v)]) hx hb dX8_refusal_16 hl (by decide) rfl (fun ls hl => ?_)
  refine lv_aload_n hx hb dX8_refusal_18 rfl (lv_at hl 2 rfl) ?_
  refine fg_X8_7 X h dX8_refusal_19 ?_
  refine lv_iload hx hb dX8_refusal_22 (lv_at hl 1 rfl) ?_
  refine lv_iconst (v := nI 2) hx hb dX8_refusal_24 (by decide) ?_
  refine lv_iadd hx hb dX8_refusal_25 ?_
  refine lv_as (y := nI (B + 5 * q + 86)) (nI_addc (by omega)) ?_
  refine rs_ld X h B (5 * q + 86) (congrArg nI (by omega)) (by omega) dX8_refusal_26 ?_
  refine lv_as (y := nI ((pg r q))) ((congrFun hrow _).trans (v5)) ?_
  refine lv_istore (lv' := [(6, .int (nI ((pg r q)))), (5, .int (nI ((pc r q)))), (4, .int (nI (B + 5 * q + 84))), (0, .ref (ad 210)), (1, .int (nI B)), (2, .int (nI q)), (3, .int v)]) hx hb dX8_refusal_27 hl (by decide) rfl (fun ls hl => ?_)
  refine lv_aload_n hx hb dX8_refusal_29 rfl (lv_at hl 3 rfl) ?_
  refine fg_X8_7 X h dX8_refusal_30 ?_
  refine lv_iload hx hb dX8_refusal_33 (lv_at hl 2 rfl) ?_
  refine lv_iconst (v := nI 3) hx hb dX8_refusal_35 (by decide) ?_
  refine lv_iadd hx hb dX8_refusal_36 ?_
  refine lv_as (y := nI (B + 5 * q + 87)) (nI_addc (by omega)) ?_
  refine rs_ld X h B (5 * q + 87) (congrArg nI (by omega)) (by omega) dX8_refusal_37 ?_
  refine lv_as (y := nI ((pk r q))) ((congrFun hrow _).trans (v7)) ?_
  refine lv_istore (lv' := [(7, .int (nI ((pk r q)))), (6, .int (nI ((pg r q)))), (5, .int (nI ((pc r q)))), (4, .int (nI (B + 5 * q + 84))), (0, .ref (ad 210)), (1, .int (nI B)), (2, .int (nI q)), (3, .int v)]) hx hb dX8_refusal_38 hl (by decide) rfl (fun ls hl => ?_)
  refine lv_iload_n hx hb dX8_refusal_40 rfl (lv_at hl 5 rfl) ?_
  refine lv_iload hx hb dX8_refusal_41 (lv_at hl 2 rfl) ?_
  refine lv_iload hx hb dX8_refusal_43 (lv_at hl 1 rfl) ?_
  refine rg_cisd (As := [.int (nI B), .int (nI ((pc r q))), .int (nI ((pg r q)))]) (rest := []) X hl.1 h (c_X8_bylawAt l J z ad G B (pc r q) (pg r q)) mw_386 mw_387 mw_5 mw_388 pdX8_bylawAt ⟨Nat.le_of_ble_eq_true rfl, Nat.le_of_ble_eq_true rfl⟩ ⟨Nat.le_of_ble_eq_true rfl, Nat.le_of_ble_eq_true rfl⟩ rfl (Nat.le_of_ble_eq_true rfl) dX8_refusal_45 (fun H locs h => ?_)
  refine lv_as (y := nI (B + 60 * (pc r q) + 3 * (pg r q) + 192)) (congrArg nI (by omega)) ?_
  refine lv_istore (lv' := [(8, .int (nI (B + 60 * (pc r q) + 3 * (pg r q) + 192))), (7, .int (nI ((pk r q)))), (6, .int (nI ((pg r q)))), (5, .int (nI ((pc r q)))), (4, .int (nI (B + 5 * q + 84))), (0, .ref (ad 210)), (1, .int (nI B)), (2, .int (nI q)), (3, .int v)]) hx hb dX8_refusal_48 hl (by decide) rfl (fun ls hl => ?_)
  refine lv_iload_n hx hb dX8_refusal_50 rfl (lv_at hl 6 rfl) ?_
  refine lv_bipush (v := nI 6) hx hb dX8_refusal_51 (by decide) ?_
  refine lv_iload hx hb dX8_refusal_53 (lv_at hl 2 rfl) ?_
  refine rg_cisd (As := [.int (nI B), .int (nI 6), .int (nI ((pg r q)))]) (rest := []) X hl.1 h (c_X8_bylawAt l J z ad G B 6 (pg r q)) mw_386 mw_387 mw_5 mw_388 pdX8_bylawAt ⟨Nat.le_of_ble_eq_true rfl, Nat.le_of_ble_eq_true rfl⟩ ⟨Nat.le_of_ble_eq_true rfl, Nat.le_of_ble_eq_true rfl⟩ rfl (Nat.le_of_ble_eq_true rfl) dX8_refusal_55 (fun H locs h => ?_)
  refine lv_as (y := nI (B + 3 * (pg r q) + 552)) (congrArg nI (by omega)) ?_
  refine lv_istore (lv' := [(9, .int (nI (B + 3 * (pg r q) + 552))), (8, .int (nI (B + 60 * (pc r q) + 3 * (pg r q) + 192))), (7, .int (nI ((pk r q)))), (6, .int (nI ((pg r q)))), (5, .int (nI ((pc r q)))), (4, .int (nI (B + 5 * q + 84))), (0, .ref (ad 210)), (1, .int (nI B)), (2, .int (nI q)), (3, .int v)]) hx hb dX8_refusal_58 hl (by decide) rfl (fun ls hl => ?_)
  refine lv_iload hx hb dX8_refusal_60 (lv_at hl 2 rfl) ?_
  refine lv_iconst (v := nI 2) hx hb dX8_refusal_62 (by decide) ?_
  refine lv_icmp_ne (tgt := 70) hx hb dX8_refusal_63 (by decide) (fun c_63 => ?_) (fun c_63 => ?_)
  · rw [nI_eq (by omega) (by omega)] at c_63
    refine lv_iconst (v := nI 0) hx hb dX8_refusal_70 (by decide) ?_
    refine lv_istore (lv' := [(10, .int (nI 0)), (9, .int (nI (B + 3 * (pg r q) + 552))), (8, .int (nI (B + 60 * (pc r q) + 3 * (pg r q) + 192))), (7, .int (nI ((pk r q)))), (6, .int (nI ((pg r q)))), (5, .int (nI ((pc r q)))), (4, .int (nI (B + 5 * q + 84))), (0, .ref (ad 210)), (1, .int (nI B)), (2, .int (nI q)), (3, .int v)]) hx hb dX8_refusal_71 hl (by decide) rfl (fun ls hl => ?_)
    refine lv_iload_n hx hb dX8_refusal_73 rfl (lv_at hl 10 rfl) ?_
    refine lv_aload_n hx hb dX8_refusal_74 rfl (lv_at hl 7 rfl) ?_
    refine fg_X8_7 X h dX8_refusal_75 ?_
    refine lv_iload_n hx hb dX8_refusal_78 rfl (lv_at hl 8 rfl) ?_
    refine lv_iconst (v := nI 0) hx hb dX8_refusal_79 (by decide) ?_
    refine lv_iadd hx hb dX8_refusal_80 ?_
    refine lv_as (y := nI B) (nI_addc (by omega)) ?_
    refine rs_ld X h B (0) (congrArg nI (by omega)) (by omega) dX8_refusal_81 ?_
    refine lv_as (y := r 0) (congrFun hrow _) ?_
    refine lv_icmp_ge (tgt := 87) hx hb dX8_refusal_82 (by decide) (fun c_82 => ?_) (fun c_82 => ?_)
    · refine lv_iload_n hx hb dX8_refusal_87 rfl (lv_at hl 10 rfl) ?_
      refine lv_aload_n hx hb dX8_refusal_88 rfl (lv_at hl 7 rfl) ?_
      refine lv_iload_n hx hb dX8_refusal_89 rfl (lv_at hl 8 rfl) ?_
      refine lv_iload hx hb dX8_refusal_90 (lv_at hl 5 rfl) ?_
      refine lv_iload hx hb dX8_refusal_92 (lv_at hl 4 rfl) ?_
      refine lv_iload hx hb dX8_refusal_94 (lv_at hl 3 rfl) ?_
      refine rg_civd (As := [.int (nI B), .int (nI ((pc r q))), .int (nI ((pg r q))), .int (nI ((pk r q)))]) (rest := [.int v]) X hl.1 h (c_X8_refusedWith l J z ad G r B hB hrow hW0 (nI ((pc r q))) (nI ((pg r q))) (nI ((pk r q)))) mw_389 mw_390 mw_391 mw_5 mw_392 pdX8_refusedWith (by decide) (xo_210 J ad _) rfl rfl ⟨Nat.le_of_ble_eq_true rfl, Nat.le_of_ble_eq_true rfl⟩ ⟨Nat.le_of_ble_eq_true rfl, Nat.le_of_ble_eq_true rfl⟩ rfl (Nat.le_of_ble_eq_true rfl) dX8_refusal_96 (fun H locs h => ?_)
      refine lv_icmp_gt (tgt := 104) hx hb dX8_refusal_99 (by decide) (fun c_99 => ?_) (fun c_99 => ?_)
      · refine lv_iload hx hb dX8_refusal_104 (lv_at hl 5 rfl) ?_
        refine lv_bipush (v := nI 6) hx hb dX8_refusal_106 (by decide) ?_
        refine lv_icmp_eq (tgt := 155) hx hb dX8_refusal_108 (by decide) (fun c_108 => ?_) (fun c_108 => ?_)
        · rw [nI_eq (by omega) (by omega)] at c_108
          refine lv_iload hx hb dX8_refusal_155 (lv_at hl 0 rfl) ?_
          refine lv_if_eq (tgt := 175) hx hb dX8_refusal_157 (by decide) (fun c_157 => ?_) (fun c_157 => absurd (by decide) c_157)
          refine lv_aload_n hx hb dX8_refusal_175 rfl (lv_at hl 7 rfl) ?_
          refine fg_X8_7 X h dX8_refusal_176 ?_
          refine lv_iload hx hb dX8_refusal_179 (lv_at hl 2 rfl) ?_
          refine rs_ld X h B (60 * (pc r q) + 3 * (pg r q) + 192) (congrArg nI (by omega)) (by omega) dX8_refusal_181 ?_
          refine lv_as (y := r (60 * (pc r q) + 3 * (pg r q) + 192)) (congrFun hrow _) ?_
          refine lv_iload hx hb dX8_refusal_182 (lv_at hl 3 rfl) ?_
          refine lv_icmp_ne (tgt := 202) hx hb dX8_refusal_184 (by decide) (fun c_184 => ?_) (fun c_184 => ?_)
          · refine lv_iload hx hb dX8_refusal_202 (lv_at hl 0 rfl) ?_
            refine lv_if_eq (tgt := 224) hx hb dX8_refusal_204 (by decide) (fun c_204 => ?_) (fun c_204 => absurd (by decide) c_204)
            refine lv_iconst (v := nI 0) hx hb dX8_refusal_224 (by decide) ?_
            exact hret (nI 0) G _ _ 225 _ (⟨by unfold refu; rw [if_neg (Int32.not_lt.mpr c_82), if_neg (Int32.not_le.mpr c_99), if_neg (fun hC => by obtain ⟨a1, a2, a3, a4, a5⟩ := hC; first | exact a1 c_108 | exact a2 c_63 | exact a3 c_125 | exact a4 c_137 | exact (Int32.not_le.mpr a5) c_150), if_neg (fun hC => by rcases hC with ⟨a1, a2⟩ | ⟨a1, a2, a3⟩ <;> first | exact c_63 a1 | exact a1 c_63 | exact c_169 a2 | exact c_184 a2 | exact absurd a3 (Int32.not_le.mpr c_197)), if_neg (fun hC => by first | exact c_63 hC.1 | exact absurd hC.2 (Int32.not_le.mpr c_217))], rfl⟩) h dX8_refusal_225
          · refine lv_aload_n hx hb dX8_refusal_187 rfl (lv_at hl 7 rfl) ?_
            refine fg_X8_7 X h dX8_refusal_188 ?_
            refine lv_iload hx hb dX8_refusal_191 (lv_at hl 2 rfl) ?_
            refine lv_iconst (v := nI 1) hx hb dX8_refusal_193 (by decide) ?_
            refine lv_iadd hx hb dX8_refusal_194 ?_
            refine lv_as (y := nI (B + 60 * (pc r q) + 3 * (pg r q) + 193)) (nI_addc (by omega)) ?_
            refine rs_ld X h B (60 * (pc r q) + 3 * (pg r q) + 193) (congrArg nI (by omega)) (by omega) dX8_refusal_195 ?_
            refine lv_as (y := r (60 * (pc r q) + 3 * (pg r q) + 193)) (congrFun hrow _) ?_
            refine lv_iload_n hx hb dX8_refusal_196 rfl (lv_at hl 10 rfl) ?_
            refine lv_icmp_lt (tgt := 202) hx hb dX8_refusal_197 (by decide) (fun c_197 => ?_) (fun c_197 => ?_)
            · refine lv_iload hx hb dX8_refusal_202 (lv_at hl 0 rfl) ?_
              refine lv_if_eq (tgt := 224) hx hb dX8_refusal_204 (by decide) (fun c_204 => ?_) (fun c_204 => absurd (by decide) c_204)
              refine lv_iconst (v := nI 0) hx hb dX8_refusal_224 (by decide) ?_
              exact hret (nI 0) G _ _ 225 _ (⟨by unfold refu; rw [if_neg (Int32.not_lt.mpr c_82), if_neg (Int32.not_le.mpr c_99), if_neg (fun hC => by obtain ⟨a1, a2, a3, a4, a5⟩ := hC; first | exact a1 c_108 | exact a2 c_63 | exact a3 c_125 | exact a4 c_137 | exact (Int32.not_le.mpr a5) c_150), if_neg (fun hC => by rcases hC with ⟨a1, a2⟩ | ⟨a1, a2, a3⟩ <;> first | exact c_63 a1 | exact a1 c_63 | exact c_169 a2 | exact c_184 a2 | exact absurd a3 (Int32.not_le.mpr c_197)), if_neg (fun hC => by first | exact c_63 hC.1 | exact absurd hC.2 (Int32.not_le.mpr c_217))], rfl⟩) h dX8_refusal_225
            · refine lv_iconst (v := nI 4) hx hb dX8_refusal_200 (by decide) ?_
              exact hret (nI 4) G _ _ 201 _ (⟨by unfold refu; rw [if_neg (Int32.not_lt.mpr c_82), if_neg (Int32.not_le.mpr c_99), if_neg (fun hC => by obtain ⟨a1, a2, a3, a4, a5⟩ := hC; first | exact a1 c_108 | exact a2 c_63 | exact a3 c_125 | exact a4 c_137 | exact (Int32.not_le.mpr a5) c_150), if_pos (Or.inr ⟨c_63, c_184, Int32.not_lt.mp c_197⟩)], rfl⟩) h dX8_refusal_201
        · rw [nI_eq (by omega) (by omega)] at c_108
          refine lv_iload hx hb dX8_refusal_111 (lv_at hl 0 rfl) ?_
          refine lv_if_ne (tgt := 155) hx hb dX8_refusal_113 (by decide) (fun c_113 => absurd (by decide) c_113) (fun c_113 => ?_)
          refine lv_aload_n hx hb dX8_refusal_116 rfl (lv_at hl 7 rfl) ?_
          refine fg_X8_7 X h dX8_refusal_117 ?_
          refine lv_iload hx hb dX8_refusal_120 (lv_at hl 1 rfl) ?_
          refine rs_ld X h B (3 * (pg r q) + 552) (congrArg nI (by omega)) (by omega) dX8_refusal_122 ?_
          refine lv_as (y := r (3 * (pg r q) + 552)) (congrFun hrow _) ?_
          refine lv_bipush (v := (-5)) hx hb dX8_refusal_123 (by decide) ?_
          refine lv_icmp_eq (tgt := 155) hx hb dX8_refusal_125 (by decide) (fun c_125 => ?_) (fun c_125 => ?_)
          · refine lv_iload hx hb dX8_refusal_155 (lv_at hl 0 rfl) ?_
            refine lv_if_eq (tgt := 175) hx hb dX8_refusal_157 (by decide) (fun c_157 => ?_) (fun c_157 => absurd (by decide) c_157)
            refine lv_aload_n hx hb dX8_refusal_175 rfl (lv_at hl 7 rfl) ?_
            refine fg_X8_7 X h dX8_refusal_176 ?_
            refine lv_iload hx hb dX8_refusal_179 (lv_at hl 2 rfl) ?_
            refine rs_ld X h B (60 * (pc r q) + 3 * (pg r q) + 192) (congrArg nI (by omega)) (by omega) dX8_refusal_181 ?_
            refine lv_as (y := r (60 * (pc r q) + 3 * (pg r q) + 192)) (congrFun hrow _) ?_
            refine lv_iload hx hb dX8_refusal_182 (lv_at hl 3 rfl) ?_
            refine lv_icmp_ne (tgt := 202) hx hb dX8_refusal_184 (by decide) (fun c_184 => ?_) (fun c_184 => ?_)
            · refine lv_iload hx hb dX8_refusal_202 (lv_at hl 0 rfl) ?_
              refine lv_if_eq (tgt := 224) hx hb dX8_refusal_204 (by decide) (fun c_204 => ?_) (fun c_204 => absurd (by decide) c_204)
              refine lv_iconst (v := nI 0) hx hb dX8_refusal_224 (by decide) ?_
              exact hret (nI 0) G _ _ 225 _ (⟨by unfold refu; rw [if_neg (Int32.not_lt.mpr c_82), if_neg (Int32.not_le.mpr c_99), if_neg (fun hC => by obtain ⟨a1, a2, a3, a4, a5⟩ := hC; first | exact a1 c_108 | exact a2 c_63 | exact a3 c_125 | exact a4 c_137 | exact (Int32.not_le.mpr a5) c_150), if_neg (fun hC => by rcases hC with ⟨a1, a2⟩ | ⟨a1, a2, a3⟩ <;> first | exact c_63 a1 | exact a1 c_63 | exact c_169 a2 | exact c_184 a2 | exact absurd a3 (Int32.not_le.mpr c_197)), if_neg (fun hC => by first | exact c_63 hC.1 | exact absurd hC.2 (Int32.not_le.mpr c_217))], rfl⟩) h dX8_refusal_225
            · refine lv_aload_n hx hb dX8_refusal_187 rfl (lv_at hl 7 rfl) ?_
              refine fg_X8_7 X h dX8_refusal_188 ?_
              refine lv_iload hx hb dX8_refusal_191 (lv_at hl 2 rfl) ?_
              refine lv_iconst (v := nI 1) hx hb dX8_refusal_193 (by decide) ?_
              refine lv_iadd hx hb dX8_refusal_194 ?_
              refine lv_as (y := nI (B + 60 * (pc r q) + 3 * (pg r q) + 193)) (nI_addc (by omega)) ?_
              refine rs_ld X h B (60 * (pc r q) + 3 * (pg r q) + 193) (congrArg nI (by omega)) (by omega) dX8_refusal_195 ?_
              refine lv_as (y := r (60 * (pc r q) + 3 * (pg r q) + 193)) (congrFun hrow _) ?_
              refine lv_iload_n hx hb dX8_refusal_196 rfl (lv_at hl 10 rfl) ?_
              refine lv_icmp_lt (tgt := 202) hx hb dX8_refusal_197 (by decide) (fun c_197 => ?_) (fun c_197 => ?_)
              · refine lv_iload hx hb dX8_refusal_202 (lv_at hl 0 rfl) ?_
                refine lv_if_eq (tgt := 224) hx hb dX8_refusal_204 (by decide) (fun c_204 => ?_) (fun c_204 => absurd (by decide) c_204)
                refine lv_iconst (v := nI 0) hx hb dX8_refusal_224 (by decide) ?_
                exact hret (nI 0) G _ _ 225 _ (⟨by unfold refu; rw [if_neg (Int32.not_lt.mpr c_82), if_neg (Int32.not_le.mpr c_99), if_neg (fun hC => by obtain ⟨a1, a2, a3, a4, a5⟩ := hC; first | exact a1 c_108 | exact a2 c_63 | exact a3 c_125 | exact a4 c_137 | exact (Int32.not_le.mpr a5) c_150), if_neg (fun hC => by rcases hC with ⟨a1, a2⟩ | ⟨a1, a2, a3⟩ <;> first | exact c_63 a1 | exact a1 c_63 | exact c_169 a2 | exact c_184 a2 | exact absurd a3 (Int32.not_le.mpr c_197)), if_neg (fun hC => by first | exact c_63 hC.1 | exact absurd hC.2 (Int32.not_le.mpr c_217))], rfl⟩) h dX8_refusal_225
              · refine lv_iconst (v := nI 4) hx hb dX8_refusal_200 (by decide) ?_
                exact hret (nI 4) G _ _ 201 _ (⟨by unfold refu; rw [if_neg (Int32.not_lt.mpr c_82), if_neg (Int32.not_le.mpr c_99), if_neg (fun hC => by obtain ⟨a1, a2, a3, a4, a5⟩ := hC; first | exact a1 c_108 | exact a2 c_63 | exact a3 c_125 | exact a4 c_137 | exact (Int32.not_le.mpr a5) c_150), if_pos (Or.inr ⟨c_63, c_184, Int32.not_lt.mp c_197⟩)], rfl⟩) h dX8_refusal_201
          · refine lv_aload_n hx hb dX8_refusal_128 rfl (lv_at hl 7 rfl) ?_
            refine fg_X8_7 X h dX8_refusal_129 ?_
            refine lv_iload hx hb dX8_refusal_132 (lv_at hl 1 rfl) ?_
            refine rs_ld X h B (3 * (pg r q) + 552) (congrArg nI (by omega)) (by omega) dX8_refusal_134 ?_
            refine lv_as (y := r (3 * (pg r q) + 552)) (congrFun hrow _) ?_
            refine lv_iload hx hb dX8_refusal_135 (lv_at hl 3 rfl) ?_
            refine lv_icmp_eq (tgt := 155) hx hb dX8_refusal_137 (by decide) (fun c_137 => ?_) (fun c_137 => ?_)
            · refine lv_iload hx hb dX8_refusal_155 (lv_at hl 0 rfl) ?_
              refine lv_if_eq (tgt := 175) hx hb dX8_refusal_157 (by decide) (fun c_157 => ?_) (fun c_157 => absurd (by decide) c_157)
              refine lv_aload_n hx hb dX8_refusal_175 rfl (lv_at hl 7 rfl) ?_
              refine fg_X8_7 X h dX8_refusal_176 ?_
              refine lv_iload hx hb dX8_refusal_179 (lv_at hl 2 rfl) ?_
              refine rs_ld X h B (60 * (pc r q) + 3 * (pg r q) + 192) (congrArg nI (by omega)) (by omega) dX8_refusal_181 ?_
              refine lv_as (y := r (60 * (pc r q) + 3 * (pg r q) + 192)) (congrFun hrow _) ?_
              refine lv_iload hx hb dX8_refusal_182 (lv_at hl 3 rfl) ?_
              refine lv_icmp_ne (tgt := 202) hx hb dX8_refusal_184 (by decide) (fun c_184 => ?_) (fun c_184 => ?_)
              · refine lv_iload hx hb dX8_refusal_202 (lv_at hl 0 rfl) ?_
                refine lv_if_eq (tgt := 224) hx hb dX8_refusal_204 (by decide) (fun c_204 => ?_) (fun c_204 => absurd (by decide) c_204)
                refine lv_iconst (v := nI 0) hx hb dX8_refusal_224 (by decide) ?_
                exact hret (nI 0) G _ _ 225 _ (⟨by unfold refu; rw [if_neg (Int32.not_lt.mpr c_82), if_neg (Int32.not_le.mpr c_99), if_neg (fun hC => by obtain ⟨a1, a2, a3, a4, a5⟩ := hC; first | exact a1 c_108 | exact a2 c_63 | exact a3 c_125 | exact a4 c_137 | exact (Int32.not_le.mpr a5) c_150), if_neg (fun hC => by rcases hC with ⟨a1, a2⟩ | ⟨a1, a2, a3⟩ <;> first | exact c_63 a1 | exact a1 c_63 | exact c_169 a2 | exact c_184 a2 | exact absurd a3 (Int32.not_le.mpr c_197)), if_neg (fun hC => by first | exact c_63 hC.1 | exact absurd hC.2 (Int32.not_le.mpr c_217))], rfl⟩) h dX8_refusal_225
              · refine lv_aload_n hx hb dX8_refusal_187 rfl (lv_at hl 7 rfl) ?_
                refine fg_X8_7 X h dX8_refusal_188 ?_
                refine lv_iload hx hb dX8_refusal_191 (lv_at hl 2 rfl) ?_
                refine lv_iconst (v := nI 1) hx hb dX8_refusal_193 (by decide) ?_
                refine lv_iadd hx hb dX8_refusal_194 ?_
                refine lv_as (y := nI (B + 60 * (pc r q) + 3 * (pg r q) + 193)) (nI_addc (by omega)) ?_
                refine rs_ld X h B (60 * (pc r q) + 3 * (pg r q) + 193) (congrArg nI (by omega)) (by omega) dX8_refusal_195 ?_
                refine lv_as (y := r (60 * (pc r q) + 3 * (pg r q) + 193)) (congrFun hrow _) ?_
                refine lv_iload_n hx hb dX8_refusal_196 rfl (lv_at hl 10 rfl) ?_
                refine lv_icmp_lt (tgt := 202) hx hb dX8_refusal_197 (by decide) (fun c_197 => ?_) (fun c_197 => ?_)
                · refine lv_iload hx hb dX8_refusal_202 (lv_at hl 0 rfl) ?_
                  refine lv_if_eq (tgt := 224) hx hb dX8_refusal_204 (by decide) (fun c_204 => ?_) (fun c_204 => absurd (by decide) c_204)
                  refine lv_iconst (v := nI 0) hx hb dX8_refusal_224 (by decide) ?_
                  exact hret (nI 0) G _ _ 225 _ (⟨by unfold refu; rw [if_neg (Int32.not_lt.mpr c_82), if_neg (Int32.not_le.mpr c_99), if_neg (fun hC => by obtain ⟨a1, a2, a3, a4, a5⟩ := hC; first | exact a1 c_108 | exact a2 c_63 | exact a3 c_125 | exact a4 c_137 | exact (Int32.not_le.mpr a5) c_150), if_neg (fun hC => by rcases hC with ⟨a1, a2⟩ | ⟨a1, a2, a3⟩ <;> first | exact c_63 a1 | exact a1 c_63 | exact c_169 a2 | exact c_184 a2 | exact absurd a3 (Int32.not_le.mpr c_197)), if_neg (fun hC => by first | exact c_63 hC.1 | exact absurd hC.2 (Int32.not_le.mpr c_217))], rfl⟩) h dX8_refusal_225
                · refine lv_iconst (v := nI 4) hx hb dX8_refusal_200 (by decide) ?_
                  exact hret (nI 4) G _ _ 201 _ (⟨by unfold refu; rw [if_neg (Int32.not_lt.mpr c_82), if_neg (Int32.not_le.mpr c_99), if_neg (fun hC => by obtain ⟨a1, a2, a3, a4, a5⟩ := hC; first | exact a1 c_108 | exact a2 c_63 | exact a3 c_125 | exact a4 c_137 | exact (Int32.not_le.mpr a5) c_150), if_pos (Or.inr ⟨c_63, c_184, Int32.not_lt.mp c_197⟩)], rfl⟩) h dX8_refusal_201
            · refine lv_aload_n hx hb dX8_refusal_140 rfl (lv_at hl 7 rfl) ?_
              refine fg_X8_7 X h dX8_refusal_141 ?_
              refine lv_iload hx hb dX8_refusal_144 (lv_at hl 1 rfl) ?_
              refine lv_iconst (v := nI 1) hx hb dX8_refusal_146 (by decide) ?_
              refine lv_iadd hx hb dX8_refusal_147 ?_
              refine lv_as (y := nI (B + 3 * (pg r q) + 553)) (nI_addc (by omega)) ?_
              refine rs_ld X h B (3 * (pg r q) + 553) (congrArg nI (by omega)) (by omega) dX8_refusal_148 ?_
              refine lv_as (y := r (3 * (pg r q) + 553)) (congrFun hrow _) ?_
              refine lv_iload_n hx hb dX8_refusal_149 rfl (lv_at hl 10 rfl) ?_
              refine lv_icmp_le (tgt := 155) hx hb dX8_refusal_150 (by decide) (fun c_150 => ?_) (fun c_150 => ?_)
              · refine lv_iload hx hb dX8_refusal_155 (lv_at hl 0 rfl) ?_
                refine lv_if_eq (tgt := 175) hx hb dX8_refusal_157 (by decide) (fun c_157 => ?_) (fun c_157 => absurd (by decide) c_157)
                refine lv_aload_n hx hb dX8_refusal_175 rfl (lv_at hl 7 rfl) ?_
                refine fg_X8_7 X h dX8_refusal_176 ?_
                refine lv_iload hx hb dX8_refusal_179 (lv_at hl 2 rfl) ?_
                refine rs_ld X h B (60 * (pc r q) + 3 * (pg r q) + 192) (congrArg nI (by omega)) (by omega) dX8_refusal_181 ?_
                refine lv_as (y := r (60 * (pc r q) + 3 * (pg r q) + 192)) (congrFun hrow _) ?_
                refine lv_iload hx hb dX8_refusal_182 (lv_at hl 3 rfl) ?_
                refine lv_icmp_ne (tgt := 202) hx hb dX8_refusal_184 (by decide) (fun c_184 => ?_) (fun c_184 => ?_)
                · refine lv_iload hx hb dX8_refusal_202 (lv_at hl 0 rfl) ?_
                  refine lv_if_eq (tgt := 224) hx hb dX8_refusal_204 (by decide) (fun c_204 => ?_) (fun c_204 => absurd (by decide) c_204)
                  refine lv_iconst (v := nI 0) hx hb dX8_refusal_224 (by decide) ?_
                  exact hret (nI 0) G _ _ 225 _ (⟨by unfold refu; rw [if_neg (Int32.not_lt.mpr c_82), if_neg (Int32.not_le.mpr c_99), if_neg (fun hC => by obtain ⟨a1, a2, a3, a4, a5⟩ := hC; first | exact a1 c_108 | exact a2 c_63 | exact a3 c_125 | exact a4 c_137 | exact (Int32.not_le.mpr a5) c_150), if_neg (fun hC => by rcases hC with ⟨a1, a2⟩ | ⟨a1, a2, a3⟩ <;> first | exact c_63 a1 | exact a1 c_63 | exact c_169 a2 | exact c_184 a2 | exact absurd a3 (Int32.not_le.mpr c_197)), if_neg (fun hC => by first | exact c_63 hC.1 | exact absurd hC.2 (Int32.not_le.mpr c_217))], rfl⟩) h dX8_refusal_225
                · refine lv_aload_n hx hb dX8_refusal_187 rfl (lv_at hl 7 rfl) ?_
                  refine fg_X8_7 X h dX8_refusal_188 ?_
                  refine lv_iload hx hb dX8_refusal_191 (lv_at hl 2 rfl) ?_
                  refine lv_iconst (v := nI 1) hx hb dX8_refusal_193 (by decide) ?_
                  refine lv_iadd hx hb dX8_refusal_194 ?_
                  refine lv_as (y := nI (B + 60 * (pc r q) + 3 * (pg r q) + 193)) (nI_addc (by omega)) ?_
                  refine rs_ld X h B (60 * (pc r q) + 3 * (pg r q) + 193) (congrArg nI (by omega)) (by omega) dX8_refusal_195 ?_
                  refine lv_as (y := r (60 * (pc r q) + 3 * (pg r q) + 193)) (congrFun hrow _) ?_
                  refine lv_iload_n hx hb dX8_refusal_196 rfl (lv_at hl 10 rfl) ?_
                  refine lv_icmp_lt (tgt := 202) hx hb dX8_refusal_197 (by decide) (fun c_197 => ?_) (fun c_197 => ?_)
                  · refine lv_iload hx hb dX8_refusal_202 (lv_at hl 0 rfl) ?_
                    refine lv_if_eq (tgt := 224) hx hb dX8_refusal_204 (by decide) (fun c_204 => ?_) (fun c_204 => absurd (by decide) c_204)
                    refine lv_iconst (v := nI 0) hx hb dX8_refusal_224 (by decide) ?_
                    exact hret (nI 0) G _ _ 225 _ (⟨by unfold refu; rw [if_neg (Int32.not_lt.mpr c_82), if_neg (Int32.not_le.mpr c_99), if_neg (fun hC => by obtain ⟨a1, a2, a3, a4, a5⟩ := hC; first | exact a1 c_108 | exact a2 c_63 | exact a3 c_125 | exact a4 c_137 | exact (Int32.not_le.mpr a5) c_150), if_neg (fun hC => by rcases hC with ⟨a1, a2⟩ | ⟨a1, a2, a3⟩ <;> first | exact c_63 a1 | exact a1 c_63 | exact c_169 a2 | exact c_184 a2 | exact absurd a3 (Int32.not_le.mpr c_197)), if_neg (fun hC => by first | exact c_63 hC.1 | exact absurd hC.2 (Int32.not_le.mpr c_217))], rfl⟩) h dX8_refusal_225
                  · refine lv_iconst (v := nI 4) hx hb dX8_refusal_200 (by decide) ?_
                    exact hret (nI 4) G _ _ 201 _ (⟨by unfold refu; rw [if_neg (Int32.not_lt.mpr c_82), if_neg (Int32.not_le.mpr c_99), if_neg (fun hC => by obtain ⟨a1, a2, a3, a4, a5⟩ := hC; first | exact a1 c_108 | exact a2 c_63 | exact a3 c_125 | exact a4 c_137 | exact (Int32.not_le.mpr a5) c_150), if_pos (Or.inr ⟨c_63, c_184, Int32.not_lt.mp c_197⟩)], rfl⟩) h dX8_refusal_201
              · refine lv_iconst (v := nI 3) hx hb dX8_refusal_153 (by decide) ?_
                exact hret (nI 3) G _ _ 154 _ (⟨by unfold refu; rw [if_neg (Int32.not_lt.mpr c_82), if_neg (Int32.not_le.mpr c_99), if_pos ⟨c_108, c_63, c_125, c_137, Int32.not_le.mp c_150⟩], rfl⟩) h dX8_refusal_154
      · refine lv_iconst (v := nI 2) hx hb dX8_refusal_102 (by decide) ?_
        exact hret (nI 2) G _ _ 103 _ (⟨by unfold refu; rw [if_neg (Int32.not_lt.mpr c_82), if_pos (Int32.not_lt.mp c_99)], rfl⟩) h dX8_refusal_103
    · refine lv_iconst (v := nI 1) hx hb dX8_refusal_85 (by decide) ?_
      exact hret (nI 1) G _ _ 86 _ (⟨by unfold refu; rw [if_pos (Int32.not_le.mp c_82)], rfl⟩) h dX8_refusal_86
  · rw [nI_eq (by omega) (by omega)] at c_63
    refine lv_iconst (v := nI 1) hx hb dX8_refusal_66 (by decide) ?_
    refine lv_goto (tgt := 71) hx hb dX8_refusal_67 (by decide) ?_
    refine lv_istore (lv' := [(10, .int (nI 1)), (9, .int (nI (B + 3 * (pg r q) + 552))), (8, .int (nI (B + 60 * (pc r q) + 3 * (pg r q) + 192))), (7, .int (nI ((pk r q)))), (6, .int (nI ((pg r q)))), (5, .int (nI ((pc r q)))), (4, .int (nI (B + 5 * q + 84))), (0, .ref (ad 210)), (1, .int (nI B)), (2, .int (nI q)), (3, .int v)]) hx hb dX8_refusal_71 hl (by decide) rfl (fun ls hl => ?_)
    refine lv_iload_n hx hb dX8_refusal_73 rfl (lv_at hl 10 rfl) ?_
    refine lv_aload_n hx hb dX8_refusal_74 rfl (lv_at hl 7 rfl) ?_
    refine fg_X8_7 X h dX8_refusal_75 ?_
    refine lv_iload_n hx hb dX8_refusal_78 rfl (lv_at hl 8 rfl) ?_
    refine lv_iconst (v := nI 0) hx hb dX8_refusal_79 (by decide) ?_
    refine lv_iadd hx hb dX8_refusal_80 ?_
    refine lv_as (y := nI B) (nI_addc (by omega)) ?_
    refine rs_ld X h B (0) (congrArg nI (by omega)) (by omega) dX8_refusal_81 ?_
    refine lv_as (y := r 0) (congrFun hrow _) ?_
    refine lv_icmp_ge (tgt := 87) hx hb dX8_refusal_82 (by decide) (fun c_82 => ?_) (fun c_82 => ?_)
    · refine lv_iload_n hx hb dX8_refusal_87 rfl (lv_at hl 10 rfl) ?_
      refine lv_aload_n hx hb dX8_refusal_88 rfl (lv_at hl 7 rfl) ?_
      refine lv_iload_n hx hb dX8_refusal_89 rfl (lv_at hl 8 rfl) ?_
      refine lv_iload hx hb dX8_refusal_90 (lv_at hl 5 rfl) ?_
      refine lv_iload hx hb dX8_refusal_92 (lv_at hl 4 rfl) ?_
      refine lv_iload hx hb dX8_refusal_94 (lv_at hl 3 rfl) ?_
      refine rg_civd (As := [.int (nI B), .int (nI ((pc r q))), .int (nI ((pg r q))), .int (nI ((pk r q)))]) (rest := [.int v]) X hl.1 h (c_X8_refusedWith l J z ad G r B hB hrow hW0 (nI ((pc r q))) (nI ((pg r q))) (nI ((pk r q)))) mw_389 mw_390 mw_391 mw_5 mw_392 pdX8_refusedWith (by decide) (xo_210 J ad _) rfl rfl ⟨Nat.le_of_ble_eq_true rfl, Nat.le_of_ble_eq_true rfl⟩ ⟨Nat.le_of_ble_eq_true rfl, Nat.le_of_ble_eq_true rfl⟩ rfl (Nat.le_of_ble_eq_true rfl) dX8_refusal_96 (fun H locs h => ?_)
      refine lv_icmp_gt (tgt := 104) hx hb dX8_refusal_99 (by decide) (fun c_99 => ?_) (fun c_99 => ?_)
      · refine lv_iload hx hb dX8_refusal_104 (lv_at hl 5 rfl) ?_
        refine lv_bipush (v := nI 6) hx hb dX8_refusal_106 (by decide) ?_
        refine lv_icmp_eq (tgt := 155) hx hb dX8_refusal_108 (by decide) (fun c_108 => ?_) (fun c_108 => ?_)
        · rw [nI_eq (by omega) (by omega)] at c_108
          refine lv_iload hx hb dX8_refusal_155 (lv_at hl 0 rfl) ?_
          refine lv_if_eq (tgt := 175) hx hb dX8_refusal_157 (by decide) (fun c_157 => absurd c_157 (by decide)) (fun c_157 => ?_)
          refine lv_aload_n hx hb dX8_refusal_160 rfl (lv_at hl 7 rfl) ?_
          refine fg_X8_7 X h dX8_refusal_161 ?_
          refine lv_iload hx hb dX8_refusal_164 (lv_at hl 2 rfl) ?_
          refine rs_ld X h B (60 * (pc r q) + 3 * (pg r q) + 192) (congrArg nI (by omega)) (by omega) dX8_refusal_166 ?_
          refine lv_as (y := r (60 * (pc r q) + 3 * (pg r q) + 192)) (congrFun hrow _) ?_
          refine lv_bipush (v := (-5)) hx hb dX8_refusal_167 (by decide) ?_
          refine lv_icmp_ne (tgt := 202) hx hb dX8_refusal_169 (by decide) (fun c_169 => ?_) (fun c_169 => ?_)
          · refine lv_iload hx hb dX8_refusal_202 (lv_at hl 0 rfl) ?_
            refine lv_if_eq (tgt := 224) hx hb dX8_refusal_204 (by decide) (fun c_204 => absurd c_204 (by decide)) (fun c_204 => ?_)
            refine lv_iconst (v := nI 2) hx hb dX8_refusal_207 (by decide) ?_
            refine lv_iload_n hx hb dX8_refusal_208 rfl (lv_at hl 10 rfl) ?_
            refine lv_imul hx hb dX8_refusal_209 ?_
            refine lv_aload_n hx hb dX8_refusal_210 rfl (lv_at hl 7 rfl) ?_
            refine lv_iload_n hx hb dX8_refusal_211 rfl (lv_at hl 8 rfl) ?_
            refine lv_iload hx hb dX8_refusal_212 (lv_at hl 5 rfl) ?_
            refine rg_civd (As := [.int (nI B), .int (nI ((pc r q)))]) (rest := [.int ((nI 2) * v)]) X hl.1 h (c_X8_weightAt l J z ad G r B hB hrow hW0 (nI ((pc r q)))) mw_393 mw_394 mw_395 mw_5 mw_396 pdX8_weightAt (by decide) (xo_210 J ad _) rfl rfl ⟨Nat.le_of_ble_eq_true rfl, Nat.le_of_ble_eq_true rfl⟩ ⟨Nat.le_of_ble_eq_true rfl, Nat.le_of_ble_eq_true rfl⟩ rfl (Nat.le_of_ble_eq_true rfl) dX8_refusal_214 (fun H locs h => ?_)
            refine lv_icmp_gt (tgt := 224) hx hb dX8_refusal_217 (by decide) (fun c_217 => ?_) (fun c_217 => ?_)
            · refine lv_iconst (v := nI 0) hx hb dX8_refusal_224 (by decide) ?_
              exact hret (nI 0) G _ _ 225 _ (⟨by unfold refu; rw [if_neg (Int32.not_lt.mpr c_82), if_neg (Int32.not_le.mpr c_99), if_neg (fun hC => by obtain ⟨a1, a2, a3, a4, a5⟩ := hC; first | exact a1 c_108 | exact a2 c_63 | exact a3 c_125 | exact a4 c_137 | exact (Int32.not_le.mpr a5) c_150), if_neg (fun hC => by rcases hC with ⟨a1, a2⟩ | ⟨a1, a2, a3⟩ <;> first | exact c_63 a1 | exact a1 c_63 | exact c_169 a2 | exact c_184 a2 | exact absurd a3 (Int32.not_le.mpr c_197)), if_neg (fun hC => by first | exact c_63 hC.1 | exact absurd hC.2 (Int32.not_le.mpr c_217))], rfl⟩) h dX8_refusal_225
            · refine lv_iconst (v := nI 5) hx hb dX8_refusal_220 (by decide) ?_
              refine lv_goto (tgt := 225) hx hb dX8_refusal_221 (by decide) ?_
              exact hret (nI 5) G _ _ 225 _ (⟨by unfold refu; rw [if_neg (Int32.not_lt.mpr c_82), if_neg (Int32.not_le.mpr c_99), if_neg (fun hC => by obtain ⟨a1, a2, a3, a4, a5⟩ := hC; first | exact a1 c_108 | exact a2 c_63 | exact a3 c_125 | exact a4 c_137 | exact (Int32.not_le.mpr a5) c_150), if_neg (fun hC => by rcases hC with ⟨a1, a2⟩ | ⟨a1, a2, a3⟩ <;> first | exact c_63 a1 | exact a1 c_63 | exact c_169 a2 | exact c_184 a2 | exact absurd a3 (Int32.not_le.mpr c_197)), if_pos ⟨c_63, Int32.not_lt.mp c_217⟩], rfl⟩) h dX8_refusal_225
          · refine lv_goto (tgt := 200) hx hb dX8_refusal_172 (by decide) ?_
            refine lv_iconst (v := nI 4) hx hb dX8_refusal_200 (by decide) ?_
            exact hret (nI 4) G _ _ 201 _ (⟨by unfold refu; rw [if_neg (Int32.not_lt.mpr c_82), if_neg (Int32.not_le.mpr c_99), if_neg (fun hC => by obtain ⟨a1, a2, a3, a4, a5⟩ := hC; first | exact a1 c_108 | exact a2 c_63 | exact a3 c_125 | exact a4 c_137 | exact (Int32.not_le.mpr a5) c_150), if_pos (Or.inl ⟨c_63, c_169⟩)], rfl⟩) h dX8_refusal_201
        · rw [nI_eq (by omega) (by omega)] at c_108
          refine lv_iload hx hb dX8_refusal_111 (lv_at hl 0 rfl) ?_
          refine lv_if_ne (tgt := 155) hx hb dX8_refusal_113 (by decide) (fun c_113 => ?_) (fun c_113 => absurd c_113 (by decide))
          refine lv_iload hx hb dX8_refusal_155 (lv_at hl 0 rfl) ?_
          refine lv_if_eq (tgt := 175) hx hb dX8_refusal_157 (by decide) (fun c_157 => absurd c_157 (by decide)) (fun c_157 => ?_)
          refine lv_aload_n hx hb dX8_refusal_160 rfl (lv_at hl 7 rfl) ?_
          refine fg_X8_7 X h dX8_refusal_161 ?_
          refine lv_iload hx hb dX8_refusal_164 (lv_at hl 2 rfl) ?_
          refine rs_ld X h B (60 * (pc r q) + 3 * (pg r q) + 192) (congrArg nI (by omega)) (by omega) dX8_refusal_166 ?_
          refine lv_as (y := r (60 * (pc r q) + 3 * (pg r q) + 192)) (congrFun hrow _) ?_
          refine lv_bipush (v := (-5)) hx hb dX8_refusal_167 (by decide) ?_
          refine lv_icmp_ne (tgt := 202) hx hb dX8_refusal_169 (by decide) (fun c_169 => ?_) (fun c_169 => ?_)
          · refine lv_iload hx hb dX8_refusal_202 (lv_at hl 0 rfl) ?_
            refine lv_if_eq (tgt := 224) hx hb dX8_refusal_204 (by decide) (fun c_204 => absurd c_204 (by decide)) (fun c_204 => ?_)
            refine lv_iconst (v := nI 2) hx hb dX8_refusal_207 (by decide) ?_
            refine lv_iload_n hx hb dX8_refusal_208 rfl (lv_at hl 10 rfl) ?_
            refine lv_imul hx hb dX8_refusal_209 ?_
            refine lv_aload_n hx hb dX8_refusal_210 rfl (lv_at hl 7 rfl) ?_
            refine lv_iload_n hx hb dX8_refusal_211 rfl (lv_at hl 8 rfl) ?_
            refine lv_iload hx hb dX8_refusal_212 (lv_at hl 5 rfl) ?_
            refine rg_civd (As := [.int (nI B), .int (nI ((pc r q)))]) (rest := [.int ((nI 2) * v)]) X hl.1 h (c_X8_weightAt l J z ad G r B hB hrow hW0 (nI ((pc r q)))) mw_393 mw_394 mw_395 mw_5 mw_396 pdX8_weightAt (by decide) (xo_210 J ad _) rfl rfl ⟨Nat.le_of_ble_eq_true rfl, Nat.le_of_ble_eq_true rfl⟩ ⟨Nat.le_of_ble_eq_true rfl, Nat.le_of_ble_eq_true rfl⟩ rfl (Nat.le_of_ble_eq_true rfl) dX8_refusal_214 (fun H locs h => ?_)
            refine lv_icmp_gt (tgt := 224) hx hb dX8_refusal_217 (by decide) (fun c_217 => ?_) (fun c_217 => ?_)
            · refine lv_iconst (v := nI 0) hx hb dX8_refusal_224 (by decide) ?_
              exact hret (nI 0) G _ _ 225 _ (⟨by unfold refu; rw [if_neg (Int32.not_lt.mpr c_82), if_neg (Int32.not_le.mpr c_99), if_neg (fun hC => by obtain ⟨a1, a2, a3, a4, a5⟩ := hC; first | exact a1 c_108 | exact a2 c_63 | exact a3 c_125 | exact a4 c_137 | exact (Int32.not_le.mpr a5) c_150), if_neg (fun hC => by rcases hC with ⟨a1, a2⟩ | ⟨a1, a2, a3⟩ <;> first | exact c_63 a1 | exact a1 c_63 | exact c_169 a2 | exact c_184 a2 | exact absurd a3 (Int32.not_le.mpr c_197)), if_neg (fun hC => by first | exact c_63 hC.1 | exact absurd hC.2 (Int32.not_le.mpr c_217))], rfl⟩) h dX8_refusal_225
            · refine lv_iconst (v := nI 5) hx hb dX8_refusal_220 (by decide) ?_
              refine lv_goto (tgt := 225) hx hb dX8_refusal_221 (by decide) ?_
              exact hret (nI 5) G _ _ 225 _ (⟨by unfold refu; rw [if_neg (Int32.not_lt.mpr c_82), if_neg (Int32.not_le.mpr c_99), if_neg (fun hC => by obtain ⟨a1, a2, a3, a4, a5⟩ := hC; first | exact a1 c_108 | exact a2 c_63 | exact a3 c_125 | exact a4 c_137 | exact (Int32.not_le.mpr a5) c_150), if_neg (fun hC => by rcases hC with ⟨a1, a2⟩ | ⟨a1, a2, a3⟩ <;> first | exact c_63 a1 | exact a1 c_63 | exact c_169 a2 | exact c_184 a2 | exact absurd a3 (Int32.not_le.mpr c_197)), if_pos ⟨c_63, Int32.not_lt.mp c_217⟩], rfl⟩) h dX8_refusal_225
          · refine lv_goto (tgt := 200) hx hb dX8_refusal_172 (by decide) ?_
            refine lv_iconst (v := nI 4) hx hb dX8_refusal_200 (by decide) ?_
            exact hret (nI 4) G _ _ 201 _ (⟨by unfold refu; rw [if_neg (Int32.not_lt.mpr c_82), if_neg (Int32.not_le.mpr c_99), if_neg (fun hC => by obtain ⟨a1, a2, a3, a4, a5⟩ := hC; first | exact a1 c_108 | exact a2 c_63 | exact a3 c_125 | exact a4 c_137 | exact (Int32.not_le.mpr a5) c_150), if_pos (Or.inl ⟨c_63, c_169⟩)], rfl⟩) h dX8_refusal_201
      · refine lv_iconst (v := nI 2) hx hb dX8_refusal_102 (by decide) ?_
        exact hret (nI 2) G _ _ 103 _ (⟨by unfold refu; rw [if_neg (Int32.not_lt.mpr c_82), if_pos (Int32.not_lt.mp c_99)], rfl⟩) h dX8_refusal_103
    · refine lv_iconst (v := nI 1) hx hb dX8_refusal_85 (by decide) ?_
      exact hret (nI 1) G _ _ 86 _ (⟨by unfold refu; rw [if_pos (Int32.not_le.mp c_82)], rfl⟩) h dX8_refusal_86
set_option maxHeartbeats 4000000 in
set_option maxRecDepth 100000 in
theorem c_X8_passes (l : Launch) (J : JJ) (z : Nat) (ad : Nat → Nat) (G : GG) (r : Nat → Int32) (B : Nat) (hB : B ≤ 4284) (hW : WR r) (q : Nat) (hq : q < mn r) (v : Int32) : MV l J z ad yX8_passes cX8_passes 7 1 [.ref (ad 210), .int (nI B), .int (nI q), .int v] (RG G B r) (fun uG => uG = RG G B (psr r q v)) := by
  refine MV.go (by decide) (Nat.le_of_ble_eq_true rfl) ?_
  intro pr e s m args below meth c ls Q X h hl hret
  have hx := X.1
  have hb := X.2.1
  have hown := X.2.2.2.1
  have hts := X.2.2.2.2
  have hl : lv_has ls 7 [(0, .ref (ad 210)), (1, .int (nI B)), (2, .int (nI q)), (3, .int v)] := hl
  obtain ⟨⟨w1, w2⟩, ⟨w3, w4⟩, ⟨w5, w6⟩, w7, w8⟩ := hW
  obtain ⟨v1, v2, v3, v4, v5, v6, v7, v8⟩ := w7 q hq
  refine lv_iload_n hx hb dX8_passes_0 rfl (lv_at hl 1 rfl) ?_
  refine lv_iload_n hx hb dX8_passes_1 rfl (lv_at hl 2 rfl) ?_
  refine rg_cisd (As := [.int (nI B), .int (nI q)]) (rest := []) X hl.1 h (c_X8_petitionAt l J z ad (RG G B r) B q) mw_261 mw_262 mw_5 mw_263 pdX8_petitionAt ⟨Nat.le_of_ble_eq_true rfl, Nat.le_of_ble_eq_true rfl⟩ ⟨Nat.le_of_ble_eq_true rfl, Nat.le_of_ble_eq_true rfl⟩ rfl (Nat.le_of_ble_eq_true rfl) dX8_passes_2 (fun H locs h => ?_)
  refine lv_as (y := nI (B + 5 * q + 84)) (congrArg nI (by omega)) ?_
  refine lv_istore (lv' := [(4, .int (nI (B + 5 * q + 84))), (0, .ref (ad 210)), (1, .int (nI B)), (2, .int (nI q)), (3, .int v)]) hx hb dX8_passes_5 hl (by decide) rfl (fun ls hl => ?_)
  refine lv_iload_n hx hb dX8_passes_7 rfl (lv_at hl 2 rfl) ?_
  refine lv_aload_n hx hb dX8_passes_8 rfl (lv_at hl 1 rfl) ?_
  refine fg_X8_7 X h dX8_passes_9 ?_
  refine lv_iload hx hb dX8_passes_12 (lv_at hl 0 rfl) ?_
  refine lv_iconst (v := nI 1) hx hb dX8_passes_14 (by decide) ?_
  refine lv_iadd hx hb dX8_passes_15 ?_
  refine lv_as (y := nI (B + 5 * q + 85)) (nI_addc (by omega)) ?_
  refine rs_ld X h B (5 * q + 85) (congrArg nI (by omega)) (by omega) dX8_passes_16 ?_
  refine lv_as (y := nI ((pc r q))) ((congrFun (RG_row G B r) _).trans (v3)) ?_
  refine lv_aload_n hx hb dX8_passes_17 rfl (lv_at hl 1 rfl) ?_
  refine fg_X8_7 X h dX8_passes_18 ?_
  refine lv_iload hx hb dX8_passes_21 (lv_at hl 0 rfl) ?_
  refine lv_iconst (v := nI 2) hx hb dX8_passes_23 (by decide) ?_
  refine lv_iadd hx hb dX8_passes_24 ?_
  refine lv_as (y := nI (B + 5 * q + 86)) (nI_addc (by omega)) ?_
  refine rs_ld X h B (5 * q + 86) (congrArg nI (by omega)) (by omega) dX8_passes_25 ?_
  refine lv_as (y := nI ((pg r q))) ((congrFun (RG_row G B r) _).trans (v5)) ?_
  refine rg_cisd (As := [.int (nI B), .int (nI ((pc r q))), .int (nI ((pg r q)))]) (rest := []) X hl.1 h (c_X8_bylawAt l J z ad (RG G B r) B (pc r q) (pg r q)) mw_386 mw_387 mw_5 mw_388 pdX8_bylawAt ⟨Nat.le_of_ble_eq_true rfl, Nat.le_of_ble_eq_true rfl⟩ ⟨Nat.le_of_ble_eq_true rfl, Nat.le_of_ble_eq_true rfl⟩ rfl (Nat.le_of_ble_eq_true rfl) dX8_passes_26 (fun H locs h => ?_)
  refine lv_as (y := nI (B + 60 * (pc r q) + 3 * (pg r q) + 192)) (congrArg nI (by omega)) ?_
  refine lv_istore (lv' := [(5, .int (nI (B + 60 * (pc r q) + 3 * (pg r q) + 192))), (4, .int (nI (B + 5 * q + 84))), (0, .ref (ad 210)), (1, .int (nI B)), (2, .int (nI q)), (3, .int v)]) hx hb dX8_passes_29 hl (by decide) rfl (fun ls hl => ?_)
  refine lv_aload_n hx hb dX8_passes_31 rfl (lv_at hl 2 rfl) ?_
  refine fg_X8_7 X h dX8_passes_32 ?_
  refine lv_iload hx hb dX8_passes_35 (lv_at hl 1 rfl) ?_
  refine lv_iconst (v := nI 3) hx hb dX8_passes_37 (by decide) ?_
  refine lv_iadd hx hb dX8_passes_38 ?_
  refine lv_as (y := nI (B + 5 * q + 87)) (nI_addc (by omega)) ?_
  refine rs_ld X h B (5 * q + 87) (congrArg nI (by omega)) (by omega) dX8_passes_39 ?_
  refine lv_as (y := nI ((pk r q))) ((congrFun (RG_row G B r) _).trans (v7)) ?_
  refine lv_iconst (v := nI 2) hx hb dX8_passes_40 (by decide) ?_
  refine lv_icmp_ne (tgt := 48) hx hb dX8_passes_41 (by decide) (fun c_41 => ?_) (fun c_41 => ?_)
  · rw [nI_eq (by omega) (by omega)] at c_41
    refine lv_iconst (v := nI 0) hx hb dX8_passes_48 (by decide) ?_
    refine lv_istore (lv' := [(6, .int (nI 0)), (5, .int (nI (B + 60 * (pc r q) + 3 * (pg r q) + 192))), (4, .int (nI (B + 5 * q + 84))), (0, .ref (ad 210)), (1, .int (nI B)), (2, .int (nI q)), (3, .int v)]) hx hb dX8_passes_49 hl (by decide) rfl (fun ls hl => ?_)
    refine lv_aload_n hx hb dX8_passes_51 rfl (lv_at hl 3 rfl) ?_
    refine fg_X8_7 X h dX8_passes_52 ?_
    refine lv_iload hx hb dX8_passes_55 (lv_at hl 1 rfl) ?_
    refine lv_iload hx hb dX8_passes_57 (lv_at hl 0 rfl) ?_
    refine lv_if_eq (tgt := 67) hx hb dX8_passes_59 (by decide) (fun c_59 => ?_) (fun c_59 => absurd (by decide) c_59)
    refine lv_aload_n hx hb dX8_passes_67 rfl (lv_at hl 3 rfl) ?_
    refine fg_X8_7 X h dX8_passes_68 ?_
    refine lv_iload hx hb dX8_passes_71 (lv_at hl 2 rfl) ?_
    refine lv_iconst (v := nI 3) hx hb dX8_passes_73 (by decide) ?_
    refine lv_iadd hx hb dX8_passes_74 ?_
    refine lv_as (y := nI (B + 5 * q + 87)) (nI_addc (by omega)) ?_
    refine rs_ld X h B (5 * q + 87) (congrArg nI (by omega)) (by omega) dX8_passes_75 ?_
    refine lv_as (y := nI ((pk r q))) ((congrFun (RG_row G B r) _).trans (v7)) ?_
    refine rs_st X h (60 * (pc r q) + 3 * (pg r q) + 192) (congrArg nI (by omega)) (by omega) dX8_passes_76 (fun H locs h => ?_)
    refine lv_aload_n hx hb dX8_passes_77 rfl (lv_at hl 3 rfl) ?_
    refine fg_X8_7 X h dX8_passes_78 ?_
    refine lv_iload hx hb dX8_passes_81 (lv_at hl 1 rfl) ?_
    refine lv_iconst (v := nI 1) hx hb dX8_passes_83 (by decide) ?_
    refine lv_iadd hx hb dX8_passes_84 ?_
    refine lv_as (y := nI (B + 60 * (pc r q) + 3 * (pg r q) + 193)) (nI_addc (by omega)) ?_
    refine lv_iload_n hx hb dX8_passes_85 rfl (lv_at hl 6 rfl) ?_
    refine rs_st X h (60 * (pc r q) + 3 * (pg r q) + 193) (congrArg nI (by omega)) (by omega) dX8_passes_86 (fun H locs h => ?_)
    refine lv_aload_n hx hb dX8_passes_87 rfl (lv_at hl 3 rfl) ?_
    refine fg_X8_7 X h dX8_passes_88 ?_
    refine lv_iload hx hb dX8_passes_91 (lv_at hl 1 rfl) ?_
    refine lv_iconst (v := nI 2) hx hb dX8_passes_93 (by decide) ?_
    refine lv_iadd hx hb dX8_passes_94 ?_
    refine lv_as (y := nI (B + 60 * (pc r q) + 3 * (pg r q) + 194)) (nI_addc (by omega)) ?_
    refine lv_aload_n hx hb dX8_passes_95 rfl (lv_at hl 3 rfl) ?_
    refine fg_X8_7 X h dX8_passes_96 ?_
    refine lv_iload_n hx hb dX8_passes_99 rfl (lv_at hl 4 rfl) ?_
    refine lv_iconst (v := nI 3) hx hb dX8_passes_100 (by decide) ?_
    refine lv_iadd hx hb dX8_passes_101 ?_
    refine lv_as (y := nI (B + 3)) (nI_addc (by omega)) ?_
    refine rs_ld X h B (3) (congrArg nI (by omega)) (by omega) dX8_passes_102 ?_
    refine lv_as (y := r 3) ((congrFun (RG_row G B (upd (upd r (60 * (pc r q) + 3 * (pg r q) + 192) (nI ((pk r q)))) (60 * (pc r q) + 3 * (pg r q) + 193) v)) _).trans (by rw [upd_n (by omega), upd_n (by omega)])) ?_
    refine rs_st X h (60 * (pc r q) + 3 * (pg r q) + 194) (congrArg nI (by omega)) (by omega) dX8_passes_103 (fun H locs h => ?_)
    refine lv_aload_n hx hb dX8_passes_104 rfl (lv_at hl 3 rfl) ?_
    refine fg_X8_7 X h dX8_passes_105 ?_
    refine lv_iload_n hx hb dX8_passes_108 rfl (lv_at hl 4 rfl) ?_
    refine lv_bipush (v := nI 10) hx hb dX8_passes_109 (by decide) ?_
    refine lv_iadd hx hb dX8_passes_111 ?_
    refine lv_as (y := nI (B + 10)) (nI_addc (by omega)) ?_
    refine lv_dup2_11 hx hb dX8_passes_112 rfl rfl ?_
    refine rs_ld X h B (10) (congrArg nI (by omega)) (by omega) dX8_passes_113 ?_
    refine lv_as (y := r 10) ((congrFun (RG_row G B (upd (upd (upd r (60 * (pc r q) + 3 * (pg r q) + 192) (nI ((pk r q)))) (60 * (pc r q) + 3 * (pg r q) + 193) v) (60 * (pc r q) + 3 * (pg r q) + 194) (r 3))) _).trans (by rw [upd_n (by omega), upd_n (by omega), upd_n (by omega)])) ?_
    refine lv_iload hx hb dX8_passes_114 (lv_at hl 0 rfl) ?_
    refine rg_cisd (As := [.int (nI 0)]) (rest := [.int (r 10), .int (nI (B + 10)), .ref (ad 211)]) X hl.1 h (c_X8_flag0 l J z ad (RG G B (upd (upd (upd r (60 * (pc r q) + 3 * (pg r q) + 192) (nI ((pk r q)))) (60 * (pc r q) + 3 * (pg r q) + 193) v) (60 * (pc r q) + 3 * (pg r q) + 194) (r 3)))) mw_401 mw_402 mw_5 mw_403 pdX8_flag ⟨Nat.le_of_ble_eq_true rfl, Nat.le_of_ble_eq_true rfl⟩ ⟨Nat.le_of_ble_eq_true rfl, Nat.le_of_ble_eq_true rfl⟩ rfl (Nat.le_of_ble_eq_true rfl) dX8_passes_116 (fun H locs h => ?_)
    refine lv_iadd hx hb dX8_passes_119 ?_
    refine rs_st X h (10) (congrArg nI (by omega)) (by omega) dX8_passes_120 (fun H locs h => ?_)
    exact hret (RG G B (upd (upd (upd (upd r (60 * (pc r q) + 3 * (pg r q) + 192) (nI ((pk r q)))) (60 * (pc r q) + 3 * (pg r q) + 193) v) (60 * (pc r q) + 3 * (pg r q) + 194) (r 3)) 10 ((r 10) + (nI 0)))) _ _ 121 _ (by unfold psr; rw [if_neg c_41, b2_f c_41]; rfl) h dX8_passes_121
  · rw [nI_eq (by omega) (by omega)] at c_41
    refine lv_iconst (v := nI 1) hx hb dX8_passes_44 (by decide) ?_
    refine lv_goto (tgt := 49) hx hb dX8_passes_45 (by decide) ?_
    refine lv_istore (lv' := [(6, .int (nI 1)), (5, .int (nI (B + 60 * (pc r q) + 3 * (pg r q) + 192))), (4, .int (nI (B + 5 * q + 84))), (0, .ref (ad 210)), (1, .int (nI B)), (2, .int (nI q)), (3, .int v)]) hx hb dX8_passes_49 hl (by decide) rfl (fun ls hl => ?_)
    refine lv_aload_n hx hb dX8_passes_51 rfl (lv_at hl 3 rfl) ?_
    refine fg_X8_7 X h dX8_passes_52 ?_
    refine lv_iload hx hb dX8_passes_55 (lv_at hl 1 rfl) ?_
    refine lv_iload hx hb dX8_passes_57 (lv_at hl 0 rfl) ?_
    refine lv_if_eq (tgt := 67) hx hb dX8_passes_59 (by decide) (fun c_59 => absurd c_59 (by decide)) (fun c_59 => ?_)
    refine lv_bipush (v := (-5)) hx hb dX8_passes_62 (by decide) ?_
    refine lv_goto (tgt := 76) hx hb dX8_passes_64 (by decide) ?_
    refine rs_st X h (60 * (pc r q) + 3 * (pg r q) + 192) (congrArg nI (by omega)) (by omega) dX8_passes_76 (fun H locs h => ?_)
    refine lv_aload_n hx hb dX8_passes_77 rfl (lv_at hl 3 rfl) ?_
    refine fg_X8_7 X h dX8_passes_78 ?_
    refine lv_iload hx hb dX8_passes_81 (lv_at hl 1 rfl) ?_
    refine lv_iconst (v := nI 1) hx hb dX8_passes_83 (by decide) ?_
    refine lv_iadd hx hb dX8_passes_84 ?_
    refine lv_as (y := nI (B + 60 * (pc r q) + 3 * (pg r q) + 193)) (nI_addc (by omega)) ?_
    refine lv_iload_n hx hb dX8_passes_85 rfl (lv_at hl 6 rfl) ?_
    refine rs_st X h (60 * (pc r q) + 3 * (pg r q) + 193) (congrArg nI (by omega)) (by omega) dX8_passes_86 (fun H locs h => ?_)
    refine lv_aload_n hx hb dX8_passes_87 rfl (lv_at hl 3 rfl) ?_
    refine fg_X8_7 X h dX8_passes_88 ?_
    refine lv_iload hx hb dX8_passes_91 (lv_at hl 1 rfl) ?_
    refine lv_iconst (v := nI 2) hx hb dX8_passes_93 (by decide) ?_
    refine lv_iadd hx hb dX8_passes_94 ?_
    refine lv_as (y := nI (B + 60 * (pc r q) + 3 * (pg r q) + 194)) (nI_addc (by omega)) ?_
    refine lv_aload_n hx hb dX8_passes_95 rfl (lv_at hl 3 rfl) ?_
    refine fg_X8_7 X h dX8_passes_96 ?_
    refine lv_iload_n hx hb dX8_passes_99 rfl (lv_at hl 4 rfl) ?_
    refine lv_iconst (v := nI 3) hx hb dX8_passes_100 (by decide) ?_
    refine lv_iadd hx hb dX8_passes_101 ?_
    refine lv_as (y := nI (B + 3)) (nI_addc (by omega)) ?_
    refine rs_ld X h B (3) (congrArg nI (by omega)) (by omega) dX8_passes_102 ?_
    refine lv_as (y := r 3) ((congrFun (RG_row G B (upd (upd r (60 * (pc r q) + 3 * (pg r q) + 192) (-5)) (60 * (pc r q) + 3 * (pg r q) + 193) v)) _).trans (by rw [upd_n (by omega), upd_n (by omega)])) ?_
    refine rs_st X h (60 * (pc r q) + 3 * (pg r q) + 194) (congrArg nI (by omega)) (by omega) dX8_passes_103 (fun H locs h => ?_)
    refine lv_aload_n hx hb dX8_passes_104 rfl (lv_at hl 3 rfl) ?_
    refine fg_X8_7 X h dX8_passes_105 ?_
    refine lv_iload_n hx hb dX8_passes_108 rfl (lv_at hl 4 rfl) ?_
    refine lv_bipush (v := nI 10) hx hb dX8_passes_109 (by decide) ?_
    refine lv_iadd hx hb dX8_passes_111 ?_
    refine lv_as (y := nI (B + 10)) (nI_addc (by omega)) ?_
    refine lv_dup2_11 hx hb dX8_passes_112 rfl rfl ?_
    refine rs_ld X h B (10) (congrArg nI (by omega)) (by omega) dX8_passes_113 ?_
    refine lv_as (y := r 10) ((congrFun (RG_row G B (upd (upd (upd r (60 * (pc r q) + 3 * (pg r q) + 192) (-5)) (60 * (pc r q) + 3 * (pg r q) + 193) v) (60 * (pc r q) + 3 * (pg r q) + 194) (r 3))) _).trans (by rw [upd_n (by omega), upd_n (by omega), upd_n (by omega)])) ?_
    refine lv_iload hx hb dX8_passes_114 (lv_at hl 0 rfl) ?_
    refine rg_cisd (As := [.int (nI 1)]) (rest := [.int (r 10), .int (nI (B + 10)), .ref (ad 211)]) X hl.1 h (c_X8_flag1 l J z ad (RG G B (upd (upd (upd r (60 * (pc r q) + 3 * (pg r q) + 192) (-5)) (60 * (pc r q) + 3 * (pg r q) + 193) v) (60 * (pc r q) + 3 * (pg r q) + 194) (r 3)))) mw_401 mw_402 mw_5 mw_403 pdX8_flag ⟨Nat.le_of_ble_eq_true rfl, Nat.le_of_ble_eq_true rfl⟩ ⟨Nat.le_of_ble_eq_true rfl, Nat.le_of_ble_eq_true rfl⟩ rfl (Nat.le_of_ble_eq_true rfl) dX8_passes_116 (fun H locs h => ?_)
    refine lv_iadd hx hb dX8_passes_119 ?_
    refine rs_st X h (10) (congrArg nI (by omega)) (by omega) dX8_passes_120 (fun H locs h => ?_)
    exact hret (RG G B (upd (upd (upd (upd r (60 * (pc r q) + 3 * (pg r q) + 192) (-5)) (60 * (pc r q) + 3 * (pg r q) + 193) v) (60 * (pc r q) + 3 * (pg r q) + 194) (r 3)) 10 ((r 10) + (nI 1)))) _ _ 121 _ (by unfold psr; rw [if_pos c_41, b2_t c_41]; rfl) h dX8_passes_121
