set_option maxHeartbeats 4000000 in
set_option maxRecDepth 100000 in
theorem c_X8_hears (l : Launch) (J : JJ) (z : Nat) (ad : Nat → Nat) (G : GG) (r : Nat → Int32) (B : Nat) (hB : B ≤ 4284) (hW : WR r) : MI l J z ad yX8_hears cX8_hears 9 .int 3 [.ref (ad 210), .int (nI B)] (RG G B r) (fun ans uG => ∃ (og : Nat → Int32) (σ : Nat → Nat), OrdS (supp r) (mn r) σ ∧ ans = nI (hear r (G 214) σ (mn r)).2.1 ∧ uG = RG (u1 (u1 G 213 og) 214 (hear r (G 214) σ (mn r)).2.2) B (hrow r (G 214) σ)) := by
  refine MI.go (by decide) (Nat.le_of_ble_eq_true rfl) ?_
  intro pr e s m args below meth c ls Q X h hl hret
  have hx := X.1
  have hb := X.2.1
  have hown := X.2.2.2.1
  have hts := X.2.2.2.2
  have hl : lv_has ls 9 [(0, .ref (ad 210)), (1, .int (nI B))] := hl
  have hW0 := hW
  have hn12 : mn r ≤ 12 := hW.2.1.2
  have w3 : r 6 = nI (mn r) := hW.2.1.1
  refine lv_aload_n hx hb dX8_hears_0 rfl (lv_at hl 0 rfl) ?_
  refine fg_X8_7 X h dX8_hears_1 ?_
  refine lv_iload_n hx hb dX8_hears_4 rfl (lv_at hl 1 rfl) ?_
  refine lv_bipush (v := nI 6) hx hb dX8_hears_5 (by decide) ?_
  refine lv_iadd hx hb dX8_hears_7 ?_
  refine lv_as (y := nI (B + 6)) (nI_addc (by omega)) ?_
  refine rs_ld X h B (6) (congrArg nI (by omega)) (by omega) dX8_hears_8 ?_
  refine lv_as (y := nI ((mn r))) ((congrFun (RG_row G B r) _).trans (w3)) ?_
  refine lv_istore_n (lv' := [(2, .int (nI ((mn r)))), (0, .ref (ad 210)), (1, .int (nI B))]) hx hb dX8_hears_9 rfl hl (by decide) rfl (fun ls hl => ?_)
  refine lv_iconst (v := nI 0) hx hb dX8_hears_10 (by decide) ?_
  refine lv_istore_n (lv' := [(3, .int (nI 0)), (2, .int (nI ((mn r)))), (0, .ref (ad 210)), (1, .int (nI B))]) hx hb dX8_hears_11 rfl hl (by decide) rfl (fun ls hl => ?_)
  refine lv_aload_n hx hb dX8_hears_12 rfl (lv_at hl 2 rfl) ?_
  refine lv_iload_n hx hb dX8_hears_13 rfl (lv_at hl 3 rfl) ?_
  refine rg_cvv (As := [.int (nI B)]) (rest := []) X hl.1 h (c_X8_sorts l J z ad G r B hB hW0) mw_378 mw_379 mw_380 mw_5 mw_381 pdX8_sorts (by decide) (xo_210 J ad _) rfl rfl ⟨Nat.le_of_ble_eq_true rfl, Nat.le_of_ble_eq_true rfl⟩ ⟨Nat.le_of_ble_eq_true rfl, Nat.le_of_ble_eq_true rfl⟩ rfl (Nat.le_of_ble_eq_true rfl) dX8_hears_14 (fun G1 H locs q1 h => ?_)
  obtain ⟨og, σ, rfl, hO, ho⟩ := q1
  have hu : u1 (u1 G 213 og) 214 (G 214) = u1 G 213 og := by
    have e : G 214 = (u1 G 213 og) 214 := (u1_n (by decide)).symm
    rw [e, u1_self]
  rw [← hu] at h
  refine lv_iconst (v := nI 0) hx hb dX8_hears_17 (by decide) ?_
  refine lv_istore (lv' := [(4, .int (nI 0)), (3, .int (nI 0)), (2, .int (nI ((mn r)))), (0, .ref (ad 210)), (1, .int (nI B))]) hx hb dX8_hears_18 hl (by decide) rfl (fun ls hl => ?_)
  have LP : ∀ (n i : Nat), mn r + 1 ≤ i + n → i ≤ mn r → ∀ (x : Nat → Int32) (cN : Nat) (g : Nat → Int32), hear r (G 214) σ i = (x, cN, g) → ∀ (H : Heap) (locs : List Loc) (ls : Array Slot), HG J z ad s (RG (u1 (u1 G 213 og) 214 g) B x) H locs → lv_has ls 9 [(0, .ref (ad 210)), (1, .int (nI B)), (2, .int (nI ((mn r)))), (3, .int (nI cN)), (4, .int (nI i))] → W pr l e (rmD 3 0 0) s m args below meth c H locs 0 0 Q (F0 m 20 ls []) := by
    intro n
    induction n with
    | zero =>
      intro i g1 g2
      exact absurd g1 (by omega)
    | succ n ih =>
      intro i g1 g2 x cN g hE H locs ls h hl
      obtain ⟨hLe, hc⟩ := hear_ok hE
      have hWx := hLe.WR hW0
      have hmx := hLe.mn
      refine lv_iload hx hb dX8_hears_20 (lv_at hl 4 rfl) ?_
      refine lv_iload_n hx hb dX8_hears_22 rfl (lv_at hl 2 rfl) ?_
      refine lv_icmp_ge (tgt := 87) hx hb dX8_hears_23 (by decide) (fun c_23 => ?_) (fun c_23 => ?_)
      · rw [nI_leI (by omega) (by omega)] at c_23
        refine lv_aload_n hx hb dX8_hears_87 rfl (lv_at hl 0 rfl) ?_
        refine fg_X8_7 X h dX8_hears_88 ?_
        refine lv_iload_n hx hb dX8_hears_91 rfl (lv_at hl 1 rfl) ?_
        refine lv_bipush (v := nI 11) hx hb dX8_hears_92 (by decide) ?_
        refine lv_iadd hx hb dX8_hears_94 ?_
        refine lv_as (y := nI (B + 11)) (nI_addc (by omega)) ?_
        refine lv_iconst (v := nI 0) hx hb dX8_hears_95 (by decide) ?_
        refine rs_st X h (11) (congrArg nI (by omega)) (by omega) dX8_hears_96 (fun H locs h => ?_)
        refine lv_iconst (v := nI 0) hx hb dX8_hears_97 (by decide) ?_
        refine lv_istore (lv' := [(4, .int (nI 0)), (0, .ref (ad 210)), (1, .int (nI B)), (2, .int (nI ((mn r)))), (3, .int (nI cN))]) hx hb dX8_hears_98 hl (by decide) rfl (fun ls hl => ?_)
        have hi : i = mn r := by omega
        rw [hi] at hE
        have LP2 : ∀ (n t : Nat), mn r + 1 ≤ t + n → t ≤ mn r → ∀ (y : Nat → Int32), ests x g t = y → ∀ (H : Heap) (locs : List Loc) (ls : Array Slot), HG J z ad s (RG (u1 (u1 G 213 og) 214 g) B y) H locs → lv_has ls 9 [(0, .ref (ad 210)), (1, .int (nI B)), (2, .int (nI ((mn r)))), (3, .int (nI cN)), (4, .int (nI t))] → W pr l e (rmD 3 0 0) s m args below meth c H locs 0 0 Q (F0 m 100 ls []) := by
          intro n
          induction n with
          | zero =>
            intro t g1 g2
            exact absurd g1 (by omega)
          | succ n ih2 =>
            intro t g3 g4 y hy H locs ls h hl
            subst hy
            obtain ⟨hEy, o, ho1, ho2⟩ := ests_ok (f := g) hWx (n := t) (by omega)
            have hWy := hEy.WR hWx ⟨o, by omega, ho2⟩
            have hmy := hEy.mn
            have hoy : on (ests x g t) ≤ t := by show tn _ ≤ t; rw [ho2, tn_nI (by omega)]; exact ho1
            obtain ⟨y, hy⟩ : ∃ y, y = ests x g t := ⟨_, rfl⟩
            rw [← hy] at h hEy hWy hmy hoy
            have hWy0 := hWy
            obtain ⟨⟨w1, w2⟩, ⟨-, w4⟩, ⟨w5, w6⟩, w7, w8⟩ := hWy0
            refine lv_iload hx hb dX8_hears_100 (lv_at hl 4 rfl) ?_
            refine lv_iload_n hx hb dX8_hears_102 rfl (lv_at hl 2 rfl) ?_
            refine lv_icmp_ge (tgt := 277) hx hb dX8_hears_103 (by decide) (fun c_103 => ?_) (fun c_103 => ?_)
            · rw [nI_leI (by omega) (by omega)] at c_103
              rw [show t = mn r by omega] at hy
              rw [hy] at h
              refine lv_aload_n hx hb dX8_hears_277 rfl (lv_at hl 0 rfl) ?_
              refine fg_X8_7 X h dX8_hears_278 ?_
              refine lv_iload_n hx hb dX8_hears_281 rfl (lv_at hl 1 rfl) ?_
              refine lv_bipush (v := nI 8) hx hb dX8_hears_282 (by decide) ?_
              refine lv_iadd hx hb dX8_hears_284 ?_
              refine lv_as (y := nI (B + 8)) (nI_addc (by omega)) ?_
              refine lv_dup2_11 hx hb dX8_hears_285 rfl rfl ?_
              refine rs_ld X h B (8) (congrArg nI (by omega)) (by omega) dX8_hears_286 ?_
              refine lv_as (y := (ests x g (mn r)) 8) (congrFun (RG_row (u1 (u1 G 213 og) 214 g) B (ests x g (mn r))) _) ?_
              refine lv_iload_n hx hb dX8_hears_287 rfl (lv_at hl 3 rfl) ?_
              refine lv_iadd hx hb dX8_hears_288 ?_
              refine rs_st X h (8) (congrArg nI (by omega)) (by omega) dX8_hears_289 (fun H locs h => ?_)
              refine lv_aload_n hx hb dX8_hears_290 rfl (lv_at hl 0 rfl) ?_
              refine fg_X8_7 X h dX8_hears_291 ?_
              refine lv_iload_n hx hb dX8_hears_294 rfl (lv_at hl 1 rfl) ?_
              refine lv_bipush (v := nI 9) hx hb dX8_hears_295 (by decide) ?_
              refine lv_iadd hx hb dX8_hears_297 ?_
              refine lv_as (y := nI (B + 9)) (nI_addc (by omega)) ?_
              refine lv_dup2_11 hx hb dX8_hears_298 rfl rfl ?_
              refine rs_ld X h B (9) (congrArg nI (by omega)) (by omega) dX8_hears_299 ?_
              refine lv_as (y := (ests x g (mn r)) 9) ((congrFun (RG_row (u1 (u1 G 213 og) 214 g) B (upd (ests x g (mn r)) 8 (((ests x g (mn r)) 8) + (nI cN)))) _).trans (by rw [upd_n (by omega)])) ?_
              refine lv_iload_n hx hb dX8_hears_300 rfl (lv_at hl 2 rfl) ?_
              refine lv_iload_n hx hb dX8_hears_301 rfl (lv_at hl 3 rfl) ?_
              refine lv_isub hx hb dX8_hears_302 ?_
              refine lv_iadd hx hb dX8_hears_303 ?_
              refine rs_st X h (9) (congrArg nI (by omega)) (by omega) dX8_hears_304 (fun H locs h => ?_)
              refine lv_iload_n hx hb dX8_hears_305 rfl (lv_at hl 3 rfl) ?_
              exact hret (nI cN) (RG (u1 (u1 G 213 og) 214 g) B (upd (upd (ests x g (mn r)) 8 (((ests x g (mn r)) 8) + (nI cN))) 9 (((ests x g (mn r)) 9) + ((nI ((mn r))) - (nI cN))))) _ _ 306 _ (⟨og, σ, hO, by rw [hE], by unfold hrow; rw [hE]⟩) h dX8_hears_306
            · rw [nI_leI (by omega) (by omega)] at c_103
              obtain ⟨v1, v2, v3, v4, v5, v6, v7, v8⟩ := w7 t (by omega)
              refine lv_iload_n hx hb dX8_hears_106 rfl (lv_at hl 1 rfl) ?_
              refine lv_iload hx hb dX8_hears_107 (lv_at hl 4 rfl) ?_
              refine rg_cisd (As := [.int (nI B), .int (nI t)]) (rest := []) X hl.1 h (c_X8_petitionAt l J z ad (RG (u1 (u1 G 213 og) 214 g) B y) B t) mw_261 mw_262 mw_5 mw_263 pdX8_petitionAt ⟨Nat.le_of_ble_eq_true rfl, Nat.le_of_ble_eq_true rfl⟩ ⟨Nat.le_of_ble_eq_true rfl, Nat.le_of_ble_eq_true rfl⟩ rfl (Nat.le_of_ble_eq_true rfl) dX8_hears_109 (fun H locs h => ?_)
              refine lv_as (y := nI (B + 5 * t + 84)) (congrArg nI (by omega)) ?_
              refine lv_istore (lv' := [(5, .int (nI (B + 5 * t + 84))), (0, .ref (ad 210)), (1, .int (nI B)), (2, .int (nI ((mn r)))), (3, .int (nI cN)), (4, .int (nI t))]) hx hb dX8_hears_112 hl (by decide) rfl (fun ls hl => ?_)
              refine lv_iload_n hx hb dX8_hears_114 rfl (lv_at hl 2 rfl) ?_
              refine lv_aload_n hx hb dX8_hears_115 rfl (lv_at hl 1 rfl) ?_
              refine fg_X8_7 X h dX8_hears_116 ?_
              refine lv_iload hx hb dX8_hears_119 (lv_at hl 0 rfl) ?_
              refine rs_ld X h B (5 * t + 84) (congrArg nI (by omega)) (by omega) dX8_hears_121 ?_
              refine lv_as (y := nI ((pd y t))) ((congrFun (RG_row (u1 (u1 G 213 og) 214 g) B y) _).trans (v1)) ?_
              refine rg_cisd (As := [.int (nI B), .int (nI ((pd y t)))]) (rest := []) X hl.1 h (c_X8_droneAt l J z ad (RG (u1 (u1 G 213 og) 214 g) B y) B (pd y t)) mw_190 mw_191 mw_5 mw_192 pdX8_droneAt ⟨Nat.le_of_ble_eq_true rfl, Nat.le_of_ble_eq_true rfl⟩ ⟨Nat.le_of_ble_eq_true rfl, Nat.le_of_ble_eq_true rfl⟩ rfl (Nat.le_of_ble_eq_true rfl) dX8_hears_122 (fun H locs h => ?_)
              refine lv_as (y := nI (B + 6 * (pd y t) + 12)) (congrArg nI (by omega)) ?_
              refine lv_istore (lv' := [(6, .int (nI (B + 6 * (pd y t) + 12))), (5, .int (nI (B + 5 * t + 84))), (0, .ref (ad 210)), (1, .int (nI B)), (2, .int (nI ((mn r)))), (3, .int (nI cN)), (4, .int (nI t))]) hx hb dX8_hears_125 hl (by decide) rfl (fun ls hl => ?_)
              refine lv_aload_n hx hb dX8_hears_127 rfl (lv_at hl 2 rfl) ?_
              refine fg_X8_26 X h dX8_hears_128 ?_
              refine lv_iload hx hb dX8_hears_131 (lv_at hl 6 rfl) ?_
              refine rg_ild X h 214 (by decide) (xa_214 J ad) (t) rfl (by omega) (by decide) dX8_hears_133 ?_
              refine lv_as (y := (u1 (u1 G 213 og) 214 g) 214 t) (RG_get (by decide)) ?_
              refine lv_as (y := g t) (rfl) ?_
              refine lv_if_le (tgt := 141) hx hb dX8_hears_134 (by decide) (fun c_134 => ?_) (fun c_134 => ?_)
              · refine lv_iconst (v := nI 0) hx hb dX8_hears_141 (by decide) ?_
                refine lv_istore (lv' := [(7, .int (nI 0)), (6, .int (nI (B + 6 * (pd y t) + 12))), (5, .int (nI (B + 5 * t + 84))), (0, .ref (ad 210)), (1, .int (nI B)), (2, .int (nI ((mn r)))), (3, .int (nI cN)), (4, .int (nI t))]) hx hb dX8_hears_142 hl (by decide) rfl (fun ls hl => ?_)
                refine lv_aload_n hx hb dX8_hears_144 rfl (lv_at hl 3 rfl) ?_
                refine fg_X8_7 X h dX8_hears_145 ?_
                refine lv_iload hx hb dX8_hears_148 (lv_at hl 1 rfl) ?_
                refine lv_iload hx hb dX8_hears_150 (lv_at hl 0 rfl) ?_
                refine lv_if_eq (tgt := 159) hx hb dX8_hears_152 (by decide) (fun c_152 => ?_) (fun c_152 => absurd (by decide) c_152)
                refine lv_iconst (v := nI 4) hx hb dX8_hears_159 (by decide) ?_
                refine lv_iadd hx hb dX8_hears_160 ?_
                refine lv_as (y := nI (B + 6 * (pd y t) + 16)) (nI_addc (by omega)) ?_
                refine lv_dup2_11 hx hb dX8_hears_161 rfl rfl ?_
                refine rs_ld X h B (6 * (pd y t) + 16) (congrArg nI (by omega)) (by omega) dX8_hears_162 ?_
                refine lv_as (y := y (6 * (pd y t) + 16)) (congrFun (RG_row (u1 (u1 G 213 og) 214 g) B y) _) ?_
                refine lv_iconst (v := nI 1) hx hb dX8_hears_163 (by decide) ?_
                refine lv_iadd hx hb dX8_hears_164 ?_
                refine rs_st X h (6 * (pd y t) + 16) (congrArg nI (by omega)) (by omega) dX8_hears_165 (fun H locs h => ?_)
                refine lv_iload hx hb dX8_hears_166 (lv_at hl 0 rfl) ?_
                refine lv_if_eq (tgt := 271) hx hb dX8_hears_168 (by decide) (fun c_168 => ?_) (fun c_168 => absurd (by decide) c_168)
                refine lv_iinc (v := nI (t + 1)) (lv' := [(4, .int (nI (t + 1))), (7, .int (nI 0)), (6, .int (nI (B + 6 * (pd y t) + 12))), (5, .int (nI (B + 5 * t + 84))), (0, .ref (ad 210)), (1, .int (nI B)), (2, .int (nI ((mn r)))), (3, .int (nI cN))]) hx hb dX8_hears_271 hl (k := 7) rfl (nI_addc (b := 1) (by omega)) (by decide) rfl (fun ls hl => ?_)
                refine lv_goto (tgt := 100) hx hb dX8_hears_274 (by decide) ?_
                have hst : est g t y = upd y (6 * (pd y t) + 16) ((y (6 * (pd y t) + 16)) + (nI 1)) := by
                  unfold est
                  rw [if_neg (Int32.not_lt.mpr c_134)]
                rw [← hst] at h
                exact ih2 (t + 1) (by omega) (by omega) (est g t y) (by rw [hy]; rfl) _ _ _ h (lv_sub hl [4, 5, 6, 7, 0] rfl)
              · refine lv_iconst (v := nI 1) hx hb dX8_hears_137 (by decide) ?_
                refine lv_goto (tgt := 142) hx hb dX8_hears_138 (by decide) ?_
                refine lv_istore (lv' := [(7, .int (nI 1)), (6, .int (nI (B + 6 * (pd y t) + 12))), (5, .int (nI (B + 5 * t + 84))), (0, .ref (ad 210)), (1, .int (nI B)), (2, .int (nI ((mn r)))), (3, .int (nI cN)), (4, .int (nI t))]) hx hb dX8_hears_142 hl (by decide) rfl (fun ls hl => ?_)
                refine lv_aload_n hx hb dX8_hears_144 rfl (lv_at hl 3 rfl) ?_
                refine fg_X8_7 X h dX8_hears_145 ?_
                refine lv_iload hx hb dX8_hears_148 (lv_at hl 1 rfl) ?_
                refine lv_iload hx hb dX8_hears_150 (lv_at hl 0 rfl) ?_
                refine lv_if_eq (tgt := 159) hx hb dX8_hears_152 (by decide) (fun c_152 => absurd c_152 (by decide)) (fun c_152 => ?_)
                refine lv_iconst (v := nI 5) hx hb dX8_hears_155 (by decide) ?_
                refine lv_goto (tgt := 160) hx hb dX8_hears_156 (by decide) ?_
                refine lv_iadd hx hb dX8_hears_160 ?_
                refine lv_as (y := nI (B + 6 * (pd y t) + 17)) (nI_addc (by omega)) ?_
                refine lv_dup2_11 hx hb dX8_hears_161 rfl rfl ?_
                refine rs_ld X h B (6 * (pd y t) + 17) (congrArg nI (by omega)) (by omega) dX8_hears_162 ?_
                refine lv_as (y := y (6 * (pd y t) + 17)) (congrFun (RG_row (u1 (u1 G 213 og) 214 g) B y) _) ?_
                refine lv_iconst (v := nI 1) hx hb dX8_hears_163 (by decide) ?_
                refine lv_iadd hx hb dX8_hears_164 ?_
                refine rs_st X h (6 * (pd y t) + 17) (congrArg nI (by omega)) (by omega) dX8_hears_165 (fun H locs h => ?_)
                refine lv_iload hx hb dX8_hears_166 (lv_at hl 0 rfl) ?_
                refine lv_if_eq (tgt := 271) hx hb dX8_hears_168 (by decide) (fun c_168 => absurd c_168 (by decide)) (fun c_168 => ?_)
                refine lv_iload_n hx hb dX8_hears_171 rfl (lv_at hl 4 rfl) ?_
                refine lv_sipush (v := nI 144) hx hb dX8_hears_172 (by decide) ?_
                refine lv_iadd hx hb dX8_hears_175 ?_
                refine lv_as (y := nI (B + 144)) (nI_addc (by omega)) ?_
                refine lv_iconst (v := nI 4) hx hb dX8_hears_176 (by decide) ?_
                refine lv_aload_n hx hb dX8_hears_177 rfl (lv_at hl 3 rfl) ?_
                refine fg_X8_7 X h dX8_hears_178 ?_
                refine lv_iload_n hx hb dX8_hears_181 rfl (lv_at hl 4 rfl) ?_
                refine lv_bipush (v := nI 11) hx hb dX8_hears_182 (by decide) ?_
                refine lv_iadd hx hb dX8_hears_184 ?_
                refine lv_as (y := nI (B + 11)) (nI_addc (by omega)) ?_
                refine rs_ld X h B (11) (congrArg nI (by omega)) (by omega) dX8_hears_185 ?_
                refine lv_as (y := nI ((on y))) (((congrFun (RG_row (u1 (u1 G 213 og) 214 g) B (upd y (6 * (pd y t) + 17) ((y (6 * (pd y t) + 17)) + (nI 1)))) _).trans (by rw [upd_n (by omega)])).trans (w5)) ?_
                refine lv_imul hx hb dX8_hears_186 ?_
                refine lv_as (y := nI (4 * (on y))) (nI_mulc (by omega)) ?_
                refine lv_iadd hx hb dX8_hears_187 ?_
                refine lv_as (y := nI (B + 4 * (on y) + 144)) (nI_addc (by omega)) ?_
                refine lv_istore (lv' := [(8, .int (nI (B + 4 * (on y) + 144))), (7, .int (nI 1)), (6, .int (nI (B + 6 * (pd y t) + 12))), (5, .int (nI (B + 5 * t + 84))), (0, .ref (ad 210)), (1, .int (nI B)), (2, .int (nI ((mn r)))), (3, .int (nI cN)), (4, .int (nI t))]) hx hb dX8_hears_188 hl (by decide) rfl (fun ls hl => ?_)
                refine lv_aload_n hx hb dX8_hears_190 rfl (lv_at hl 4 rfl) ?_
                refine fg_X8_7 X h dX8_hears_191 ?_
                refine lv_iload hx hb dX8_hears_194 (lv_at hl 0 rfl) ?_
                refine lv_aload_n hx hb dX8_hears_196 rfl (lv_at hl 4 rfl) ?_
                refine fg_X8_7 X h dX8_hears_197 ?_
                refine lv_iload hx hb dX8_hears_200 (lv_at hl 3 rfl) ?_
                refine lv_iconst (v := nI 1) hx hb dX8_hears_202 (by decide) ?_
                refine lv_iadd hx hb dX8_hears_203 ?_
                refine lv_as (y := nI (B + 5 * t + 85)) (nI_addc (by omega)) ?_
                refine rs_ld X h B (5 * t + 85) (congrArg nI (by omega)) (by omega) dX8_hears_204 ?_
                refine lv_as (y := nI ((pc y t))) (((congrFun (RG_row (u1 (u1 G 213 og) 214 g) B (upd y (6 * (pd y t) + 17) ((y (6 * (pd y t) + 17)) + (nI 1)))) _).trans (by rw [upd_n (by omega)])).trans (v3)) ?_
                refine rs_st X h (4 * (on y) + 144) (congrArg nI (by omega)) (by omega) dX8_hears_205 (fun H locs h => ?_)
                refine lv_aload_n hx hb dX8_hears_206 rfl (lv_at hl 4 rfl) ?_
                refine fg_X8_7 X h dX8_hears_207 ?_
                refine lv_iload hx hb dX8_hears_210 (lv_at hl 0 rfl) ?_
                refine lv_iconst (v := nI 1) hx hb dX8_hears_212 (by decide) ?_
                refine lv_iadd hx hb dX8_hears_213 ?_
                refine lv_as (y := nI (B + 4 * (on y) + 145)) (nI_addc (by omega)) ?_
                refine lv_aload_n hx hb dX8_hears_214 rfl (lv_at hl 4 rfl) ?_
                refine fg_X8_7 X h dX8_hears_215 ?_
                refine lv_iload hx hb dX8_hears_218 (lv_at hl 3 rfl) ?_
                refine lv_iconst (v := nI 2) hx hb dX8_hears_220 (by decide) ?_
                refine lv_iadd hx hb dX8_hears_221 ?_
                refine lv_as (y := nI (B + 5 * t + 86)) (nI_addc (by omega)) ?_
                refine rs_ld X h B (5 * t + 86) (congrArg nI (by omega)) (by omega) dX8_hears_222 ?_
                refine lv_as (y := nI ((pg y t))) (((congrFun (RG_row (u1 (u1 G 213 og) 214 g) B (upd (upd y (6 * (pd y t) + 17) ((y (6 * (pd y t) + 17)) + (nI 1))) (4 * (on y) + 144) (nI ((pc y t))))) _).trans (by rw [upd_n (by omega), upd_n (by omega)])).trans (v5)) ?_
                refine rs_st X h (4 * (on y) + 145) (congrArg nI (by omega)) (by omega) dX8_hears_223 (fun H locs h => ?_)
                refine lv_aload_n hx hb dX8_hears_224 rfl (lv_at hl 4 rfl) ?_
                refine fg_X8_7 X h dX8_hears_225 ?_
                refine lv_iload hx hb dX8_hears_228 (lv_at hl 0 rfl) ?_
                refine lv_iconst (v := nI 2) hx hb dX8_hears_230 (by decide) ?_
                refine lv_iadd hx hb dX8_hears_231 ?_
                refine lv_as (y := nI (B + 4 * (on y) + 146)) (nI_addc (by omega)) ?_
                refine lv_aload_n hx hb dX8_hears_232 rfl (lv_at hl 4 rfl) ?_
                refine fg_X8_7 X h dX8_hears_233 ?_
                refine lv_iload hx hb dX8_hears_236 (lv_at hl 3 rfl) ?_
                refine lv_iconst (v := nI 3) hx hb dX8_hears_238 (by decide) ?_
                refine lv_iadd hx hb dX8_hears_239 ?_
                refine lv_as (y := nI (B + 5 * t + 87)) (nI_addc (by omega)) ?_
                refine rs_ld X h B (5 * t + 87) (congrArg nI (by omega)) (by omega) dX8_hears_240 ?_
                refine lv_as (y := nI ((pk y t))) (((congrFun (RG_row (u1 (u1 G 213 og) 214 g) B (upd (upd (upd y (6 * (pd y t) + 17) ((y (6 * (pd y t) + 17)) + (nI 1))) (4 * (on y) + 144) (nI ((pc y t)))) (4 * (on y) + 145) (nI ((pg y t))))) _).trans (by rw [upd_n (by omega), upd_n (by omega), upd_n (by omega)])).trans (v7)) ?_
                refine rs_st X h (4 * (on y) + 146) (congrArg nI (by omega)) (by omega) dX8_hears_241 (fun H locs h => ?_)
                refine lv_aload_n hx hb dX8_hears_242 rfl (lv_at hl 4 rfl) ?_
                refine fg_X8_7 X h dX8_hears_243 ?_
                refine lv_iload hx hb dX8_hears_246 (lv_at hl 0 rfl) ?_
                refine lv_iconst (v := nI 3) hx hb dX8_hears_248 (by decide) ?_
                refine lv_iadd hx hb dX8_hears_249 ?_
                refine lv_as (y := nI (B + 4 * (on y) + 147)) (nI_addc (by omega)) ?_
                refine lv_aload_n hx hb dX8_hears_250 rfl (lv_at hl 4 rfl) ?_
                refine lv_iload_n hx hb dX8_hears_251 rfl (lv_at hl 5 rfl) ?_
                refine lv_iload hx hb dX8_hears_252 (lv_at hl 8 rfl) ?_
                have hEs : EstEq y (upd (upd (upd (upd y (6 * (pd y t) + 17) ((y (6 * (pd y t) + 17)) + (nI 1))) (4 * (on y) + 144) (nI ((pc y t)))) (4 * (on y) + 145) (nI ((pg y t)))) (4 * (on y) + 146) (nI ((pk y t)))) := by
                  intro k hk
                  rw [upd_n (by omega), upd_n (by omega), upd_n (by omega), upd_n (by omega)]
                have hWs := hEs.WR hWy ⟨on y, by omega, by rw [upd_n (by omega), upd_n (by omega), upd_n (by omega), upd_n (by omega)]; exact w5⟩
                have hqs : t < mn (upd (upd (upd (upd y (6 * (pd y t) + 17) ((y (6 * (pd y t) + 17)) + (nI 1))) (4 * (on y) + 144) (nI ((pc y t)))) (4 * (on y) + 145) (nI ((pg y t)))) (4 * (on y) + 146) (nI ((pk y t)))) := by rw [hEs.mn, hmy]; omega
                refine rg_civd (As := [.int (nI B), .int (nI t)]) (rest := [.int (nI (B + 4 * (on y) + 147)), .ref (ad 211)]) X hl.1 h (c_X8_support l J z ad (RG (u1 (u1 G 213 og) 214 g) B (upd (upd (upd (upd y (6 * (pd y t) + 17) ((y (6 * (pd y t) + 17)) + (nI 1))) (4 * (on y) + 144) (nI ((pc y t)))) (4 * (on y) + 145) (nI ((pg y t)))) (4 * (on y) + 146) (nI ((pk y t))))) (upd (upd (upd (upd y (6 * (pd y t) + 17) ((y (6 * (pd y t) + 17)) + (nI 1))) (4 * (on y) + 144) (nI ((pc y t)))) (4 * (on y) + 145) (nI ((pg y t)))) (4 * (on y) + 146) (nI ((pk y t)))) B hB (RG_row (u1 (u1 G 213 og) 214 g) B _) hWs t hqs) mw_291 mw_292 mw_293 mw_5 mw_294 pdX8_support (by decide) (xo_210 J ad _) rfl rfl ⟨Nat.le_of_ble_eq_true rfl, Nat.le_of_ble_eq_true rfl⟩ ⟨Nat.le_of_ble_eq_true rfl, Nat.le_of_ble_eq_true rfl⟩ rfl (Nat.le_of_ble_eq_true rfl) dX8_hears_254 (fun H locs h => ?_)
                refine lv_as (y := supp y t) (hEs.supp hWy (by omega)) ?_
                refine rs_st X h (4 * (on y) + 147) (congrArg nI (by omega)) (by omega) dX8_hears_257 (fun H locs h => ?_)
                refine lv_aload_n hx hb dX8_hears_258 rfl (lv_at hl 4 rfl) ?_
                refine fg_X8_7 X h dX8_hears_259 ?_
                refine lv_iload_n hx hb dX8_hears_262 rfl (lv_at hl 5 rfl) ?_
                refine lv_bipush (v := nI 11) hx hb dX8_hears_263 (by decide) ?_
                refine lv_iadd hx hb dX8_hears_265 ?_
                refine lv_as (y := nI (B + 11)) (nI_addc (by omega)) ?_
                refine lv_dup2_11 hx hb dX8_hears_266 rfl rfl ?_
                refine rs_ld X h B (11) (congrArg nI (by omega)) (by omega) dX8_hears_267 ?_
                refine lv_as (y := nI ((on y))) (((congrFun (RG_row (u1 (u1 G 213 og) 214 g) B (upd (upd (upd (upd (upd y (6 * (pd y t) + 17) ((y (6 * (pd y t) + 17)) + (nI 1))) (4 * (on y) + 144) (nI ((pc y t)))) (4 * (on y) + 145) (nI ((pg y t)))) (4 * (on y) + 146) (nI ((pk y t)))) (4 * (on y) + 147) (supp y t))) _).trans (by rw [upd_n (by omega), upd_n (by omega), upd_n (by omega), upd_n (by omega), upd_n (by omega)])).trans (w5)) ?_
                refine lv_iconst (v := nI 1) hx hb dX8_hears_268 (by decide) ?_
                refine lv_iadd hx hb dX8_hears_269 ?_
                refine lv_as (y := nI ((on y) + 1)) (nI_addc (by omega)) ?_
                refine rs_st X h (11) (congrArg nI (by omega)) (by omega) dX8_hears_270 (fun H locs h => ?_)
                refine lv_iinc (v := nI (t + 1)) (lv' := [(4, .int (nI (t + 1))), (8, .int (nI (B + 4 * (on y) + 144))), (7, .int (nI 1)), (6, .int (nI (B + 6 * (pd y t) + 12))), (5, .int (nI (B + 5 * t + 84))), (0, .ref (ad 210)), (1, .int (nI B)), (2, .int (nI ((mn r)))), (3, .int (nI cN))]) hx hb dX8_hears_271 hl (k := 8) rfl (nI_addc (b := 1) (by omega)) (by decide) rfl (fun ls hl => ?_)
                refine lv_goto (tgt := 100) hx hb dX8_hears_274 (by decide) ?_
                have hst : est g t y = upd (upd (upd (upd (upd (upd y (6 * (pd y t) + 17) ((y (6 * (pd y t) + 17)) + (nI 1))) (4 * (on y) + 144) (nI ((pc y t)))) (4 * (on y) + 145) (nI ((pg y t)))) (4 * (on y) + 146) (nI ((pk y t)))) (4 * (on y) + 147) (supp y t)) 11 (nI ((on y) + 1)) := by
                  unfold est
                  rw [if_pos (Int32.not_le.mp c_134)]
                rw [← hst] at h
                exact ih2 (t + 1) (by omega) (by omega) (est g t y) (by rw [hy]; rfl) _ _ _ h (lv_sub hl [5, 6, 7, 8, 0] rfl)
        exact LP2 (mn r + 1) 0 (by omega) (by omega) (upd x 11 (nI 0)) rfl _ _ _ h (lv_sub hl [1, 2, 3, 4, 0] rfl)
      · rw [nI_leI (by omega) (by omega)] at c_23
        refine lv_aload_n hx hb dX8_hears_26 rfl (lv_at hl 0 rfl) ?_
        refine fg_X8_23 X h dX8_hears_27 ?_
        refine lv_iload hx hb dX8_hears_30 (lv_at hl 4 rfl) ?_
        refine rg_ild X h 213 (by decide) (xa_213 J ad) (i) rfl (by omega) (by decide) dX8_hears_32 ?_
        refine lv_as (y := (u1 (u1 G 213 og) 214 g) 213 i) (RG_get (by decide)) ?_
        refine lv_as (y := nI ((σ i))) (ho i (by omega)) ?_
        refine lv_istore (lv' := [(5, .int (nI ((σ i)))), (0, .ref (ad 210)), (1, .int (nI B)), (2, .int (nI ((mn r)))), (3, .int (nI cN)), (4, .int (nI i))]) hx hb dX8_hears_33 hl (by decide) rfl (fun ls hl => ?_)
        refine lv_aload_n hx hb dX8_hears_35 rfl (lv_at hl 1 rfl) ?_
        refine lv_iload_n hx hb dX8_hears_36 rfl (lv_at hl 2 rfl) ?_
        refine lv_iload hx hb dX8_hears_37 (lv_at hl 0 rfl) ?_
        refine rg_civd (As := [.int (nI B), .int (nI ((σ i)))]) (rest := []) X hl.1 h (c_X8_support l J z ad (RG (u1 (u1 G 213 og) 214 g) B x) x B hB (RG_row (u1 (u1 G 213 og) 214 g) B x) hWx (σ i) (by rw [hmx]; exact hO.1 i (by omega))) mw_291 mw_292 mw_293 mw_5 mw_294 pdX8_support (by decide) (xo_210 J ad _) rfl rfl ⟨Nat.le_of_ble_eq_true rfl, Nat.le_of_ble_eq_true rfl⟩ ⟨Nat.le_of_ble_eq_true rfl, Nat.le_of_ble_eq_true rfl⟩ rfl (Nat.le_of_ble_eq_true rfl) dX8_hears_39 (fun H locs h => ?_)
        refine lv_istore (lv' := [(6, .int (supp x (σ i))), (5, .int (nI ((σ i)))), (0, .ref (ad 210)), (1, .int (nI B)), (2, .int (nI ((mn r)))), (3, .int (nI cN)), (4, .int (nI i))]) hx hb dX8_hears_42 hl (by decide) rfl (fun ls hl => ?_)
        refine lv_aload_n hx hb dX8_hears_44 rfl (lv_at hl 2 rfl) ?_
        refine lv_iload_n hx hb dX8_hears_45 rfl (lv_at hl 3 rfl) ?_
        refine lv_iload hx hb dX8_hears_46 (lv_at hl 1 rfl) ?_
        refine lv_iload hx hb dX8_hears_48 (lv_at hl 0 rfl) ?_
        refine rg_civd (As := [.int (nI B), .int (nI ((σ i))), .int (supp x (σ i))]) (rest := []) X hl.1 h (c_X8_refusal l J z ad (RG (u1 (u1 G 213 og) 214 g) B x) x B hB (RG_row (u1 (u1 G 213 og) 214 g) B x) hWx (σ i) (by rw [hmx]; exact hO.1 i (by omega)) (supp x (σ i))) mw_382 mw_383 mw_384 mw_5 mw_385 pdX8_refusal (by decide) (xo_210 J ad _) rfl rfl ⟨Nat.le_of_ble_eq_true rfl, Nat.le_of_ble_eq_true rfl⟩ ⟨Nat.le_of_ble_eq_true rfl, Nat.le_of_ble_eq_true rfl⟩ rfl (Nat.le_of_ble_eq_true rfl) dX8_hears_50 (fun H locs h => ?_)
        refine lv_istore (lv' := [(7, .int (refu x (σ i) (supp x (σ i)))), (6, .int (supp x (σ i))), (5, .int (nI ((σ i)))), (0, .ref (ad 210)), (1, .int (nI B)), (2, .int (nI ((mn r)))), (3, .int (nI cN)), (4, .int (nI i))]) hx hb dX8_hears_53 hl (by decide) rfl (fun ls hl => ?_)
        refine lv_aload_n hx hb dX8_hears_55 rfl (lv_at hl 3 rfl) ?_
        refine fg_X8_26 X h dX8_hears_56 ?_
        refine lv_iload hx hb dX8_hears_59 (lv_at hl 2 rfl) ?_
        refine lv_iload hx hb dX8_hears_61 (lv_at hl 0 rfl) ?_
        refine rg_ist X h 214 (by decide) (xa_214 J ad) ((σ i)) rfl (by have := hO.1 i (by omega); omega) (by decide) dX8_hears_63 (fun H locs h => ?_)
        rw [RG_put (by decide)] at h
        rw [u1_uu] at h
        refine lv_iload hx hb dX8_hears_64 (lv_at hl 0 rfl) ?_
        refine lv_if_ne (tgt := 81) hx hb dX8_hears_66 (by decide) (fun c_66 => ?_) (fun c_66 => ?_)
        · refine lv_iinc (v := nI (i + 1)) (lv' := [(4, .int (nI (i + 1))), (7, .int (refu x (σ i) (supp x (σ i)))), (6, .int (supp x (σ i))), (5, .int (nI ((σ i)))), (0, .ref (ad 210)), (1, .int (nI B)), (2, .int (nI ((mn r)))), (3, .int (nI cN))]) hx hb dX8_hears_81 hl (k := 7) rfl (nI_addc (b := 1) (by omega)) (by decide) rfl (fun ls hl => ?_)
          refine lv_goto (tgt := 20) hx hb dX8_hears_84 (by decide) ?_
          exact ih (i + 1) (by omega) (by omega) _ _ _ (hear_neg hE c_66) _ _ _ h (lv_sub hl [4, 5, 6, 7, 0] rfl)
        · refine lv_aload_n hx hb dX8_hears_69 rfl (lv_at hl 3 rfl) ?_
          refine lv_iload_n hx hb dX8_hears_70 rfl (lv_at hl 4 rfl) ?_
          refine lv_iload hx hb dX8_hears_71 (lv_at hl 2 rfl) ?_
          refine lv_iload hx hb dX8_hears_73 (lv_at hl 1 rfl) ?_
          refine rg_cvvd (As := [.int (nI B), .int (nI ((σ i))), .int (supp x (σ i))]) (rest := []) X hl.1 h (c_X8_passes l J z ad (u1 (u1 G 213 og) 214 (upd g (σ i) (refu x (σ i) (supp x (σ i))))) x B hB hWx (σ i) (by rw [hmx]; exact hO.1 i (by omega)) (supp x (σ i))) mw_397 mw_398 mw_399 mw_5 mw_400 pdX8_passes (by decide) (xo_210 J ad _) rfl rfl ⟨Nat.le_of_ble_eq_true rfl, Nat.le_of_ble_eq_true rfl⟩ ⟨Nat.le_of_ble_eq_true rfl, Nat.le_of_ble_eq_true rfl⟩ rfl (Nat.le_of_ble_eq_true rfl) dX8_hears_75 (fun H locs h => ?_)
          refine lv_iinc (v := nI (cN + 1)) (lv' := [(3, .int (nI (cN + 1))), (7, .int (refu x (σ i) (supp x (σ i)))), (6, .int (supp x (σ i))), (5, .int (nI ((σ i)))), (0, .ref (ad 210)), (1, .int (nI B)), (2, .int (nI ((mn r)))), (4, .int (nI i))]) hx hb dX8_hears_78 hl (k := 6) rfl (nI_addc (b := 1) (by omega)) (by decide) rfl (fun ls hl => ?_)
          refine lv_iinc (v := nI (i + 1)) (lv' := [(4, .int (nI (i + 1))), (3, .int (nI (cN + 1))), (7, .int (refu x (σ i) (supp x (σ i)))), (6, .int (supp x (σ i))), (5, .int (nI ((σ i)))), (0, .ref (ad 210)), (1, .int (nI B)), (2, .int (nI ((mn r))))]) hx hb dX8_hears_81 hl (k := 7) rfl (nI_addc (b := 1) (by omega)) (by decide) rfl (fun ls hl => ?_)
          refine lv_goto (tgt := 20) hx hb dX8_hears_84 (by decide) ?_
          exact ih (i + 1) (by omega) (by omega) _ _ _ (hear_pos hE c_66) _ _ _ h (lv_sub hl [5, 6, 7, 1, 0] rfl)
  exact LP (mn r + 1) 0 (by omega) (by omega) r 0 (G 214) rfl _ _ _ h (lv_sub hl [3, 4, 2, 1, 0] rfl)
