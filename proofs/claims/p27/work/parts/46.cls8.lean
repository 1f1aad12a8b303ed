set_option maxHeartbeats 4000000 in
set_option maxRecDepth 100000 in
theorem c_X5_endSeason (l : Launch) (J : JJ) (z : ZZ) (ad : Nat → Nat) (G : GG) (b : Nat) (hB : IsB b) (r : Nat → Int32) (hR : Rep G b r) (w : Nat → Int32) (hw : w = noOwn (kn r) (upd (upd (upd (hrC r) 3 (r 3 + nI 1)) 4 (nI 0)) 6 (nI 0))) (hIw : RI w) : MI l J z ad yX5_endSeason cX5_endSeason 4 .int 3 [.ref (ad b)] G (fun ans uG => ans = nI (hearC r).2.1 ∧ frm G uG b ∧ Rep uG b w) := by
  refine MI.go (by decide) (Nat.le_of_ble_eq_true rfl) ?_
  intro pr e s m args below meth c ls Q X h hl hret
  have hx := X.1
  have hb := X.2.1
  have hown := X.2.2.2.1
  have hts := X.2.2.2.2
  have hl : lv_has ls 4 [(0, .ref (ad b))] := hl
  have hR0 := hR
  obtain ⟨hI, hS, hL, hP, hQ, hV, hBt⟩ := hR
  have hW := hI.1
  obtain ⟨⟨w1, w2⟩, ⟨w3, w4⟩, ⟨w5, w6⟩, w7, w8⟩ := hI.1
  have k1 : G (b + 1) 0 = nI (kn r) := hS.1.trans w1
  have k2 : G (b + 11) 0 = nI (mn r) := hP.1.trans w3
  have k3 : G (b + 18) 0 = nI (on r) := hQ.1.trans w5
  refine lv_aload_n hx hb dX5_endSeason_0 rfl (lv_at hl 0 rfl) ?_
  refine rg_civ (As := []) (rest := []) X hl.1 h (c_X5_hearPetitions l J z ad G b hB r hR0) mw_348 mw_300 mw_301 mw_11 mw_302 pdX5_hearPetitions (hB.lt (c := 0) (by decide)) (so_0 hB J ad _) rfl rfl ⟨Nat.le_of_ble_eq_true rfl, Nat.le_of_ble_eq_true rfl⟩ ⟨Nat.le_of_ble_eq_true rfl, Nat.le_of_ble_eq_true rfl⟩ rfl (Nat.le_of_ble_eq_true rfl) dX5_endSeason_1 (fun r1 G1 H locs q1 h => ?_)
  obtain ⟨rfl, hf1, hR1, hv1⟩ := q1
  refine lv_istore_n (lv' := [(1, .int (nI ((hearC r).2.1))), (0, .ref (ad b))]) hx hb dX5_endSeason_4 rfl hl (by decide) rfl (fun ls hl => ?_)
  refine lv_aload_n hx hb dX5_endSeason_5 rfl (lv_at hl 1 rfl) ?_
  refine fg_X5_35 hB X h dX5_endSeason_6 ?_
  refine lv_iconst (v := nI 0) hx hb dX5_endSeason_9 (by decide) ?_
  refine fp_X5_129 hB X h dX5_endSeason_10 (fun H locs h => ?_)
  refine lv_iconst (v := nI 0) hx hb dX5_endSeason_13 (by decide) ?_
  refine lv_istore_n (lv' := [(2, .int (nI 0)), (1, .int (nI ((hearC r).2.1))), (0, .ref (ad b))]) hx hb dX5_endSeason_14 rfl hl (by decide) rfl (fun ls hl => ?_)
  have LP : ∀ (n t : Nat), mn r + 1 ≤ t + n → t ≤ mn r → ∀ (U : GG), Rep U b (yT r t) → frm G U b → (∀ q, q < mn r → U (b + 24) q = (hearC r).2.2 q) → ∀ (H : Heap) (locs : List Loc) (ls : Array Slot), HG J z ad s U H locs → lv_has ls 4 [(0, .ref (ad b)), (1, .int (nI ((hearC r).2.1))), (2, .int (nI t))] → W pr l e (rmD 3 0 0) s m args below meth c H locs 0 0 Q (F0 m 15 ls []) := by
    intro n
    induction n with
    | zero =>
      intro t g1 g2
      exact absurd g1 (by omega)
    | succ n ih =>
      intro t g1 g2 U hRU hfr hvd H locs ls h hl
      have hmy : mn (yT r t) = mn r := by unfold mn; rw [yT_n (by omega) (by omega), (ests_ok (f := (hearC r).2.2) ((hearC_ok r).1.WR hW) (n := t) (by rw [(hearC_ok r).1.mn]; exact g2)).1 6 (by omega), (hearC_ok r).1 6 (by omega) (by omega)]
      have k2x : U (b + 11) 0 = nI (mn r) := by rw [hRU.2.2.2.1.1, hRU.1.1.2.1.1, hmy]
      refine lv_iload_n hx hb dX5_endSeason_15 rfl (lv_at hl 2 rfl) ?_
      refine lv_aload_n hx hb dX5_endSeason_16 rfl (lv_at hl 0 rfl) ?_
      refine fg_X5_28 hB X h dX5_endSeason_17 ?_
      refine fg_X5_99 hB X h dX5_endSeason_20 ?_
      refine lv_as (y := nI ((mn r))) (k2x) ?_
      refine lv_icmp_ge (tgt := 92) hx hb dX5_endSeason_23 (by decide) (fun c_23 => ?_) (fun c_23 => ?_)
      · rw [nI_leI (by omega) (by omega)] at c_23
        have hte : t = mn r := by omega
        rw [hte, yT_end hW] at hRU
        refine lv_aload_n hx hb dX5_endSeason_92 rfl (lv_at hl 0 rfl) ?_
        refine fg_X5_28 hB X h dX5_endSeason_93 ?_
        refine lv_iconst (v := nI 0) hx hb dX5_endSeason_96 (by decide) ?_
        refine fp_X5_99 hB X h dX5_endSeason_97 (fun H locs h => ?_)
        refine lv_aload_n hx hb dX5_endSeason_100 rfl (lv_at hl 0 rfl) ?_
        refine lv_dup hx hb dX5_endSeason_101 rfl ?_
        refine fg_X5_63 hB X h dX5_endSeason_102 ?_
        refine lv_as (y := U b 6) (by rw [u1_n (by omega)]) ?_
        refine lv_iconst (v := nI 1) hx hb dX5_endSeason_105 (by decide) ?_
        refine lv_iadd hx hb dX5_endSeason_106 ?_
        refine fp_X5_63 hB X h dX5_endSeason_107 (fun H locs h => ?_)
        rw [u1_n (show b ≠ b + 11 by omega)] at h
        refine lv_aload_n hx hb dX5_endSeason_110 rfl (lv_at hl 0 rfl) ?_
        refine lv_iconst (v := nI 0) hx hb dX5_endSeason_111 (by decide) ?_
        refine fp_X5_66 hB X h dX5_endSeason_112 (fun H locs h => ?_)
        rw [u1_uu] at h
        refine lv_iload_n hx hb dX5_endSeason_115 rfl (lv_at hl 1 rfl) ?_
        exact hret (nI ((hearC r).2.1)) (u1 (u1 U (b + 11) (upd (U (b + 11)) 0 (nI 0))) b (upd (upd (U b) 6 ((U b 6) + (nI 1))) 7 (nI 0))) _ _ 116 _ (⟨rfl, fun k hk => by rw [u1_n (by omega), u1_n (by omega)]; exact hfr k hk, Rep_end hRU (by rw [hw, show kn (hrC r) = kn r by unfold kn; rw [hrC_eq hW (by omega) (by omega) (by omega) (by omega) (by omega)], show hrC r 3 = r 3 from hrC_eq hW (by omega) (by omega) (by omega) (by omega) (by omega)]) hIw (fun k g1 g2 => by rw [u1_n (by omega), u1_n (by omega)]) (by rw [u1_n (by omega), u1_s, upd_s]) (by rw [u1_s, upd_n (by omega), upd_n (by omega)]) (by rw [u1_s, upd_n (by omega), upd_s]) (by rw [u1_s, upd_s]) (by rw [u1_s, upd_n (by omega), upd_n (by omega)])⟩) h dX5_endSeason_116
      · rw [nI_leI (by omega) (by omega)] at c_23
        have hpy := hRU.2.2.2.1.2 t (by omega)
        obtain ⟨v1, v2, v3, v4, v5, v6, v7, v8⟩ := hRU.1.1.2.2.2.1 t (by omega)
        have hkU := hRU.1.1.1.2
        refine lv_aload_n hx hb dX5_endSeason_26 rfl (lv_at hl 0 rfl) ?_
        refine fg_X5_28 hB X h dX5_endSeason_27 ?_
        refine fg_X5_112 hB X h dX5_endSeason_30 ?_
        refine lv_iload_n hx hb dX5_endSeason_33 rfl (lv_at hl 2 rfl) ?_
        refine rg_ild X h (b + 12) (hB.lt (by decide)) (sa_12 hB J ad) (t) rfl (by omega) (by decide) dX5_endSeason_34 ?_
        refine lv_as (y := nI ((pd (yT r t) t))) (hpy.1.trans v1) ?_
        refine lv_istore_n (lv' := [(3, .int (nI ((pd (yT r t) t)))), (0, .ref (ad b)), (1, .int (nI ((hearC r).2.1))), (2, .int (nI t))]) hx hb dX5_endSeason_35 rfl hl (by decide) rfl (fun ls hl => ?_)
        refine lv_aload_n hx hb dX5_endSeason_36 rfl (lv_at hl 1 rfl) ?_
        refine fg_X5_43 hB X h dX5_endSeason_37 ?_
        refine lv_iload_n hx hb dX5_endSeason_40 rfl (lv_at hl 3 rfl) ?_
        refine rg_ild X h (b + 24) (hB.lt (by decide)) (sa_24 hB J ad) (t) rfl (by omega) (by decide) dX5_endSeason_41 ?_
        refine lv_as (y := (hearC r).2.2 t) (hvd t (by omega)) ?_
        refine lv_if_ne (tgt := 61) hx hb dX5_endSeason_42 (by decide) (fun c_42 => ?_) (fun c_42 => ?_)
        · refine lv_aload_n hx hb dX5_endSeason_61 rfl (lv_at hl 1 rfl) ?_
          refine fg_X5_12 hB X h dX5_endSeason_62 ?_
          refine fg_X5_133 hB X h dX5_endSeason_65 ?_
          refine lv_iload_n hx hb dX5_endSeason_68 rfl (lv_at hl 0 rfl) ?_
          refine lv_dup2_11 hx hb dX5_endSeason_69 rfl rfl ?_
          refine rg_ild X h (b + 6) (hB.lt (by decide)) (sa_6 hB J ad) ((pd (yT r t) t)) rfl (by omega) (by decide) dX5_endSeason_70 ?_
          refine lv_iconst (v := nI 1) hx hb dX5_endSeason_71 (by decide) ?_
          refine lv_iadd hx hb dX5_endSeason_72 ?_
          refine rg_ist X h (b + 6) (hB.lt (by decide)) (sa_6 hB J ad) ((pd (yT r t) t)) rfl (by omega) (by decide) dX5_endSeason_73 (fun H locs h => ?_)
          refine lv_aload_n hx hb dX5_endSeason_74 rfl (lv_at hl 1 rfl) ?_
          refine fg_X5_35 hB X h dX5_endSeason_75 ?_
          refine lv_aload_n hx hb dX5_endSeason_78 rfl (lv_at hl 1 rfl) ?_
          refine fg_X5_28 hB X h dX5_endSeason_79 ?_
          refine lv_iload_n hx hb dX5_endSeason_82 rfl (lv_at hl 3 rfl) ?_
          obtain ⟨o, ho1, ho2⟩ := (ests_ok (f := (hearC r).2.2) ((hearC_ok r).1.WR hW) (n := t) (by rw [(hearC_ok r).1.mn]; exact g2)).2
          have ho12 : on (yT r t) < 12 := by show tn _ < 12; rw [yT_n (by omega) (by omega), ho2, tn_nI (by omega)]; omega
          have k3x : U (b + 18) 0 = nI (on (yT r t)) := hRU.2.2.2.2.1.1.trans hRU.1.1.2.2.1.1
          refine rg_cvvd (As := [.ref (ad (b + 11)), .int (nI t)]) (rest := []) X hl.1 h (c_X4_add l J z ad (u1 U (b + 6) (upd (U (b + 6)) (pd (yT r t) t) (U (b + 6) (pd (yT r t) t) + nI 1))) b hB (on (yT r t)) (by rw [u1_n (by omega)]; exact k3x) ho12 t (by omega)) mw_349 mw_350 mw_351 mw_42 mw_352 pdX4_add (hB.lt (by decide)) (so_18 hB J ad _) rfl rfl ⟨Nat.le_of_ble_eq_true rfl, Nat.le_of_ble_eq_true rfl⟩ ⟨Nat.le_of_ble_eq_true rfl, Nat.le_of_ble_eq_true rfl⟩ rfl (Nat.le_of_ble_eq_true rfl) dX5_endSeason_83 (fun H locs h => ?_)
          have hRn : Rep (u1 (u1 (u1 (u1 (u1 (u1 U (b + 6) (upd (U (b + 6)) (pd (yT r t) t) (U (b + 6) (pd (yT r t) t) + nI 1))) (b + 19) (upd ((u1 U (b + 6) (upd (U (b + 6)) (pd (yT r t) t) (U (b + 6) (pd (yT r t) t) + nI 1))) (b + 19)) (on (yT r t)) ((u1 U (b + 6) (upd (U (b + 6)) (pd (yT r t) t) (U (b + 6) (pd (yT r t) t) + nI 1))) (b + 13) t))) (b + 20) (upd ((u1 U (b + 6) (upd (U (b + 6)) (pd (yT r t) t) (U (b + 6) (pd (yT r t) t) + nI 1))) (b + 20)) (on (yT r t)) ((u1 U (b + 6) (upd (U (b + 6)) (pd (yT r t) t) (U (b + 6) (pd (yT r t) t) + nI 1))) (b + 14) t))) (b + 21) (upd ((u1 U (b + 6) (upd (U (b + 6)) (pd (yT r t) t) (U (b + 6) (pd (yT r t) t) + nI 1))) (b + 21)) (on (yT r t)) ((u1 U (b + 6) (upd (U (b + 6)) (pd (yT r t) t) (U (b + 6) (pd (yT r t) t) + nI 1))) (b + 15) t))) (b + 22) (upd ((u1 U (b + 6) (upd (U (b + 6)) (pd (yT r t) t) (U (b + 6) (pd (yT r t) t) + nI 1))) (b + 22)) (on (yT r t)) ((u1 U (b + 6) (upd (U (b + 6)) (pd (yT r t) t) (U (b + 6) (pd (yT r t) t) + nI 1))) (b + 16) t))) (b + 18) (upd ((u1 U (b + 6) (upd (U (b + 6)) (pd (yT r t) t) (U (b + 6) (pd (yT r t) t) + nI 1))) (b + 18)) 0 (nI (on (yT r t) + 1)))) b (yT r (t + 1)) := by
            rw [yT_f c_42 (by omega) ho12]
            refine Rep_af hRU v2 (show t < mn (yT r t) by omega) ho12 (fun k g1 g2 => by rw [u1_n (by omega), u1_n (by omega), u1_n (by omega), u1_n (by omega), u1_n (by omega), u1_n (by omega)]) (by rw [u1_n (by omega), u1_n (by omega), u1_n (by omega), u1_n (by omega), u1_n (by omega), u1_s]) (by rw [u1_s, upd_s]) ?_ ?_ ?_ ?_
            · rw [u1_n (by omega), u1_n (by omega), u1_n (by omega), u1_n (by omega), u1_s, u1_n (show b + 19 ≠ b + 6 by omega), u1_n (show b + 13 ≠ b + 6 by omega), hpy.2.1.trans v3]
            · rw [u1_n (by omega), u1_n (by omega), u1_n (by omega), u1_s, u1_n (show b + 20 ≠ b + 6 by omega), u1_n (show b + 14 ≠ b + 6 by omega), hpy.2.2.1.trans v5]
            · rw [u1_n (by omega), u1_n (by omega), u1_s, u1_n (show b + 21 ≠ b + 6 by omega), u1_n (show b + 15 ≠ b + 6 by omega), hpy.2.2.2.1.trans v7]
            · rw [u1_n (by omega), u1_s, u1_n (show b + 22 ≠ b + 6 by omega), u1_n (show b + 16 ≠ b + 6 by omega), hpy.2.2.2.2.1]
          have hfn : frm G (u1 (u1 (u1 (u1 (u1 (u1 U (b + 6) (upd (U (b + 6)) (pd (yT r t) t) (U (b + 6) (pd (yT r t) t) + nI 1))) (b + 19) (upd ((u1 U (b + 6) (upd (U (b + 6)) (pd (yT r t) t) (U (b + 6) (pd (yT r t) t) + nI 1))) (b + 19)) (on (yT r t)) ((u1 U (b + 6) (upd (U (b + 6)) (pd (yT r t) t) (U (b + 6) (pd (yT r t) t) + nI 1))) (b + 13) t))) (b + 20) (upd ((u1 U (b + 6) (upd (U (b + 6)) (pd (yT r t) t) (U (b + 6) (pd (yT r t) t) + nI 1))) (b + 20)) (on (yT r t)) ((u1 U (b + 6) (upd (U (b + 6)) (pd (yT r t) t) (U (b + 6) (pd (yT r t) t) + nI 1))) (b + 14) t))) (b + 21) (upd ((u1 U (b + 6) (upd (U (b + 6)) (pd (yT r t) t) (U (b + 6) (pd (yT r t) t) + nI 1))) (b + 21)) (on (yT r t)) ((u1 U (b + 6) (upd (U (b + 6)) (pd (yT r t) t) (U (b + 6) (pd (yT r t) t) + nI 1))) (b + 15) t))) (b + 22) (upd ((u1 U (b + 6) (upd (U (b + 6)) (pd (yT r t) t) (U (b + 6) (pd (yT r t) t) + nI 1))) (b + 22)) (on (yT r t)) ((u1 U (b + 6) (upd (U (b + 6)) (pd (yT r t) t) (U (b + 6) (pd (yT r t) t) + nI 1))) (b + 16) t))) (b + 18) (upd ((u1 U (b + 6) (upd (U (b + 6)) (pd (yT r t) t) (U (b + 6) (pd (yT r t) t) + nI 1))) (b + 18)) 0 (nI (on (yT r t) + 1)))) b := fun k hk => by rw [u1_n (by omega), u1_n (by omega), u1_n (by omega), u1_n (by omega), u1_n (by omega), u1_n (by omega)]; exact hfr k hk
          have hvn : ∀ q, q < mn r → (u1 (u1 (u1 (u1 (u1 (u1 U (b + 6) (upd (U (b + 6)) (pd (yT r t) t) (U (b + 6) (pd (yT r t) t) + nI 1))) (b + 19) (upd ((u1 U (b + 6) (upd (U (b + 6)) (pd (yT r t) t) (U (b + 6) (pd (yT r t) t) + nI 1))) (b + 19)) (on (yT r t)) ((u1 U (b + 6) (upd (U (b + 6)) (pd (yT r t) t) (U (b + 6) (pd (yT r t) t) + nI 1))) (b + 13) t))) (b + 20) (upd ((u1 U (b + 6) (upd (U (b + 6)) (pd (yT r t) t) (U (b + 6) (pd (yT r t) t) + nI 1))) (b + 20)) (on (yT r t)) ((u1 U (b + 6) (upd (U (b + 6)) (pd (yT r t) t) (U (b + 6) (pd (yT r t) t) + nI 1))) (b + 14) t))) (b + 21) (upd ((u1 U (b + 6) (upd (U (b + 6)) (pd (yT r t) t) (U (b + 6) (pd (yT r t) t) + nI 1))) (b + 21)) (on (yT r t)) ((u1 U (b + 6) (upd (U (b + 6)) (pd (yT r t) t) (U (b + 6) (pd (yT r t) t) + nI 1))) (b + 15) t))) (b + 22) (upd ((u1 U (b + 6) (upd (U (b + 6)) (pd (yT r t) t) (U (b + 6) (pd (yT r t) t) + nI 1))) (b + 22)) (on (yT r t)) ((u1 U (b + 6) (upd (U (b + 6)) (pd (yT r t) t) (U (b + 6) (pd (yT r t) t) + nI 1))) (b + 16) t))) (b + 18) (upd ((u1 U (b + 6) (upd (U (b + 6)) (pd (yT r t) t) (U (b + 6) (pd (yT r t) t) + nI 1))) (b + 18)) 0 (nI (on (yT r t) + 1)))) (b + 24) q = (hearC r).2.2 q := fun q hq => by rw [u1_n (by omega), u1_n (by omega), u1_n (by omega), u1_n (by omega), u1_n (by omega), u1_n (by omega)]; exact hvd q hq
          refine lv_iinc (v := nI (t + 1)) (lv' := [(2, .int (nI (t + 1))), (3, .int (nI ((pd (yT r t) t)))), (0, .ref (ad b)), (1, .int (nI ((hearC r).2.1)))]) hx hb dX5_endSeason_86 hl (k := 3) rfl (nI_addc (b := 1) (by omega)) (by decide) rfl (fun ls hl => ?_)
          refine lv_goto (tgt := 15) hx hb dX5_endSeason_89 (by decide) ?_
          exact ih (t + 1) (by omega) (by omega) _ hRn hfn hvn _ _ _ h (lv_sub hl [2, 3, 0] rfl)
        · refine lv_aload_n hx hb dX5_endSeason_45 rfl (lv_at hl 1 rfl) ?_
          refine fg_X5_12 hB X h dX5_endSeason_46 ?_
          refine fg_X5_130 hB X h dX5_endSeason_49 ?_
          refine lv_iload_n hx hb dX5_endSeason_52 rfl (lv_at hl 0 rfl) ?_
          refine lv_dup2_11 hx hb dX5_endSeason_53 rfl rfl ?_
          refine rg_ild X h (b + 5) (hB.lt (by decide)) (sa_5 hB J ad) ((pd (yT r t) t)) rfl (by omega) (by decide) dX5_endSeason_54 ?_
          refine lv_iconst (v := nI 1) hx hb dX5_endSeason_55 (by decide) ?_
          refine lv_iadd hx hb dX5_endSeason_56 ?_
          refine rg_ist X h (b + 5) (hB.lt (by decide)) (sa_5 hB J ad) ((pd (yT r t) t)) rfl (by omega) (by decide) dX5_endSeason_57 (fun H locs h => ?_)
          refine lv_goto (tgt := 86) hx hb dX5_endSeason_58 (by decide) ?_
          have hRn : Rep (u1 U (b + 5) (upd (U (b + 5)) (pd (yT r t) t) ((U (b + 5) (pd (yT r t) t)) + (nI 1)))) b (yT r (t + 1)) := by
            rw [yT_p c_42 (by omega) (show pd (yT r t) t = pd (ests (hearC r).1 (hearC r).2.2 t) t by unfold pd; rw [yT_n (by omega) (by omega)])]
            exact Rep_ap hRU v2 (fun k hk => u1_n (by omega)) (by rw [u1_s])
          have hfn : frm G (u1 U (b + 5) (upd (U (b + 5)) (pd (yT r t) t) ((U (b + 5) (pd (yT r t) t)) + (nI 1)))) b := fun k hk => (u1_n (by omega)).trans (hfr k hk)
          have hvn : ∀ q, q < mn r → (u1 U (b + 5) (upd (U (b + 5)) (pd (yT r t) t) ((U (b + 5) (pd (yT r t) t)) + (nI 1)))) (b + 24) q = (hearC r).2.2 q := fun q hq => by rw [u1_n (by omega)]; exact hvd q hq
          refine lv_iinc (v := nI (t + 1)) (lv' := [(2, .int (nI (t + 1))), (3, .int (nI ((pd (yT r t) t)))), (0, .ref (ad b)), (1, .int (nI ((hearC r).2.1)))]) hx hb dX5_endSeason_86 hl (k := 3) rfl (nI_addc (b := 1) (by omega)) (by decide) rfl (fun ls hl => ?_)
          refine lv_goto (tgt := 15) hx hb dX5_endSeason_89 (by decide) ?_
          exact ih (t + 1) (by omega) (by omega) _ hRn hfn hvn _ _ _ h (lv_sub hl [2, 3, 0] rfl)
  exact LP (mn r + 1) 0 (by omega) (by omega) _ (Rep_r0 hR1 (fun k hk => u1_n (by omega)) (by rw [u1_s, upd_s])) (fun k hk => (u1_n (by omega)).trans (hf1 k hk)) (fun q hq => by rw [u1_n (by omega)]; exact hv1 q hq) _ _ _ h (lv_sub hl [2, 1, 0] rfl)
