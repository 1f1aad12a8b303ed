/-! a text is performed -/
theorem Cls.mv2 {G G' V V' : GG} (h : Cls G V) (a : ∀ k, (k < 26 ∨ (76 ≤ k ∧ k < 203) ∨ k = 204) → G' k = G k) (a2 : G' 203 1 = G 203 1) (b : ∀ j, j < 9 → V' 210 j = V 210 j) (c : V' 212 = V 212) (d : ∀ k, k < 3672 → V' 211 k = V 211 k) : Cls G' V' := by
  obtain ⟨h1, ⟨n, h2, h3⟩, h4, ⟨h5, h6, h7⟩, h8⟩ := h
  refine ⟨Rep_req (fun k hk => d k (by omega)) (Rep_frame (fun k x y => a k (by omega)) h1), ⟨n, by rw [b 1 (by omega)]; exact h2, h3.cg (fun k x y => a k (by omega)) (fun k x y => d k (by omega))⟩, ?_, ⟨by rw [a2, b 4 (by omega)]; exact h5, by rw [a 204 (by omega), c]; exact h6, by rw [b 4 (by omega)]; exact h7⟩, ?_⟩
  · rw [a 0 (by omega), b 2 (by omega)]
    exact h4.imp_right (fun ⟨x, y, w⟩ => ⟨x, y, Rep_req (fun k hk => d _ (by omega)) (Rep_frame (fun k g1 g2 => a k (by omega)) w)⟩)
  · rw [a 0 (by omega), b 5 (by omega), b 6 (by omega)]
    exact h8
noncomputable def pfA (G : GG) (n : Nat) : Int32 := match (prs (G 212) n (n + 1) 0).2 with
  | some q => (-100) - nI q
  | none => match (rnL (prs (G 212) n (n + 1) 0).1 (cpS (G 211) 0 6) 0).1 with
    | some _ => (-4)
    | none => nI (prs (G 212) n (n + 1) 0).1.length
noncomputable def pfV (G : GG) (n m : Nat) : GG := match (prs (G 212) n (n + 1) 0).2 with
  | some _ => G
  | none => match (rnL (prs (G 212) n (n + 1) 0).1 (cpS (G 211) 0 6) 0).1 with
    | some x => u1 G 210 (upd (upd (G 210) 5 (nI x.1)) 6 x.2)
    | none => actG G m (nI (prs (G 212) n (n + 1) 0).1.length) (rnL (prs (G 212) n (n + 1) 0).1 (cpS (G 211) 0 6) 0).2
theorem nI_m1 {q : Nat} (h : q < 2 ^ 31) : ¬ nI q = (-1) := fun e => by
  have := m1_lt h
  rw [e] at this
  exact absurd this (by decide)
theorem stop_C {G uG : GG} {n k : Nat} {e : Int32} (hC : Cls G G) (hn : G 210 4 = nI n) (he : e ≠ 0) (h1 : Rep uG 1 (G 211)) (f : ∀ k, ((76 ≤ k ∧ k < 203) ∨ k = 204) → uG k = G k) (f203 : uG 203 1 = nI n) (f4 : uG 0 4 = G 0 4) (f7 : uG 0 7 = nI k) (f8 : uG 0 8 = e) : Cls uG (u1 G 210 (upd (upd (G 210) 5 (nI k)) 6 e)) := by
  obtain ⟨a1, ⟨m, a2, a3⟩, a4, ⟨a5, a6, a7⟩, a8⟩ := hC
  have s210 : (u1 G 210 (upd (upd (G 210) 5 (nI k)) 6 e)) 210 = upd (upd (G 210) 5 (nI k)) 6 e := u1_s _ _ _
  have s211 : (u1 G 210 (upd (upd (G 210) 5 (nI k)) 6 e)) 211 = G 211 := u1_n (by decide)
  have s212 : (u1 G 210 (upd (upd (G 210) 5 (nI k)) 6 e)) 212 = G 212 := u1_n (by decide)
  refine ⟨by rw [s211]; exact h1, ⟨m, by rw [s210, upd_n (by decide), upd_n (by decide)]; exact a2, by rw [s211]; exact a3.cg (fun k g1 g2 => f k (by omega)) (fun _ _ _ => rfl)⟩, ?_, ⟨by rw [s210, upd_n (by decide), upd_n (by decide), f203, hn], by rw [s212, f 204 (by omega)]; exact a6, by rw [s210, upd_n (by decide), upd_n (by decide)]; exact a7⟩, ?_⟩
  · rw [s210, s211, upd_n (by decide), upd_n (by decide), f4]
    exact a4.imp_right (fun ⟨x, y, w⟩ => ⟨x, y, Rep_frame (fun k g1 g2 => f k (by omega)) w⟩)
  · rw [s210, f7, f8]
    exact Or.inr ⟨he, by rw [upd_n (by decide), upd_s], by rw [upd_s]⟩
theorem prs_len (t : Nat → Int32) (n : Nat) : ∀ k p, (prs t n k p).1.length ≤ k := by
  intro k
  induction k with
  | zero => exact fun p => Nat.le_refl _
  | succ k ih =>
    intro p
    rcases e : thO t n p with ⟨o, p1⟩
    cases o with
    | none => rw [prs_n e]; exact Nat.zero_le _
    | some y =>
      rcases Classical.em (isC t n p1 59) with c | c
      · rw [prs_c e c]; exact Nat.succ_le_succ (ih _)
      · rw [prs_e e c]; exact Nat.succ_le_succ (Nat.zero_le _)
theorem pf_ref {G G1 uG : GG} {n m : Nat} {ans : Int32} (hs : ∀ k, 210 ≤ k → G1 k = G k) (hV : Cls G1 (pfV G n m)) (hn60 : n ≤ 60) (hm : G 210 1 = nI m) (h : pfOK G1 n m uG ans) : ans = pfA G n ∧ Cls uG uG := by
  have e0 := hs 210 (by omega)
  have e1 := hs 211 (by omega)
  have e2 := hs 212 (by omega)
  unfold pfOK at h
  rw [e1, e2] at h
  unfold pfA
  unfold pfV at hV
  rcases h with ⟨q, hq, ha, F, hu, hF⟩ | ⟨hq, og, g, F, hF, hh⟩
  · rw [hq] at hV ⊢
    refine ⟨ha, ?_⟩
    rw [hu]
    exact hV.mv (fun k hk => u1_n (by omega)) (fun j hj => by rw [u1_s, hF j hj, e0]) (by rw [u1_n (by decide), e2]) (fun k hk => by rw [u1_n (by decide), e1])
  · rw [hq] at hV ⊢
    rcases hh with ⟨i, e, hr, ha, f1, f5, f6, S, hu, hS⟩ | ⟨hr, ha, f1, f5, f6, hu⟩
    · rw [hr] at hV ⊢
      refine ⟨ha, ?_⟩
      dsimp only at hV
      rw [hu]
      refine hV.mv (fun k hk => by rw [u1_n (by omega), u1_n (by omega), u1_n (by omega), u1_n (by omega)]) (fun j hj => ?_) (by rw [u1_n (by decide), u1_n (by decide), u1_n (by decide), u1_n (by decide), u1_n (by decide), e2]) (fun k hk => by rw [u1_s, u1_n (by decide), hS k hk])
      rw [u1_n (by decide), u1_s, u1_s]
      by_cases j6 : j = 6
      · rw [j6, upd_s, f6]
      · rw [upd_n j6]
        by_cases j5 : j = 5
        · rw [j5, upd_s, f5]
        · rw [upd_n j5]
          by_cases j1 : j = 1
          · rw [j1, f1, hm]
          · rw [hF j hj j1 j5 j6, e0]
    · rw [hr] at hV ⊢
      refine ⟨ha, ?_⟩
      dsimp only at hV
      have hlen := prs_len (G 212) n (n + 1) 0
      unfold actG at hV
      rw [if_pos (nI_pos' (by omega))] at hV
      rw [hu]
      refine hV.mv (fun k hk => by rw [u1_n (by omega), u1_n (by omega), u1_n (by omega), u1_n (by omega)]) (fun j hj => ?_) (by rw [u1_n (by decide), u1_n (by decide), u1_n (by decide), u1_n (by decide), u1_n (by decide), u1_n (by decide), e2]) (fun k hk => by rw [u1_s, u1_n (by decide), u1_s])
      rw [u1_n (by decide), u1_s, u1_s]
      by_cases j1 : j = 1
      · rw [j1, f1, upd_s]
      · rw [upd_n j1]
        by_cases j5 : j = 5
        · rw [j5, f5, e0]
        · by_cases j6 : j = 6
          · rw [j6, f6, e0]
          · rw [hF j hj j1 j5 j6, e0]
set_option maxHeartbeats 4000000 in
set_option maxRecDepth 100000 in
theorem c_X7_doThing (l : Launch) (J : JJ) (z : Nat) (ad : Nat → Nat) (G : GG) (R : Nat → Int32) (hR : Rep G 1 R) (i : Nat) (hi : i < 20) (y : TH) (hy : thA G i y) : MI l J z ad yX7_doThing cX7_doThing 2 .int 5 [.ref (ad 0), .int (nI i)] G (fun ans uG => ans = dsA R y ∧ frm G uG 1 ∧ Rep uG 1 (dsR R y)) := by
  refine MI.go (by decide) (Nat.le_of_ble_eq_true rfl) ?_
  intro pr e s m args below meth c ls Q X h hl hret
  have hx := X.1
  have hb := X.2.1
  have hown := X.2.2.2.1
  have hts := X.2.2.2.2
  have hl : lv_has ls 2 [(0, .ref (ad 0)), (1, .int (nI i))] := hl
  refine lv_aload_n hx hb dX7_doThing_0 rfl (lv_at hl 0 rfl) ?_
  refine fg_X7_35 X h dX7_doThing_1 ?_
  refine fg_X7_253 X h dX7_doThing_4 ?_
  refine lv_iload_n hx hb dX7_doThing_7 rfl (lv_at hl 1 rfl) ?_
  refine rg_ild X h 205 (by decide) (xa_205 J ad) (i) rfl (by omega) (by decide) dX7_doThing_8 ?_
  rcases hy with ⟨y0, a0, a1, a2, a3, a4⟩ | ⟨y0, a0, a1, a2⟩ | ⟨y0, a0, a1⟩
  · refine lv_as (y := nI 0) a0 ?_
    refine lv_lookup (off := 27) (tgt := 36) hx hb dX7_doThing_9 (by decide) (by decide) (by decide) ?_
    refine lv_aload_n hx hb dX7_doThing_36 rfl (lv_at hl 0 rfl) ?_
    refine fg_X7_12 X h dX7_doThing_37 ?_
    refine lv_aload_n hx hb dX7_doThing_40 rfl (lv_at hl 0 rfl) ?_
    refine fg_X7_35 X h dX7_doThing_41 ?_
    refine fg_X7_256 X h dX7_doThing_44 ?_
    refine lv_iload_n hx hb dX7_doThing_47 rfl (lv_at hl 1 rfl) ?_
    refine rg_ild X h 206 (by decide) (xa_206 J ad) (i) rfl (by omega) (by decide) dX7_doThing_48 ?_
    refine lv_as (y := nI (y.2.1)) (a1) ?_
    refine lv_aload_n hx hb dX7_doThing_49 rfl (lv_at hl 0 rfl) ?_
    refine fg_X7_35 X h dX7_doThing_50 ?_
    refine fg_X7_257 X h dX7_doThing_53 ?_
    refine lv_iload_n hx hb dX7_doThing_56 rfl (lv_at hl 1 rfl) ?_
    refine rg_ild X h 207 (by decide) (xa_207 J ad) (i) rfl (by omega) (by decide) dX7_doThing_57 ?_
    refine lv_as (y := nI (y.2.2.1)) (a2) ?_
    refine lv_aload_n hx hb dX7_doThing_58 rfl (lv_at hl 0 rfl) ?_
    refine fg_X7_35 X h dX7_doThing_59 ?_
    refine fg_X7_260 X h dX7_doThing_62 ?_
    refine lv_iload_n hx hb dX7_doThing_65 rfl (lv_at hl 1 rfl) ?_
    refine rg_ild X h 208 (by decide) (xa_208 J ad) (i) rfl (by omega) (by decide) dX7_doThing_66 ?_
    refine lv_as (y := nI (y.2.2.2.1)) (a3) ?_
    refine lv_aload_n hx hb dX7_doThing_67 rfl (lv_at hl 0 rfl) ?_
    refine fg_X7_35 X h dX7_doThing_68 ?_
    refine fg_X7_261 X h dX7_doThing_71 ?_
    refine lv_iload_n hx hb dX7_doThing_74 rfl (lv_at hl 1 rfl) ?_
    refine rg_ild X h 209 (by decide) (xa_209 J ad) (i) rfl (by omega) (by decide) dX7_doThing_75 ?_
    refine lv_as (y := nI (y.2.2.2.2)) (a4) ?_
    refine rg_civ (As := [.int (nI (y.2.1)), .int (nI (y.2.2.1)), .int (nI (y.2.2.2.1)), .int (nI (y.2.2.2.2))]) (rest := []) X hl.1 h (c_X5_addPetition l J z ad G 1 isB_1 R hR (nI y.2.1) (nI y.2.2.1) (nI y.2.2.2.1) (nI y.2.2.2.2)) mw_231 mw_232 mw_233 mw_14 mw_234 pdX5_addPetition (isB_1.lt (c := 0) (by decide)) (so_0 isB_1 J ad _) rfl rfl ⟨Nat.le_of_ble_eq_true rfl, Nat.le_of_ble_eq_true rfl⟩ ⟨Nat.le_of_ble_eq_true rfl, Nat.le_of_ble_eq_true rfl⟩ rfl (Nat.le_of_ble_eq_true rfl) dX7_doThing_76 (fun r1 G1 H locs q1 h => ?_)
    exact hret r1 G1 _ _ 79 _ (⟨by unfold dsA; rw [if_pos y0]; exact q1.1, q1.2.1, by unfold dsR; rw [if_pos y0]; exact q1.2.2⟩) h dX7_doThing_79
  · refine lv_as (y := nI 1) a0 ?_
    refine lv_lookup (off := 71) (tgt := 80) hx hb dX7_doThing_9 (by decide) (by decide) (by decide) ?_
    refine lv_aload_n hx hb dX7_doThing_80 rfl (lv_at hl 0 rfl) ?_
    refine fg_X7_12 X h dX7_doThing_81 ?_
    refine lv_aload_n hx hb dX7_doThing_84 rfl (lv_at hl 0 rfl) ?_
    refine fg_X7_35 X h dX7_doThing_85 ?_
    refine fg_X7_256 X h dX7_doThing_88 ?_
    refine lv_iload_n hx hb dX7_doThing_91 rfl (lv_at hl 1 rfl) ?_
    refine rg_ild X h 206 (by decide) (xa_206 J ad) (i) rfl (by omega) (by decide) dX7_doThing_92 ?_
    refine lv_as (y := nI (y.2.1)) (a1) ?_
    refine lv_aload_n hx hb dX7_doThing_93 rfl (lv_at hl 0 rfl) ?_
    refine fg_X7_35 X h dX7_doThing_94 ?_
    refine fg_X7_257 X h dX7_doThing_97 ?_
    refine lv_iload_n hx hb dX7_doThing_100 rfl (lv_at hl 1 rfl) ?_
    refine rg_ild X h 207 (by decide) (xa_207 J ad) (i) rfl (by omega) (by decide) dX7_doThing_101 ?_
    refine lv_as (y := nI (y.2.2.1)) (a2) ?_
    refine rg_civ (As := [.int (nI (y.2.1)), .int (nI (y.2.2.1))]) (rest := []) X hl.1 h (c_X5_addSeconder l J z ad G 1 isB_1 R hR (nI y.2.1) (nI y.2.2.1)) mw_268 mw_269 mw_270 mw_14 mw_271 pdX5_addSeconder (isB_1.lt (c := 0) (by decide)) (so_0 isB_1 J ad _) rfl rfl ⟨Nat.le_of_ble_eq_true rfl, Nat.le_of_ble_eq_true rfl⟩ ⟨Nat.le_of_ble_eq_true rfl, Nat.le_of_ble_eq_true rfl⟩ rfl (Nat.le_of_ble_eq_true rfl) dX7_doThing_102 (fun r2 G2 H locs q2 h => ?_)
    exact hret r2 G2 _ _ 105 _ (⟨by unfold dsA; rw [if_neg (by omega), if_pos y0]; exact q2.1, q2.2.1, by unfold dsR; rw [if_neg (by omega), if_pos y0]; exact q2.2.2⟩) h dX7_doThing_105
  · refine lv_as (y := nI 2) a0 ?_
    refine lv_lookup (off := 97) (tgt := 106) hx hb dX7_doThing_9 (by decide) (by decide) (by decide) ?_
    refine lv_aload_n hx hb dX7_doThing_106 rfl (lv_at hl 0 rfl) ?_
    refine fg_X7_12 X h dX7_doThing_107 ?_
    refine lv_aload_n hx hb dX7_doThing_110 rfl (lv_at hl 0 rfl) ?_
    refine fg_X7_35 X h dX7_doThing_111 ?_
    refine fg_X7_257 X h dX7_doThing_114 ?_
    refine lv_iload_n hx hb dX7_doThing_117 rfl (lv_at hl 1 rfl) ?_
    refine rg_ild X h 207 (by decide) (xa_207 J ad) (i) rfl (by omega) (by decide) dX7_doThing_118 ?_
    refine lv_as (y := nI (y.2.1)) (a1) ?_
    refine rg_civ (As := [.int (nI (y.2.1))]) (rest := []) X hl.1 h (c_X5_endDays l J z ad G 1 isB_1 R hR (nI y.2.1)) mw_299 mw_300 mw_301 mw_14 mw_302 pdX5_endDays (isB_1.lt (c := 0) (by decide)) (so_0 isB_1 J ad _) rfl rfl ⟨Nat.le_of_ble_eq_true rfl, Nat.le_of_ble_eq_true rfl⟩ ⟨Nat.le_of_ble_eq_true rfl, Nat.le_of_ble_eq_true rfl⟩ rfl (Nat.le_of_ble_eq_true rfl) dX7_doThing_119 (fun r3 G3 H locs q3 h => ?_)
    exact hret r3 G3 _ _ 122 _ (⟨by unfold dsA; rw [if_neg (by omega), if_neg (by omega)]; exact q3.1, q3.2.1, by unfold dsR; rw [if_neg (by omega), if_neg (by omega)]; exact q3.2.2⟩) h dX7_doThing_122
set_option maxHeartbeats 4000000 in
set_option maxRecDepth 100000 in
theorem c_X7_perform (l : Launch) (J : JJ) (z : Nat) (ad : Nat → Nat) (G : GG) (n mm : Nat) (hn : G 210 4 = nI n) (hn60 : n ≤ 60) (hm : G 210 1 = nI mm) (hm4 : mm ≤ 4) (hC : Cls G G) : MI l J z ad yX7_perform cX7_perform 4 .int 6 [.ref (ad 0)] G (fun ans uG => PubP G (pfA G n) (pfV G n mm) ans uG) := by
  refine MI.go (by decide) (Nat.le_of_ble_eq_true rfl) ?_
  intro pr e s m args below meth c ls Q X h hl hret
  have hx := X.1
  have hb := X.2.1
  have hown := X.2.2.2.1
  have hts := X.2.2.2.2
  have hl : lv_has ls 4 [(0, .ref (ad 0))] := hl
  refine lv_aload_n hx hb dX7_perform_0 rfl (lv_at hl 0 rfl) ?_
  refine fg_X7_35 X h dX7_perform_1 ?_
  refine rg_civ (As := []) (rest := []) X hl.1 h ((by have := c_X2_read l J z ad G (G 212) hC.2.2.2.1.2.1 (G 203) n (hC.2.2.2.1.1.trans hn) hn60; rw [u1_self] at this; exact this)) mw_453 mw_454 mw_455 mw_25 mw_456 pdX2_read (by decide) (xo_203 J ad _) rfl rfl ⟨Nat.le_of_ble_eq_true rfl, Nat.le_of_ble_eq_true rfl⟩ ⟨Nat.le_of_ble_eq_true rfl, Nat.le_of_ble_eq_true rfl⟩ rfl (Nat.le_of_ble_eq_true rfl) dX7_perform_4 (fun r1 G1 H locs q1 h => ?_)
  obtain ⟨f1, f2, ra, f3⟩ := q1
  have e212 : G1 212 = G 212 := f1 212 (by omega)
  have e211 : G1 211 = G 211 := f1 211 (by omega)
  have e210 : G1 210 = G 210 := f1 210 (by omega)
  have hC1 : Cls G1 G1 := hC.mv2 (fun k hk => f1 k (by omega)) (f2.trans (hn.symm.trans hC.2.2.2.1.1.symm)) (fun j hj => by rw [e210]) e212 (fun k hk => by rw [e211])
  have hpf : pfA G n = pfA G n := rfl
  rcases hP2 : (prs (G 212) n (n + 1) 0).2 with _ | q
  · obtain ⟨g3, gL, gA⟩ := f3 hP2
    obtain ⟨L, hL⟩ : ∃ L, (prs (G 212) n (n + 1) 0).1 = L := ⟨_, rfl⟩
    rw [hL] at g3 gL gA
    obtain ⟨R0, hR0⟩ : ∃ R0, cpS (G 211) 0 6 = R0 := ⟨_, rfl⟩
    refine lv_as (y := (-1)) (by rw [ra, hP2]; rfl) ?_
    refine lv_istore_n (lv' := [(1, .int ((-1))), (0, .ref (ad 0))]) hx hb dX7_perform_7 rfl hl (by decide) rfl (fun ls hl => ?_)
    refine lv_iload_n hx hb dX7_perform_8 rfl (lv_at hl 0 rfl) ?_
    refine lv_iconst (v := (-1)) hx hb dX7_perform_9 (by decide) ?_
    refine lv_icmp_eq (tgt := 18) hx hb dX7_perform_10 (by decide) (fun c_10 => ?_) (fun c_10 => absurd (rfl) c_10)
    refine lv_aload_n hx hb dX7_perform_18 rfl (lv_at hl 1 rfl) ?_
    refine fg_X7_16 X h dX7_perform_19 ?_
    refine lv_aload_n hx hb dX7_perform_22 rfl (lv_at hl 1 rfl) ?_
    refine fg_X7_12 X h dX7_perform_23 ?_
    refine rg_cvv (As := [.ref (ad 1)]) (rest := []) X hl.1 h (c_X5_copyFrom l J z ad G1 26 1 isB_26 isB_1 (by omega)) mw_116 mw_117 mw_118 mw_14 mw_119 pdX5_copyFrom (isB_26.lt (c := 0) (by decide)) (so_0 isB_26 J ad _) rfl rfl ⟨Nat.le_of_ble_eq_true rfl, Nat.le_of_ble_eq_true rfl⟩ ⟨Nat.le_of_ble_eq_true rfl, Nat.le_of_ble_eq_true rfl⟩ rfl (Nat.le_of_ble_eq_true rfl) dX7_perform_26 (fun G2 H locs q2 h => ?_)
    refine lv_iconst (v := nI 0) hx hb dX7_perform_29 (by decide) ?_
    refine lv_istore_n (lv' := [(2, .int (nI 0)), (1, .int ((-1))), (0, .ref (ad 0))]) hx hb dX7_perform_30 rfl hl (by decide) rfl (fun ls hl => ?_)
    have hW0 : WR R0 := by rw [← hR0]; exact req_WR (cpS_0 (G 211) (by decide)) hC.1.1.1
    have hRs : Rep G2 1 R0 := by rw [← hR0]; exact Rep_req (cpS_0 (G 211) (by decide)) (Rep_frame (fun k a b => (q2.1 k (by omega)).trans (f1 k (by omega))) hC.1)
    have LP : ∀ (fu k : Nat) (U : GG) (R : Nat → Int32) (dn ys : List TH), L.length + 1 ≤ k + fu → L = dn ++ ys → dn.length = k → rnL L R0 0 = rnL ys R k → frm G2 U 1 → Rep U 1 R → HiEq R0 R → ∀ (H : Heap) (locs : List Loc) (ls : Array Slot), HG J z ad s U H locs → lv_has ls 4 [(0, .ref (ad 0)), (1, .int ((-1))), (2, .int (nI k))] → W pr l e (rmD 6 0 0) s m args below meth c H locs 0 0 Q (F0 m 31 ls []) := by
      intro fu
      induction fu with
      | zero =>
        intro k U R dn ys g1 g2 g3
        exact absurd g1 (by rw [g2, List.length_append]; omega)
      | succ fu ih =>
        intro k U R dn ys g1 hLd hdk hrn hfr hRU hhi H locs ls h hl
        have hLk : L.length = k + ys.length := by rw [hLd, List.length_append, hdk]
        have hU3 : U 203 3 = nI L.length := (congrFun (hfr 203 (by omega)) 3).trans ((congrFun (q2.1 203 (by omega)) 3).trans g3)
        refine lv_iload_n hx hb dX7_perform_31 rfl (lv_at hl 2 rfl) ?_
        refine lv_aload_n hx hb dX7_perform_32 rfl (lv_at hl 0 rfl) ?_
        refine fg_X7_35 X h dX7_perform_33 ?_
        refine fg_X7_78 X h dX7_perform_36 ?_
        refine lv_as (y := nI (L.length)) (hU3) ?_
        refine lv_icmp_ge (tgt := 88) hx hb dX7_perform_39 (by decide) (fun c_39 => ?_) (fun c_39 => ?_)
        · rw [nI_leI (by omega) (by omega)] at c_39
          refine lv_aload_n hx hb dX7_perform_88 rfl (lv_at hl 0 rfl) ?_
          refine lv_aload_n hx hb dX7_perform_89 rfl (lv_at hl 0 rfl) ?_
          refine fg_X7_35 X h dX7_perform_90 ?_
          refine fg_X7_78 X h dX7_perform_93 ?_
          refine lv_as (y := nI (L.length)) (hU3) ?_
          have hys : ys = [] := List.length_eq_zero_iff.mp (by omega)
          subst hys
          have hrf : rnL L R0 0 = (none, R) := hrn
          have hA := Cls_act hC1 q2 hfr hRU (by rw [e211, hR0]; exact hhi)
          refine rg_civ (As := [.int (nI (L.length))]) (rest := []) X hl.1 h (c_X7_recorded l J z ad U G1 R mm (by rw [e210]; exact hm) hm4 hA.1 hA.2 (nI L.length)) mw_161 mw_162 mw_163 mw_2 mw_164 pdX7_recorded (by decide) (xo_0 J ad _) rfl rfl ⟨Nat.le_of_ble_eq_true rfl, Nat.le_of_ble_eq_true rfl⟩ ⟨Nat.le_of_ble_eq_true rfl, Nat.le_of_ble_eq_true rfl⟩ rfl (Nat.le_of_ble_eq_true rfl) dX7_perform_96 (fun r3 G3 H locs q3 h => ?_)
          exact hret r3 G3 _ _ 99 _ (by
                      obtain ⟨b1, b2, b3⟩ := q3
                      refine ⟨by unfold pfA; rw [hP2, hL, hR0, hrf]; exact b1, fun k hk => (b2 k (by omega)).trans ((hfr k (by omega)).trans ((q2.1 k (by omega)).trans (f1 k (by omega)))), ?_⟩
                      unfold pfV
                      rw [hP2, hL, hR0, hrf]
                      dsimp only
                      unfold actG at b3 ⊢
                      rw [if_pos (nI_pos' (by omega))] at b3 ⊢
                      exact b3.mv (fun _ _ => rfl) (fun j hj => by rw [u1_s, u1_s, e210]) (by rw [u1_n (by decide), u1_n (by decide), u1_n (by decide), u1_n (by decide), e212]) (fun k hk => by rw [u1_n (by decide), u1_s, u1_n (by decide), u1_s])
                    ) h dX7_perform_99
        · rw [nI_leI (by omega) (by omega)] at c_39
          refine lv_aload_n hx hb dX7_perform_42 rfl (lv_at hl 0 rfl) ?_
          refine lv_iload_n hx hb dX7_perform_43 rfl (lv_at hl 2 rfl) ?_
          obtain ⟨y, ys, rfl⟩ : ∃ y ys2, ys = y :: ys2 := by
            cases ys with
            | nil => exact absurd hLk (by show ¬ L.length = k + 0; omega)
            | cons y ys => exact ⟨y, ys, rfl⟩
          have hLy : L[k]? = some y := by rw [hLd, List.getElem?_append_right (by omega), hdk, Nat.sub_self]; rfl
          have hyU : thA U k y := (gA k y hLy).cg (fun c g1 g2 => congrFun ((hfr c (by omega)).trans (q2.1 c (by omega))) k)
          refine rg_civ (As := [.int (nI k)]) (rest := []) X hl.1 h (c_X7_doThing l J z ad U R hRU k (by omega) y hyU) mw_487 mw_488 mw_489 mw_2 mw_490 pdX7_doThing (by decide) (xo_0 J ad _) rfl rfl ⟨Nat.le_of_ble_eq_true rfl, Nat.le_of_ble_eq_true rfl⟩ ⟨Nat.le_of_ble_eq_true rfl, Nat.le_of_ble_eq_true rfl⟩ rfl (Nat.le_of_ble_eq_true rfl) dX7_perform_44 (fun r4 G4 H locs q4 h => ?_)
          obtain ⟨rb, hf3, hR3⟩ := q4
          have hfr3 : frm G2 G4 1 := fun c hc => (hf3 c hc).trans (hfr c hc)
          have hWR : WR R := hRU.1.1
          have hhi3 : HiEq R0 (dsR R y) := hhi.tr (dsR_hi hWR y)
          refine lv_as (y := dsA R y) rb ?_
          refine lv_istore_n (lv' := [(3, .int (dsA R y)), (0, .ref (ad 0)), (1, .int ((-1))), (2, .int (nI k))]) hx hb dX7_perform_47 rfl hl (by decide) rfl (fun ls hl => ?_)
          refine lv_iload_n hx hb dX7_perform_48 rfl (lv_at hl 0 rfl) ?_
          refine lv_if_ge (tgt := 82) hx hb dX7_perform_49 (by decide) (fun c_49 => ?_) (fun c_49 => ?_)
          · have hrn2 : rnL L R0 0 = rnL ys (dsR R y) (k + 1) := by rw [hrn]; exact if_neg (fun q => by first | exact Int32.not_lt.mpr c_49 q.1 | exact q.2 c_55)
            refine lv_iinc (v := nI (k + 1)) (lv' := [(2, .int (nI (k + 1))), (3, .int (dsA R y)), (0, .ref (ad 0)), (1, .int ((-1)))]) hx hb dX7_perform_82 hl (k := 3) rfl (nI_addc (b := 1) (by omega)) (by decide) rfl (fun ls hl => ?_)
            refine lv_goto (tgt := 31) hx hb dX7_perform_85 (by decide) ?_
            exact ih (k + 1) _ (dsR R y) (dn ++ [y]) ys (by omega) (by rw [hLd, List.append_assoc]; rfl) (by rw [List.length_append, hdk]; rfl) hrn2 hfr3 hR3 hhi3 _ _ _ h (lv_sub hl [2, 3, 0] rfl)
          · refine lv_iload_n hx hb dX7_perform_52 rfl (lv_at hl 0 rfl) ?_
            refine lv_bipush (v := (-5)) hx hb dX7_perform_53 (by decide) ?_
            refine lv_icmp_eq (tgt := 82) hx hb dX7_perform_55 (by decide) (fun c_55 => ?_) (fun c_55 => ?_)
            · have hrn2 : rnL L R0 0 = rnL ys (dsR R y) (k + 1) := by rw [hrn]; exact if_neg (fun q => by first | exact Int32.not_lt.mpr c_49 q.1 | exact q.2 c_55)
              refine lv_iinc (v := nI (k + 1)) (lv' := [(2, .int (nI (k + 1))), (3, .int (dsA R y)), (0, .ref (ad 0)), (1, .int ((-1)))]) hx hb dX7_perform_82 hl (k := 3) rfl (nI_addc (b := 1) (by omega)) (by decide) rfl (fun ls hl => ?_)
              refine lv_goto (tgt := 31) hx hb dX7_perform_85 (by decide) ?_
              exact ih (k + 1) _ (dsR R y) (dn ++ [y]) ys (by omega) (by rw [hLd, List.append_assoc]; rfl) (by rw [List.length_append, hdk]; rfl) hrn2 hfr3 hR3 hhi3 _ _ _ h (lv_sub hl [2, 3, 0] rfl)
            · have hst : rnL L R0 0 = (some (k, dsA R y), dsR R y) := by rw [hrn]; exact if_pos ⟨Int32.not_le.mp c_49, c_55⟩
              refine lv_aload_n hx hb dX7_perform_58 rfl (lv_at hl 1 rfl) ?_
              refine fg_X7_12 X h dX7_perform_59 ?_
              refine lv_aload_n hx hb dX7_perform_62 rfl (lv_at hl 1 rfl) ?_
              refine fg_X7_16 X h dX7_perform_63 ?_
              refine rg_cvv (As := [.ref (ad 26)]) (rest := []) X hl.1 h (c_X5_copyFrom l J z ad G4 1 26 isB_1 isB_26 (by omega)) mw_116 mw_117 mw_118 mw_14 mw_119 pdX5_copyFrom (isB_1.lt (c := 0) (by decide)) (so_0 isB_1 J ad _) rfl rfl ⟨Nat.le_of_ble_eq_true rfl, Nat.le_of_ble_eq_true rfl⟩ ⟨Nat.le_of_ble_eq_true rfl, Nat.le_of_ble_eq_true rfl⟩ rfl (Nat.le_of_ble_eq_true rfl) dX7_perform_66 (fun G5 H locs q5 h => ?_)
              refine lv_aload_n hx hb dX7_perform_69 rfl (lv_at hl 1 rfl) ?_
              refine lv_iload_n hx hb dX7_perform_70 rfl (lv_at hl 3 rfl) ?_
              refine fp_X7_85 X h dX7_perform_71 (fun H locs h => ?_)
              refine lv_aload_n hx hb dX7_perform_74 rfl (lv_at hl 1 rfl) ?_
              refine lv_iload_n hx hb dX7_perform_75 rfl (lv_at hl 0 rfl) ?_
              refine fp_X7_88 X h dX7_perform_76 (fun H locs h => ?_)
              rw [u1_uu] at h
              refine lv_bipush (v := (-4)) hx hb dX7_perform_79 (by decide) ?_
              exact hret (-4) (u1 G5 0 (upd (upd (G5 0) 7 (nI k)) 8 (dsA R y))) _ _ 81 _ (by
                              have hRb : Rep G2 26 (G 211) := q2.rep (Rep_frame (fun k a b => f1 k (by omega)) hC.1)
                              have hRc : Rep G5 1 (G 211) := q5.rep (Rep_frame (fun k a b => hfr3 k (by omega)) hRb)
                              have hk0 : ∀ k, (k < 1 ∨ 50 ≤ k) → G5 k = G1 k := fun k hk => (q5.1 k (by omega)).trans ((hfr3 k (by omega)).trans (q2.1 k (by omega)))
                              have he0 : dsA R y ≠ 0 := fun e => c_49 (by rw [e]; decide)
                              refine ⟨by unfold pfA; rw [hP2, hL, hR0, hst], fun k hk => ?_, ?_⟩
                              · rw [u1_n (by omega), hk0 k (by omega)]
                                exact f1 k (by omega)
                              · unfold pfV
                                rw [hP2, hL, hR0, hst]
                                exact stop_C hC hn he0 (Rep_frame (fun k a b => u1_n (by omega)) hRc) (fun k hk => by rw [u1_n (by omega), hk0 k (by omega)]; exact f1 k (by omega)) (by rw [u1_n (by decide), hk0 203 (by omega)]; exact f2) (by rw [u1_s, upd_n (by decide), upd_n (by decide), hk0 0 (by omega), f1 0 (by omega)]) (by rw [u1_s, upd_n (by decide), upd_s]) (by rw [u1_s, upd_s])
                            ) h dX7_perform_81
    exact LP (L.length + 1) 0 G2 R0 [] L (by omega) rfl rfl rfl (fun _ _ => rfl) hRs (HiEq.rf R0) _ _ _ h (lv_sub hl [2, 1, 0] rfl)
  · have hqn : q ≤ n := prs_le (fun p hp => thO_le hp) (by omega) hP2
    refine lv_as (y := nI q) (by rw [ra, hP2]; rfl) ?_
    refine lv_istore_n (lv' := [(1, .int (nI q)), (0, .ref (ad 0))]) hx hb dX7_perform_7 rfl hl (by decide) rfl (fun ls hl => ?_)
    refine lv_iload_n hx hb dX7_perform_8 rfl (lv_at hl 0 rfl) ?_
    refine lv_iconst (v := (-1)) hx hb dX7_perform_9 (by decide) ?_
    refine lv_icmp_eq (tgt := 18) hx hb dX7_perform_10 (by decide) (fun c_10 => absurd c_10 (nI_m1 (by omega))) (fun c_10 => ?_)
    refine lv_bipush (v := (-100)) hx hb dX7_perform_13 (by decide) ?_
    refine lv_iload_n hx hb dX7_perform_15 rfl (lv_at hl 0 rfl) ?_
    refine lv_isub hx hb dX7_perform_16 ?_
    exact hret ((-100) - (nI q)) G1 _ _ 17 _ (⟨by unfold pfA; rw [hP2], fun k hk => f1 k (by omega), by unfold pfV; rw [hP2]; exact hC1.mv (fun _ _ => rfl) (fun j hj => by rw [e210]) e212.symm (fun k hk => by rw [e211])⟩) h dX7_perform_17
