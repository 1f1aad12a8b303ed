set_option maxHeartbeats 4000000 in
set_option maxRecDepth 100000 in
theorem c_X8_sorts (l : Launch) (J : JJ) (z : Nat) (ad : Nat → Nat) (G : GG) (r : Nat → Int32) (B : Nat) (hB : B ≤ 4284) (hW : WR r) : MV l J z ad yX8_sorts cX8_sorts 4 2 [.ref (ad 210), .int (nI B)] (RG G B r) (fun uG => ∃ (og : Nat → Int32) (σ : Nat → Nat), uG = RG (u1 G 213 og) B r ∧ OrdS (supp r) (mn r) σ ∧ ∀ j, j < mn r → og j = nI (σ j)) := by
  refine MV.go (by decide) (Nat.le_of_ble_eq_true rfl) ?_
  intro pr e s m args below meth c ls Q X h hl hret
  have hx := X.1
  have hb := X.2.1
  have hown := X.2.2.2.1
  have hts := X.2.2.2.2
  have hl : lv_has ls 4 [(0, .ref (ad 210)), (1, .int (nI B))] := hl
  have hW0 := hW
  obtain ⟨⟨w1, w2⟩, ⟨w3, w4⟩, ⟨w5, w6⟩, w7, w8⟩ := hW
  refine lv_iconst (v := nI 0) hx hb dX8_sorts_0 (by decide) ?_
  refine lv_istore_n (lv' := [(2, .int (nI 0)), (0, .ref (ad 210)), (1, .int (nI B))]) hx hb dX8_sorts_1 rfl hl (by decide) rfl (fun ls hl => ?_)
  have LP : ∀ (n k : Nat), mn r + 1 ≤ k + n → k ≤ mn r → ∀ (og : Nat → Int32) (σ : Nat → Nat), OrdS (supp r) k σ → (∀ j, j < k → og j = nI (σ j)) → ∀ (H : Heap) (locs : List Loc) (ls : Array Slot), HG J z ad s (RG (u1 G 213 og) B r) H locs → lv_has ls 4 [(0, .ref (ad 210)), (1, .int (nI B)), (2, .int (nI k))] → W pr l e (rmD 2 0 0) s m args below meth c H locs 0 0 Q (F0 m 2 ls []) := by
    intro n
    induction n with
    | zero =>
      intro k g1 g2
      exact absurd g1 (by omega)
    | succ n ih =>
      intro k g1 g2 og σ hO ho H locs ls h hl
      refine lv_iload_n hx hb dX8_sorts_2 rfl (lv_at hl 2 rfl) ?_
      refine lv_aload_n hx hb dX8_sorts_3 rfl (lv_at hl 0 rfl) ?_
      refine fg_X8_7 X h dX8_sorts_4 ?_
      refine lv_iload_n hx hb dX8_sorts_7 rfl (lv_at hl 1 rfl) ?_
      refine lv_bipush (v := nI 6) hx hb dX8_sorts_8 (by decide) ?_
      refine lv_iadd hx hb dX8_sorts_10 ?_
      refine lv_as (y := nI (B + 6)) (nI_addc (by omega)) ?_
      refine rs_ld X h B (6) (congrArg nI (by omega)) (by omega) dX8_sorts_11 ?_
      refine lv_as (y := nI ((mn r))) ((congrFun (RG_row (u1 G 213 og) B r) _).trans (w3)) ?_
      refine lv_icmp_ge (tgt := 76) hx hb dX8_sorts_12 (by decide) (fun c_12 => ?_) (fun c_12 => ?_)
      · rw [nI_leI (by omega) (by omega)] at c_12
        exact hret (RG (u1 G 213 og) B r) _ _ 76 _ (⟨og, σ, rfl, by rw [show mn r = k by omega]; exact hO, fun j hj => ho j (by omega)⟩) h dX8_sorts_76
      · rw [nI_leI (by omega) (by omega)] at c_12
        refine lv_iload_n hx hb dX8_sorts_15 rfl (lv_at hl 2 rfl) ?_
        refine lv_istore_n (lv' := [(3, .int (nI k)), (0, .ref (ad 210)), (1, .int (nI B)), (2, .int (nI k))]) hx hb dX8_sorts_16 rfl hl (by decide) rfl (fun ls hl => ?_)
        have K63 : ∀ t, t ≤ k → ∀ (og1 : Nat → Int32), (∀ j, j < t → og1 j = nI (σ j)) → (∀ j, t < j → j ≤ k → og1 j = nI (σ (j - 1)) ∧ supp r (σ (j - 1)) < supp r k) → (t = 0 ∨ ¬ supp r (σ (t - 1)) < supp r k) → ∀ (H : Heap) (locs : List Loc) (ls : Array Slot), HG J z ad s (RG (u1 G 213 og1) B r) H locs → lv_has ls 4 [(0, .ref (ad 210)), (1, .int (nI B)), (2, .int (nI k)), (3, .int (nI t))] → W pr l e (rmD 2 0 0) s m args below meth c H locs 0 0 Q (F0 m 63 ls []) := by
          intro t ht og1 h1 h2 h3 H locs ls h hl
          obtain ⟨σ2, hO2, ho2⟩ := ord_step hO ht h1 h2 h3
          refine lv_aload_n hx hb dX8_sorts_63 rfl (lv_at hl 0 rfl) ?_
          refine fg_X8_23 X h dX8_sorts_64 ?_
          refine lv_iload_n hx hb dX8_sorts_67 rfl (lv_at hl 3 rfl) ?_
          refine lv_iload_n hx hb dX8_sorts_68 rfl (lv_at hl 2 rfl) ?_
          refine rg_ist X h 213 (by decide) (xa_213 J ad) (t) rfl (by omega) (by decide) dX8_sorts_69 (fun H locs h => ?_)
          rw [RG_put (by decide)] at h
          rw [u1_uu] at h
          refine lv_iinc (v := nI (k + 1)) (lv' := [(2, .int (nI (k + 1))), (0, .ref (ad 210)), (1, .int (nI B)), (3, .int (nI t))]) hx hb dX8_sorts_70 hl (k := 2) rfl (nI_addc (b := 1) (by omega)) (by decide) rfl (fun ls hl => ?_)
          refine lv_goto (tgt := 2) hx hb dX8_sorts_73 (by decide) ?_
          exact ih (k + 1) (by omega) (by omega) _ _ hO2 ho2 _ _ _ h (lv_sub hl [1, 2, 0] rfl)
        have IN : ∀ t, t ≤ k → ∀ (og1 : Nat → Int32), (∀ j, j < t → og1 j = nI (σ j)) → (∀ j, t < j → j ≤ k → og1 j = nI (σ (j - 1)) ∧ supp r (σ (j - 1)) < supp r k) → ∀ (H : Heap) (locs : List Loc) (ls : Array Slot), HG J z ad s (RG (u1 G 213 og1) B r) H locs → lv_has ls 4 [(0, .ref (ad 210)), (1, .int (nI B)), (2, .int (nI k)), (3, .int (nI t))] → W pr l e (rmD 2 0 0) s m args below meth c H locs 0 0 Q (F0 m 17 ls []) := by
          intro t
          induction t with
          | zero =>
            intro ht og1 h1 h2 H locs ls h hl
            refine lv_iload_n hx hb dX8_sorts_17 rfl (lv_at hl 3 rfl) ?_
            refine lv_if_le (tgt := 63) hx hb dX8_sorts_18 (by decide) (fun c_18 => ?_) (fun c_18 => absurd (by decide) c_18)
            exact K63 0 (by omega) _ h1 h2 (Or.inl rfl) _ _ _ h (lv_sub hl [0, 1, 2, 3] rfl)
          | succ t ih17 =>
            intro ht og1 h1 h2 H locs ls h hl
            refine lv_iload_n hx hb dX8_sorts_17 rfl (lv_at hl 3 rfl) ?_
            refine lv_if_le (tgt := 63) hx hb dX8_sorts_18 (by decide) (fun c_18 => absurd c_18 (by rw [nz_le (by omega)]; omega)) (fun c_18 => ?_)
            refine lv_aload_n hx hb dX8_sorts_21 rfl (lv_at hl 0 rfl) ?_
            refine lv_iload_n hx hb dX8_sorts_22 rfl (lv_at hl 1 rfl) ?_
            refine lv_aload_n hx hb dX8_sorts_23 rfl (lv_at hl 0 rfl) ?_
            refine fg_X8_23 X h dX8_sorts_24 ?_
            refine lv_iload_n hx hb dX8_sorts_27 rfl (lv_at hl 3 rfl) ?_
            refine lv_iconst (v := nI 1) hx hb dX8_sorts_28 (by decide) ?_
            refine lv_isub hx hb dX8_sorts_29 ?_
            refine lv_as (y := nI t) (nI_subc (by omega)) ?_
            refine rg_ild X h 213 (by decide) (xa_213 J ad) (t) rfl (by omega) (by decide) dX8_sorts_30 ?_
            refine lv_as (y := (u1 G 213 og1) 213 t) (RG_get (by decide)) ?_
            refine lv_as (y := nI ((σ t))) (h1 t (by omega)) ?_
            refine rg_civd (As := [.int (nI B), .int (nI ((σ t)))]) (rest := []) X hl.1 h (c_X8_support l J z ad (RG (u1 G 213 og1) B r) r B hB (RG_row (u1 G 213 og1) B r) hW0 (σ t) (by have := hO.1 t (by omega); omega)) mw_291 mw_292 mw_293 mw_5 mw_294 pdX8_support (by decide) (xo_210 J ad _) rfl rfl ⟨Nat.le_of_ble_eq_true rfl, Nat.le_of_ble_eq_true rfl⟩ ⟨Nat.le_of_ble_eq_true rfl, Nat.le_of_ble_eq_true rfl⟩ rfl (Nat.le_of_ble_eq_true rfl) dX8_sorts_31 (fun H locs h => ?_)
            refine lv_aload_n hx hb dX8_sorts_34 rfl (lv_at hl 0 rfl) ?_
            refine lv_iload_n hx hb dX8_sorts_35 rfl (lv_at hl 1 rfl) ?_
            refine lv_iload_n hx hb dX8_sorts_36 rfl (lv_at hl 2 rfl) ?_
            refine rg_civd (As := [.int (nI B), .int (nI k)]) (rest := [.int (supp r (σ t))]) X hl.1 h (c_X8_support l J z ad (RG (u1 G 213 og1) B r) r B hB (RG_row (u1 G 213 og1) B r) hW0 k (by omega)) mw_291 mw_292 mw_293 mw_5 mw_294 pdX8_support (by decide) (xo_210 J ad _) rfl rfl ⟨Nat.le_of_ble_eq_true rfl, Nat.le_of_ble_eq_true rfl⟩ ⟨Nat.le_of_ble_eq_true rfl, Nat.le_of_ble_eq_true rfl⟩ rfl (Nat.le_of_ble_eq_true rfl) dX8_sorts_37 (fun H locs h => ?_)
            refine lv_icmp_ge (tgt := 63) hx hb dX8_sorts_40 (by decide) (fun c_40 => ?_) (fun c_40 => ?_)
            · exact K63 (t + 1) (by omega) _ h1 h2 (Or.inr (by show ¬ supp r (σ (t + 1 - 1)) < _; rw [show t + 1 - 1 = t by omega]; exact Int32.not_lt.mpr c_40)) _ _ _ h (lv_sub hl [0, 1, 2, 3] rfl)
            · refine lv_aload_n hx hb dX8_sorts_43 rfl (lv_at hl 0 rfl) ?_
              refine fg_X8_23 X h dX8_sorts_44 ?_
              refine lv_iload_n hx hb dX8_sorts_47 rfl (lv_at hl 3 rfl) ?_
              refine lv_aload_n hx hb dX8_sorts_48 rfl (lv_at hl 0 rfl) ?_
              refine fg_X8_23 X h dX8_sorts_49 ?_
              refine lv_iload_n hx hb dX8_sorts_52 rfl (lv_at hl 3 rfl) ?_
              refine lv_iconst (v := nI 1) hx hb dX8_sorts_53 (by decide) ?_
              refine lv_isub hx hb dX8_sorts_54 ?_
              refine lv_as (y := nI t) (nI_subc (by omega)) ?_
              refine rg_ild X h 213 (by decide) (xa_213 J ad) (t) rfl (by omega) (by decide) dX8_sorts_55 ?_
              refine lv_as (y := (u1 G 213 og1) 213 t) (RG_get (by decide)) ?_
              refine lv_as (y := nI ((σ t))) (h1 t (by omega)) ?_
              refine rg_ist X h 213 (by decide) (xa_213 J ad) (t + 1) rfl (by omega) (by decide) dX8_sorts_56 (fun H locs h => ?_)
              rw [RG_put (by decide)] at h
              rw [u1_uu] at h
              refine lv_iinc (v := nI t) (lv' := [(3, .int (nI t)), (0, .ref (ad 210)), (1, .int (nI B)), (2, .int (nI k))]) hx hb dX8_sorts_57 hl (k := 3) rfl (nI_decc (by omega)) (by decide) rfl (fun ls hl => ?_)
              refine lv_goto (tgt := 17) hx hb dX8_sorts_60 (by decide) ?_
              exact ih17 (by omega) _ (fun j hj => by rw [upd_n (by omega)]; exact h1 j (by omega)) (fun j j1 j2 => by
                by_cases hj : j = t + 1
                · subst hj
                  rw [upd_s]
                  exact ⟨rfl, Int32.not_le.mp c_40⟩
                · rw [upd_n hj]
                  exact h2 j (by omega) j2) _ _ _ h (lv_sub hl [1, 2, 3, 0] rfl)
        exact IN k (by omega) og ho (fun j j1 j2 => by omega) _ _ _ h (lv_sub hl [1, 2, 3, 0] rfl)
  exact LP (mn r + 1) 0 (by omega) (by omega) (G 213) (fun j => j) ⟨fun j hj => by omega, fun i j g1 g2 => by omega, fun P => rfl⟩ (fun j hj => by omega) _ _ _ (by rw [u1_self]; exact h) (lv_sub hl [1, 2, 0] rfl)
