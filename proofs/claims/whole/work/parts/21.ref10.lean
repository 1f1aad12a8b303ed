
theorem inN_1 {x : Int32} {ch : Nat} (h : ch < 2 ^ 31) : inN x ch ch ↔ x = nI ch := ⟨fun ⟨d, h1, h2, e⟩ => by rw [e, show d = ch by omega], fun e => ⟨ch, Nat.le_refl _, Nat.le_refl _, e⟩⟩
theorem tk_eq {t : Nat → Int32} {n q ch : Nat} (h : ch < 2 ^ 31) : nI q + b2 (q < n ∧ inN (t q) ch ch) = nI (tkP t n q ch) := by
  unfold tkP
  rcases Classical.em (isC t n q ch) with g | g
  · rw [cif_t g, b2_t ⟨g.1, (inN_1 h).mpr g.2⟩]
    exact nI_add q 1
  · rw [cif_f g, b2_f (fun k => g ⟨k.1, (inN_1 h).mp k.2⟩)]
    exact nI_add q 0

theorem upd_self (f : Nat → Int32) (k : Nat) : upd f k (f k) = f := by
  funext j
  by_cases h : j = k
  · subst h
    rw [upd_s]
  · rw [upd_n h]
set_option maxHeartbeats 4000000 in
set_option maxRecDepth 100000 in
theorem c_X8_isHere (l : Launch) (J : JJ) (z : Nat) (ad : Nat → Nat) (G : GG) (f : Nat → Int32) (n q : Nat) (hn : f 4 = nI n) (hn60 : n ≤ 60) (hq : f 9 = nI q) (hq61 : q ≤ 61) (a b : Nat) (ha : a < 2 ^ 31) (hb2 : b < 2 ^ 31) : MI l J z ad yX8_isHere cX8_isHere 3 .boolean 1 [.ref (ad 210), .int (nI a), .int (nI b)] (u1 G 210 f) (fun ans uG => ans = (b2 (q < n ∧ inN (G 212 q) a b)) ∧ uG = (u1 G 210 f)) := by
  refine MZ.go (by decide) (Nat.le_of_ble_eq_true rfl) ?_
  intro pr e s m args below meth c ls Q X h hl hret
  have hx := X.1
  have hb := X.2.1
  have hown := X.2.2.2.1
  have hts := X.2.2.2.2
  have hl : lv_has ls 3 [(0, .ref (ad 210)), (1, .int (nI a)), (2, .int (nI b))] := hl
  refine lv_aload_n hx hb dX8_isHere_0 rfl (lv_at hl 0 rfl) ?_
  refine fg_X8_124 X h dX8_isHere_1 ?_
  refine lv_as (y := nI q) ((congrFun (u1_s G 210 f) 9).trans (hq)) ?_
  refine lv_aload_n hx hb dX8_isHere_4 rfl (lv_at hl 0 rfl) ?_
  refine fg_X8_121 X h dX8_isHere_5 ?_
  refine lv_as (y := nI n) ((congrFun (u1_s G 210 f) 4).trans (hn)) ?_
  refine lv_icmp_ge (tgt := 32) hx hb dX8_isHere_8 (by decide) (fun c_8 => ?_) (fun c_8 => ?_)
  · rw [nI_leI (by omega) (by omega)] at c_8
    refine lv_iconst (v := nI 0) hx hb dX8_isHere_32 (by decide) ?_
    exact hret (nI 0) (u1 G 210 f) _ _ 33 _ (⟨(b2_f (fun k => by first | exact c_25 k.2 | omega)).symm, rfl⟩) h rfl dX8_isHere_33
  · rw [nI_leI (by omega) (by omega)] at c_8
    refine lv_aload_n hx hb dX8_isHere_11 rfl (lv_at hl 0 rfl) ?_
    refine fg_X8_13 X h dX8_isHere_12 ?_
    refine lv_aload_n hx hb dX8_isHere_15 rfl (lv_at hl 0 rfl) ?_
    refine fg_X8_124 X h dX8_isHere_16 ?_
    refine lv_as (y := nI q) ((congrFun (u1_s G 210 f) 9).trans (hq)) ?_
    refine rg_ild X h 212 (by decide) (xa_212 J ad) (q) rfl (by omega) (by decide) dX8_isHere_19 ?_
    refine lv_as (y := G 212 q) (congrFun (u1_n (by decide)) _) ?_
    refine lv_iload_n hx hb dX8_isHere_20 rfl (lv_at hl 1 rfl) ?_
    refine lv_iload_n hx hb dX8_isHere_21 rfl (lv_at hl 2 rfl) ?_
    refine rg_cisd (As := [.int (G 212 q), .int (nI a), .int (nI b)]) (rest := []) X hl.1 h (c_X8_inN l J z ad (u1 G 210 f) (G 212 q) a b ha hb2) mw_187 mw_188 mw_5 mw_189 pdX8_in ⟨Nat.le_of_ble_eq_true rfl, Nat.le_of_ble_eq_true rfl⟩ ⟨Nat.le_of_ble_eq_true rfl, Nat.le_of_ble_eq_true rfl⟩ rfl (Nat.le_of_ble_eq_true rfl) dX8_isHere_22 (fun H locs h => ?_)
    refine lv_if_eq (tgt := 32) hx hb dX8_isHere_25 (by decide) (fun c_25 => ?_) (fun c_25 => ?_)
    · rw [b2_z] at c_25
      refine lv_iconst (v := nI 0) hx hb dX8_isHere_32 (by decide) ?_
      exact hret (nI 0) (u1 G 210 f) _ _ 33 _ (⟨(b2_f (fun k => by first | exact c_25 k.2 | omega)).symm, rfl⟩) h rfl dX8_isHere_33
    · rw [b2_z] at c_25
      refine lv_iconst (v := nI 1) hx hb dX8_isHere_28 (by decide) ?_
      refine lv_goto (tgt := 33) hx hb dX8_isHere_29 (by decide) ?_
      exact hret (nI 1) (u1 G 210 f) _ _ 33 _ (⟨(b2_t ⟨by omega, Classical.not_not.mp c_25⟩).symm, rfl⟩) h rfl dX8_isHere_33
set_option maxHeartbeats 4000000 in
set_option maxRecDepth 100000 in
theorem c_X8_takes (l : Launch) (J : JJ) (z : Nat) (ad : Nat → Nat) (G : GG) (f : Nat → Int32) (n q : Nat) (hn : f 4 = nI n) (hn60 : n ≤ 60) (hq : f 9 = nI q) (hq61 : q ≤ 61) (ch : Nat) (hc : ch < 2 ^ 31) : MI l J z ad yX8_takes cX8_takes 3 .boolean 2 [.ref (ad 210), .int (nI ch)] (u1 G 210 f) (fun ans uG => ans = (b2 (isC (G 212) n q ch)) ∧ uG = (u1 G 210 (upd f 9 (nI (tkP (G 212) n q ch))))) := by
  refine MZ.go (by decide) (Nat.le_of_ble_eq_true rfl) ?_
  intro pr e s m args below meth c ls Q X h hl hret
  have hx := X.1
  have hb := X.2.1
  have hown := X.2.2.2.1
  have hts := X.2.2.2.2
  have hl : lv_has ls 3 [(0, .ref (ad 210)), (1, .int (nI ch))] := hl
  refine lv_aload_n hx hb dX8_takes_0 rfl (lv_at hl 0 rfl) ?_
  refine lv_iload_n hx hb dX8_takes_1 rfl (lv_at hl 1 rfl) ?_
  refine lv_iload_n hx hb dX8_takes_2 rfl (lv_at hl 1 rfl) ?_
  refine rg_civd (As := [.int (nI ch), .int (nI ch)]) (rest := []) X hl.1 h (c_X8_isHere l J z ad G f n q hn hn60 hq (by omega) ch ch (by omega) (by omega)) mw_522 mw_523 mw_524 mw_5 mw_525 pdX8_isHere (by decide) (xo_210 J ad _) rfl rfl ⟨Nat.le_of_ble_eq_true rfl, Nat.le_of_ble_eq_true rfl⟩ ⟨Nat.le_of_ble_eq_true rfl, Nat.le_of_ble_eq_true rfl⟩ rfl (Nat.le_of_ble_eq_true rfl) dX8_takes_3 (fun H locs h => ?_)
  refine lv_istore_n (lv' := [(2, .int (b2 (q < n ∧ inN (G 212 q) ch ch))), (0, .ref (ad 210)), (1, .int (nI ch))]) hx hb dX8_takes_6 rfl hl (by decide) rfl (fun ls hl => ?_)
  refine lv_aload_n hx hb dX8_takes_7 rfl (lv_at hl 1 rfl) ?_
  refine lv_dup hx hb dX8_takes_8 rfl ?_
  refine fg_X8_124 X h dX8_takes_9 ?_
  refine lv_as (y := nI q) ((congrFun (u1_s G 210 f) 9).trans (hq)) ?_
  refine lv_iload_n hx hb dX8_takes_12 rfl (lv_at hl 0 rfl) ?_
  refine rg_cisd (As := [.int (b2 (q < n ∧ inN (G 212 q) ch ch))]) (rest := [.int (nI q), .ref (ad 210)]) X hl.1 h (c_X8_flag l J z ad (u1 G 210 f) (q < n ∧ inN (G 212 q) ch ch)) mw_401 mw_402 mw_5 mw_403 pdX8_flag ⟨Nat.le_of_ble_eq_true rfl, Nat.le_of_ble_eq_true rfl⟩ ⟨Nat.le_of_ble_eq_true rfl, Nat.le_of_ble_eq_true rfl⟩ rfl (Nat.le_of_ble_eq_true rfl) dX8_takes_13 (fun H locs h => ?_)
  refine lv_iadd hx hb dX8_takes_16 ?_
  refine lv_as (y := nI (tkP (G 212) n q ch)) (tk_eq hc) ?_
  refine fp_X8_124 X h dX8_takes_17 (fun H locs h => ?_)
  rw [u1_uu] at h
  refine lv_iload_n hx hb dX8_takes_20 rfl (lv_at hl 0 rfl) ?_
  exact hret (b2 (q < n ∧ inN (G 212 q) ch ch)) (u1 G 210 (upd f 9 (nI ((tkP (G 212) n q ch))))) _ _ 21 _ (⟨b2_c ⟨fun k => ⟨k.1, (inN_1 hc).mp k.2⟩, fun k => ⟨k.1, (inN_1 hc).mpr k.2⟩⟩, rfl⟩) h (b2_n _) dX8_takes_21

theorem c_X8_takes_t (l : Launch) (J : JJ) (z : Nat) (ad : Nat → Nat) (G : GG) (f : Nat → Int32) (n q : Nat) (hn : f 4 = nI n) (hn60 : n ≤ 60) (hq : f 9 = nI q) (hq61 : q ≤ 61) (ch : Nat) (hc : ch < 2 ^ 31) (hC : isC (G 212) n q ch) : MI l J z ad yX8_takes cX8_takes 3 .boolean 2 [.ref (ad 210), .int (nI ch)] (u1 G 210 f) (fun ans uG => ans = (nI 1) ∧ uG = (u1 G 210 (upd f 9 (nI (q + 1))))) := by
  have := c_X8_takes l J z ad G f n q hn hn60 hq hq61 ch hc
  rw [b2_t hC, show tkP (G 212) n q ch = q + 1 from cif_t hC] at this
  exact this
theorem c_X8_takes_f (l : Launch) (J : JJ) (z : Nat) (ad : Nat → Nat) (G : GG) (f : Nat → Int32) (n q : Nat) (hn : f 4 = nI n) (hn60 : n ≤ 60) (hq : f 9 = nI q) (hq61 : q ≤ 61) (ch : Nat) (hc : ch < 2 ^ 31) (hC : ¬ isC (G 212) n q ch) : MI l J z ad yX8_takes cX8_takes 3 .boolean 2 [.ref (ad 210), .int (nI ch)] (u1 G 210 f) (fun ans uG => ans = (nI 0) ∧ uG = (u1 G 210 (upd f 9 (nI q)))) := by
  have := c_X8_takes l J z ad G f n q hn hn60 hq hq61 ch hc
  rw [b2_f hC, show tkP (G 212) n q ch = q from cif_f hC] at this
  exact this

set_option maxHeartbeats 4000000 in
set_option maxRecDepth 100000 in
theorem c_X8_number (l : Launch) (J : JJ) (z : Nat) (ad : Nat → Nat) (G : GG) (f : Nat → Int32) (n q : Nat) (hn : f 4 = nI n) (hn60 : n ≤ 60) (hq : f 9 = nI q) (hq61 : q ≤ 61) (lo gr : Nat) (hls : lo = 0 ∨ lo = 1) (hgr : gr ≤ 99) (o : Option Nat) (q2 : Nat) (hN : num (G 212) n q lo gr = (o, q2)) : MI l J z ad yX8_number cX8_number 5 .int 2 [.ref (ad 210), .int (nI lo), .int (nI gr)] (u1 G 210 f) (fun ans uG => ans = (opI o) ∧ uG = (u1 G 210 (upd f 9 (nI q2)))) := by
  refine MI.go (by decide) (Nat.le_of_ble_eq_true rfl) ?_
  intro pr e s m args below meth c ls Q X h hl hret
  have hx := X.1
  have hb := X.2.1
  have hown := X.2.2.2.1
  have hts := X.2.2.2.2
  have hl : lv_has ls 5 [(0, .ref (ad 210)), (1, .int (nI lo)), (2, .int (nI gr))] := hl
  refine lv_bipush (v := (-5)) hx hb dX8_number_0 (by decide) ?_
  refine lv_istore_n (lv' := [(3, .int ((-5))), (0, .ref (ad 210)), (1, .int (nI lo)), (2, .int (nI gr))]) hx hb dX8_number_2 rfl hl (by decide) rfl (fun ls hl => ?_)
  refine lv_aload_n hx hb dX8_number_3 rfl (lv_at hl 1 rfl) ?_
  refine lv_iload_n hx hb dX8_number_4 rfl (lv_at hl 2 rfl) ?_
  refine lv_if_ne (tgt := 13) hx hb dX8_number_5 (by decide) (fun c_5 => ?_) (fun c_5 => ?_)
  · rw [nz_eq (by omega)] at c_5
    refine lv_bipush (v := nI 49) hx hb dX8_number_13 (by decide) ?_
    refine lv_bipush (v := nI 57) hx hb dX8_number_15 (by decide) ?_
    refine rg_civd (As := [.int (nI 49), .int (nI 57)]) (rest := []) X hl.1 h (c_X8_isHere l J z ad G f n q hn hn60 hq (by omega) 49 57 (by omega) (by omega)) mw_522 mw_523 mw_524 mw_5 mw_525 pdX8_isHere (by decide) (xo_210 J ad _) rfl rfl ⟨Nat.le_of_ble_eq_true rfl, Nat.le_of_ble_eq_true rfl⟩ ⟨Nat.le_of_ble_eq_true rfl, Nat.le_of_ble_eq_true rfl⟩ rfl (Nat.le_of_ble_eq_true rfl) dX8_number_17 (fun H locs h => ?_)
    refine lv_if_eq (tgt := 43) hx hb dX8_number_20 (by decide) (fun c_20 => ?_) (fun c_20 => ?_)
    · rw [b2_z] at c_20
      refine lv_iconst (v := nI 0) hx hb dX8_number_43 (by decide) ?_
      refine lv_istore (lv' := [(4, .int (nI 0)), (3, .int ((-5))), (0, .ref (ad 210)), (1, .int (nI lo)), (2, .int (nI gr))]) hx hb dX8_number_44 hl (by decide) rfl (fun ls hl => ?_)
      refine lv_iload hx hb dX8_number_46 (lv_at hl 0 rfl) ?_
      refine lv_if_eq (tgt := 146) hx hb dX8_number_48 (by decide) (fun c_48 => ?_) (fun c_48 => absurd (by decide) c_48)
      refine lv_iload_n hx hb dX8_number_146 rfl (lv_at hl 1 rfl) ?_
      exact hret (-5) (u1 G 210 f) _ _ 147 _ (⟨by unfold num at hN; rw [cif_f (fun k => by first | exact c_20 ⟨k.1.1, by obtain ⟨d, k1, k2, k3⟩ := k.1.2; have k4 := (isD_v k.1).1; have k5 := k.2.1; rw [k3, nI_eq (by omega) (by omega)] at k4; exact ⟨d, by omega, k2, k3⟩⟩ | (have k6 := k.2.2; omega))] at hN; rw [show o = none from (congrArg Prod.fst hN).symm]; rfl, by unfold num at hN; rw [cif_f (fun k => by first | exact c_20 ⟨k.1.1, by obtain ⟨d, k1, k2, k3⟩ := k.1.2; have k4 := (isD_v k.1).1; have k5 := k.2.1; rw [k3, nI_eq (by omega) (by omega)] at k4; exact ⟨d, by omega, k2, k3⟩⟩ | (have k6 := k.2.2; omega))] at hN; rw [show q2 = q from (congrArg Prod.snd hN).symm, ← hq, upd_self]⟩) h dX8_number_147
    · rw [b2_z] at c_20
      have hh := Classical.not_not.mp c_20
      have hD : isD (G 212) n q := ⟨hh.1, by obtain ⟨d, k1, k2, k3⟩ := hh.2; exact ⟨d, by omega, k2, k3⟩⟩
      have hd9 := (isD_v hD).2
      refine lv_aload_n hx hb dX8_number_23 rfl (lv_at hl 1 rfl) ?_
      refine fg_X8_13 X h dX8_number_24 ?_
      refine lv_aload_n hx hb dX8_number_27 rfl (lv_at hl 1 rfl) ?_
      refine fg_X8_124 X h dX8_number_28 ?_
      refine lv_as (y := nI q) ((congrFun (u1_s G 210 f) 9).trans (hq)) ?_
      refine rg_ild X h 212 (by decide) (xa_212 J ad) (q) rfl (by omega) (by decide) dX8_number_31 ?_
      refine lv_as (y := G 212 q) (congrFun (u1_n (by decide)) _) ?_
      refine lv_as (y := nI ((dv (G 212) q) + 48)) ((isD_v (by assumption)).1) ?_
      refine lv_bipush (v := nI 48) hx hb dX8_number_32 (by decide) ?_
      refine lv_isub hx hb dX8_number_34 ?_
      refine lv_as (y := nI ((dv (G 212) q))) (nI_subc (by omega)) ?_
      refine lv_iload_n hx hb dX8_number_35 rfl (lv_at hl 3 rfl) ?_
      refine lv_icmp_gt (tgt := 43) hx hb dX8_number_36 (by decide) (fun c_36 => ?_) (fun c_36 => ?_)
      · rw [nI_ltI (by omega) (by omega)] at c_36
        refine lv_iconst (v := nI 0) hx hb dX8_number_43 (by decide) ?_
        refine lv_istore (lv' := [(4, .int (nI 0)), (3, .int ((-5))), (0, .ref (ad 210)), (1, .int (nI lo)), (2, .int (nI gr))]) hx hb dX8_number_44 hl (by decide) rfl (fun ls hl => ?_)
        refine lv_iload hx hb dX8_number_46 (lv_at hl 0 rfl) ?_
        refine lv_if_eq (tgt := 146) hx hb dX8_number_48 (by decide) (fun c_48 => ?_) (fun c_48 => absurd (by decide) c_48)
        refine lv_iload_n hx hb dX8_number_146 rfl (lv_at hl 1 rfl) ?_
        exact hret (-5) (u1 G 210 f) _ _ 147 _ (⟨by unfold num at hN; rw [cif_f (fun k => by first | exact c_20 ⟨k.1.1, by obtain ⟨d, k1, k2, k3⟩ := k.1.2; have k4 := (isD_v k.1).1; have k5 := k.2.1; rw [k3, nI_eq (by omega) (by omega)] at k4; exact ⟨d, by omega, k2, k3⟩⟩ | (have k6 := k.2.2; omega))] at hN; rw [show o = none from (congrArg Prod.fst hN).symm]; rfl, by unfold num at hN; rw [cif_f (fun k => by first | exact c_20 ⟨k.1.1, by obtain ⟨d, k1, k2, k3⟩ := k.1.2; have k4 := (isD_v k.1).1; have k5 := k.2.1; rw [k3, nI_eq (by omega) (by omega)] at k4; exact ⟨d, by omega, k2, k3⟩⟩ | (have k6 := k.2.2; omega))] at hN; rw [show q2 = q from (congrArg Prod.snd hN).symm, ← hq, upd_self]⟩) h dX8_number_147
      · rw [nI_ltI (by omega) (by omega)] at c_36
        refine lv_iconst (v := nI 1) hx hb dX8_number_39 (by decide) ?_
        refine lv_goto (tgt := 44) hx hb dX8_number_40 (by decide) ?_
        refine lv_istore (lv' := [(4, .int (nI 1)), (3, .int ((-5))), (0, .ref (ad 210)), (1, .int (nI lo)), (2, .int (nI gr))]) hx hb dX8_number_44 hl (by decide) rfl (fun ls hl => ?_)
        have hqn := hD.1
        have hlsd : lo ≤ dv (G 212) q := by
          obtain ⟨-, d, k1, k2, k3⟩ := hh
          have := (isD_v hD).1
          rw [k3, nI_eq (by omega) (by omega)] at this
          omega
        unfold num at hN
        rw [cif_t ⟨hD, hlsd, Nat.not_lt.mp c_36⟩] at hN
        obtain ⟨V, hV⟩ : ∃ V, (nmR (G 212) n gr (dv (G 212) q) (q + 1)).1 = V := ⟨_, rfl⟩
        obtain rfl : some V = o := by rw [← hV]; exact congrArg Prod.fst hN
        have hR0 : nmR (G 212) n gr (dv (G 212) q) (q + 1) = (V, q2) := by rw [← hV, ← show (nmR (G 212) n gr (dv (G 212) q) (q + 1)).2 = q2 from congrArg Prod.snd hN]
        have LP : ∀ (k v p1 : Nat) (f1 : Nat → Int32), n ≤ p1 + k → v ≤ gr → p1 ≤ n → ndC (G 212) n gr v p1 → f1 4 = nI n → f1 9 = nI p1 → (∀ x, upd f1 9 x = upd f 9 x) → nmR (G 212) n gr v p1 = (V, q2) → ∀ (H : Heap) (locs : List Loc) (ls : Array Slot), HG J z ad s (u1 G 210 f1) H locs → lv_has ls 5 [(0, .ref (ad 210)), (1, .int (nI lo)), (2, .int (nI gr)), (3, .int (nI v)), (4, .int (nI 1))] → W pr l e (rmD 2 0 0) s m args below meth c H locs 0 0 Q (F0 m 46 ls []) := by
          intro k
          induction k with
          | zero =>
            intro v p1 f1 g1 g2 g3 g4
            exact absurd g4.2.1.1 (by omega)
          | succ k ih =>
            intro v p1 f1 g1 hv hpn hC hn1 hp1 hf1 hR H locs ls h hl
            have hD1 := hC.2.1
            have hpn1 := hD1.1
            have hd9 := (isD_v hD1).2
            have hv2 := hC.2.2
            rw [nmR_t hC] at hR
            refine lv_iload hx hb dX8_number_46 (lv_at hl 4 rfl) ?_
            refine lv_if_eq (tgt := 146) hx hb dX8_number_48 (by decide) (fun c_48 => absurd c_48 (by decide)) (fun c_48 => ?_)
            refine lv_iload_n hx hb dX8_number_51 rfl (lv_at hl 3 rfl) ?_
            refine lv_bipush (v := (-5)) hx hb dX8_number_52 (by decide) ?_
            refine lv_icmp_ne (tgt := 72) hx hb dX8_number_54 (by decide) (fun c_54 => ?_) (fun c_54 => absurd c_54 (nI_n5 (by omega)))
            refine lv_bipush (v := nI 10) hx hb dX8_number_72 (by decide) ?_
            refine lv_iload_n hx hb dX8_number_74 rfl (lv_at hl 3 rfl) ?_
            refine lv_imul hx hb dX8_number_75 ?_
            refine lv_as (y := nI (10 * v)) (nI_mulc (by omega)) ?_
            refine lv_aload_n hx hb dX8_number_76 rfl (lv_at hl 0 rfl) ?_
            refine fg_X8_13 X h dX8_number_77 ?_
            refine lv_aload_n hx hb dX8_number_80 rfl (lv_at hl 0 rfl) ?_
            refine fg_X8_124 X h dX8_number_81 ?_
            refine lv_as (y := nI p1) ((congrFun (u1_s G 210 f1) 9).trans (hp1)) ?_
            refine rg_ild X h 212 (by decide) (xa_212 J ad) (p1) rfl (by omega) (by decide) dX8_number_84 ?_
            refine lv_as (y := G 212 p1) (congrFun (u1_n (by decide)) _) ?_
            refine lv_as (y := nI ((dv (G 212) p1) + 48)) ((isD_v hD1).1) ?_
            refine lv_iadd hx hb dX8_number_85 ?_
            refine lv_as (y := nI ((dv (G 212) p1) + 10 * v + 48)) (nI_addc (by omega)) ?_
            refine lv_bipush (v := nI 48) hx hb dX8_number_86 (by decide) ?_
            refine lv_isub hx hb dX8_number_88 ?_
            refine lv_as (y := nI ((dv (G 212) p1) + 10 * v)) (nI_subc (by omega)) ?_
            refine lv_istore_n (lv' := [(3, .int (nI ((dv (G 212) p1) + 10 * v))), (0, .ref (ad 210)), (1, .int (nI lo)), (2, .int (nI gr)), (4, .int (nI 1))]) hx hb dX8_number_89 rfl hl (by decide) rfl (fun ls hl => ?_)
            refine lv_aload_n hx hb dX8_number_90 rfl (lv_at hl 1 rfl) ?_
            refine lv_dup hx hb dX8_number_91 rfl ?_
            refine fg_X8_124 X h dX8_number_92 ?_
            refine lv_as (y := nI p1) ((congrFun (u1_s G 210 f1) 9).trans (hp1)) ?_
            refine lv_iconst (v := nI 1) hx hb dX8_number_95 (by decide) ?_
            refine lv_iadd hx hb dX8_number_96 ?_
            refine lv_as (y := nI (p1 + 1)) (nI_addc (by omega)) ?_
            refine fp_X8_124 X h dX8_number_97 (fun H locs h => ?_)
            rw [u1_uu] at h
            refine lv_iload_n hx hb dX8_number_100 rfl (lv_at hl 0 rfl) ?_
            refine lv_if_le (tgt := 140) hx hb dX8_number_101 (by decide) (fun c_101 => ?_) (fun c_101 => ?_)
            · rw [nz_le (by omega)] at c_101
              refine lv_iconst (v := nI 0) hx hb dX8_number_140 (by decide) ?_
              have hC2 : ¬ ndC (G 212) n gr ((dv (G 212) p1) + 10 * v) (p1 + 1) := by
                intro k
                first | exact c_112 k.2.1 | (have k1 := k.1; omega) | (have k1 := k.2.2; omega)
              refine lv_istore (lv' := [(4, .int (nI 0)), (3, .int (nI ((dv (G 212) p1) + 10 * v))), (0, .ref (ad 210)), (1, .int (nI lo)), (2, .int (nI gr))]) hx hb dX8_number_141 hl (by decide) rfl (fun ls hl => ?_)
              refine lv_goto (tgt := 46) hx hb dX8_number_143 (by decide) ?_
              refine lv_iload hx hb dX8_number_46 (lv_at hl 0 rfl) ?_
              refine lv_if_eq (tgt := 146) hx hb dX8_number_48 (by decide) (fun c_48 => ?_) (fun c_48 => absurd (by decide) c_48)
              refine lv_iload_n hx hb dX8_number_146 rfl (lv_at hl 1 rfl) ?_
              exact hret (nI ((dv (G 212) p1) + 10 * v)) (u1 G 210 (upd f1 9 (nI (p1 + 1)))) _ _ 147 _ (⟨by rw [nmR_f hC2] at hR; rw [show (dv (G 212) p1) + 10 * v = V from congrArg Prod.fst hR]; rfl, by rw [nmR_f hC2] at hR; rw [hf1, show p1 + 1 = q2 from congrArg Prod.snd hR]⟩) h dX8_number_147
            · rw [nz_le (by omega)] at c_101
              refine lv_aload_n hx hb dX8_number_104 rfl (lv_at hl 1 rfl) ?_
              refine lv_bipush (v := nI 48) hx hb dX8_number_105 (by decide) ?_
              refine lv_bipush (v := nI 57) hx hb dX8_number_107 (by decide) ?_
              refine rg_civd (As := [.int (nI 48), .int (nI 57)]) (rest := []) X hl.1 h (c_X8_isHere l J z ad G (upd f1 9 (nI (p1 + 1))) n (p1 + 1) (by rw [upd_n (by decide)]; exact hn1) hn60 (by rw [upd_s]) (by omega) 48 57 (by omega) (by omega)) mw_522 mw_523 mw_524 mw_5 mw_525 pdX8_isHere (by decide) (xo_210 J ad _) rfl rfl ⟨Nat.le_of_ble_eq_true rfl, Nat.le_of_ble_eq_true rfl⟩ ⟨Nat.le_of_ble_eq_true rfl, Nat.le_of_ble_eq_true rfl⟩ rfl (Nat.le_of_ble_eq_true rfl) dX8_number_109 (fun H locs h => ?_)
              refine lv_if_eq (tgt := 140) hx hb dX8_number_112 (by decide) (fun c_112 => ?_) (fun c_112 => ?_)
              · rw [b2_z] at c_112
                refine lv_iconst (v := nI 0) hx hb dX8_number_140 (by decide) ?_
                have hC2 : ¬ ndC (G 212) n gr ((dv (G 212) p1) + 10 * v) (p1 + 1) := by
                  intro k
                  first | exact c_112 k.2.1 | (have k1 := k.1; omega) | (have k1 := k.2.2; omega)
                refine lv_istore (lv' := [(4, .int (nI 0)), (3, .int (nI ((dv (G 212) p1) + 10 * v))), (0, .ref (ad 210)), (1, .int (nI lo)), (2, .int (nI gr))]) hx hb dX8_number_141 hl (by decide) rfl (fun ls hl => ?_)
                refine lv_goto (tgt := 46) hx hb dX8_number_143 (by decide) ?_
                refine lv_iload hx hb dX8_number_46 (lv_at hl 0 rfl) ?_
                refine lv_if_eq (tgt := 146) hx hb dX8_number_48 (by decide) (fun c_48 => ?_) (fun c_48 => absurd (by decide) c_48)
                refine lv_iload_n hx hb dX8_number_146 rfl (lv_at hl 1 rfl) ?_
                exact hret (nI ((dv (G 212) p1) + 10 * v)) (u1 G 210 (upd f1 9 (nI (p1 + 1)))) _ _ 147 _ (⟨by rw [nmR_f hC2] at hR; rw [show (dv (G 212) p1) + 10 * v = V from congrArg Prod.fst hR]; rfl, by rw [nmR_f hC2] at hR; rw [hf1, show p1 + 1 = q2 from congrArg Prod.snd hR]⟩) h dX8_number_147
              · rw [b2_z] at c_112
                have hD2 := Classical.not_not.mp c_112
                have hd92 := (isD_v (show isD (G 212) n _ from hD2)).2
                refine lv_bipush (v := nI 10) hx hb dX8_number_115 (by decide) ?_
                refine lv_iload_n hx hb dX8_number_117 rfl (lv_at hl 0 rfl) ?_
                refine lv_imul hx hb dX8_number_118 ?_
                refine lv_as (y := nI (10 * (dv (G 212) p1) + 100 * v)) (nI_mulc (by omega)) ?_
                refine lv_aload_n hx hb dX8_number_119 rfl (lv_at hl 1 rfl) ?_
                refine fg_X8_13 X h dX8_number_120 ?_
                refine lv_aload_n hx hb dX8_number_123 rfl (lv_at hl 1 rfl) ?_
                refine fg_X8_124 X h dX8_number_124 ?_
                refine lv_as (y := nI (p1 + 1)) ((congrFun (u1_s G 210 (upd f1 9 (nI (p1 + 1)))) 9).trans (by rw [upd_s])) ?_
                refine rg_ild X h 212 (by decide) (xa_212 J ad) (p1 + 1) rfl (by omega) (by decide) dX8_number_127 ?_
                refine lv_as (y := G 212 (p1 + 1)) (congrFun (u1_n (by decide)) _) ?_
                refine lv_as (y := nI ((dv (G 212) (p1 + 1)) + 48)) ((isD_v (show isD (G 212) n _ from hD2)).1) ?_
                refine lv_iadd hx hb dX8_number_128 ?_
                refine lv_as (y := nI ((dv (G 212) (p1 + 1)) + 10 * (dv (G 212) p1) + 100 * v + 48)) (nI_addc (by omega)) ?_
                refine lv_bipush (v := nI 48) hx hb dX8_number_129 (by decide) ?_
                refine lv_isub hx hb dX8_number_131 ?_
                refine lv_as (y := nI ((dv (G 212) (p1 + 1)) + 10 * (dv (G 212) p1) + 100 * v)) (nI_subc (by omega)) ?_
                refine lv_iload_n hx hb dX8_number_132 rfl (lv_at hl 3 rfl) ?_
                refine lv_icmp_gt (tgt := 140) hx hb dX8_number_133 (by decide) (fun c_133 => ?_) (fun c_133 => ?_)
                · rw [nI_ltI (by omega) (by omega)] at c_133
                  refine lv_iconst (v := nI 0) hx hb dX8_number_140 (by decide) ?_
                  have hC2 : ¬ ndC (G 212) n gr ((dv (G 212) p1) + 10 * v) (p1 + 1) := by
                    intro k
                    first | exact c_112 k.2.1 | (have k1 := k.1; omega) | (have k1 := k.2.2; omega)
                  refine lv_istore (lv' := [(4, .int (nI 0)), (3, .int (nI ((dv (G 212) p1) + 10 * v))), (0, .ref (ad 210)), (1, .int (nI lo)), (2, .int (nI gr))]) hx hb dX8_number_141 hl (by decide) rfl (fun ls hl => ?_)
                  refine lv_goto (tgt := 46) hx hb dX8_number_143 (by decide) ?_
                  refine lv_iload hx hb dX8_number_46 (lv_at hl 0 rfl) ?_
                  refine lv_if_eq (tgt := 146) hx hb dX8_number_48 (by decide) (fun c_48 => ?_) (fun c_48 => absurd (by decide) c_48)
                  refine lv_iload_n hx hb dX8_number_146 rfl (lv_at hl 1 rfl) ?_
                  exact hret (nI ((dv (G 212) p1) + 10 * v)) (u1 G 210 (upd f1 9 (nI (p1 + 1)))) _ _ 147 _ (⟨by rw [nmR_f hC2] at hR; rw [show (dv (G 212) p1) + 10 * v = V from congrArg Prod.fst hR]; rfl, by rw [nmR_f hC2] at hR; rw [hf1, show p1 + 1 = q2 from congrArg Prod.snd hR]⟩) h dX8_number_147
                · rw [nI_ltI (by omega) (by omega)] at c_133
                  refine lv_iconst (v := nI 1) hx hb dX8_number_136 (by decide) ?_
                  refine lv_goto (tgt := 141) hx hb dX8_number_137 (by decide) ?_
                  have hC2 : ndC (G 212) n gr ((dv (G 212) p1) + 10 * v) (p1 + 1) := ⟨by omega, hD2, by omega⟩
                  refine lv_istore (lv' := [(4, .int (nI 1)), (3, .int (nI ((dv (G 212) p1) + 10 * v))), (0, .ref (ad 210)), (1, .int (nI lo)), (2, .int (nI gr))]) hx hb dX8_number_141 hl (by decide) rfl (fun ls hl => ?_)
                  refine lv_goto (tgt := 46) hx hb dX8_number_143 (by decide) ?_
                  exact ih ((dv (G 212) p1) + 10 * v) (p1 + 1) (upd f1 9 (nI (p1 + 1))) (by omega) (by omega) (by omega) hC2 (by rw [upd_n (by decide)]; exact hn1) (by rw [upd_s]) (fun x => by rw [upd_u]; exact hf1 x) hR _ _ _ h (lv_sub hl [2, 3, 4, 1, 0] rfl)
        refine lv_iload hx hb dX8_number_46 (lv_at hl 0 rfl) ?_
        refine lv_if_eq (tgt := 146) hx hb dX8_number_48 (by decide) (fun c_48 => absurd c_48 (by decide)) (fun c_48 => ?_)
        refine lv_iload_n hx hb dX8_number_51 rfl (lv_at hl 1 rfl) ?_
        refine lv_bipush (v := (-5)) hx hb dX8_number_52 (by decide) ?_
        refine lv_icmp_ne (tgt := 72) hx hb dX8_number_54 (by decide) (fun c_54 => absurd (by decide) c_54) (fun c_54 => ?_)
        refine lv_aload_n hx hb dX8_number_57 rfl (lv_at hl 2 rfl) ?_
        refine fg_X8_13 X h dX8_number_58 ?_
        refine lv_aload_n hx hb dX8_number_61 rfl (lv_at hl 2 rfl) ?_
        refine fg_X8_124 X h dX8_number_62 ?_
        refine lv_as (y := nI q) ((congrFun (u1_s G 210 f) 9).trans (hq)) ?_
        refine rg_ild X h 212 (by decide) (xa_212 J ad) (q) rfl (by omega) (by decide) dX8_number_65 ?_
        refine lv_as (y := G 212 q) (congrFun (u1_n (by decide)) _) ?_
        refine lv_as (y := nI ((dv (G 212) q) + 48)) ((isD_v (by assumption)).1) ?_
        refine lv_bipush (v := nI 48) hx hb dX8_number_66 (by decide) ?_
        refine lv_isub hx hb dX8_number_68 ?_
        refine lv_as (y := nI ((dv (G 212) q))) (nI_subc (by omega)) ?_
        refine lv_goto (tgt := 89) hx hb dX8_number_69 (by decide) ?_
        refine lv_istore_n (lv' := [(3, .int (nI ((dv (G 212) q)))), (4, .int (nI 1)), (0, .ref (ad 210)), (1, .int (nI lo)), (2, .int (nI gr))]) hx hb dX8_number_89 rfl hl (by decide) rfl (fun ls hl => ?_)
        refine lv_aload_n hx hb dX8_number_90 rfl (lv_at hl 2 rfl) ?_
        refine lv_dup hx hb dX8_number_91 rfl ?_
        refine fg_X8_124 X h dX8_number_92 ?_
        refine lv_as (y := nI q) ((congrFun (u1_s G 210 f) 9).trans (hq)) ?_
        refine lv_iconst (v := nI 1) hx hb dX8_number_95 (by decide) ?_
        refine lv_iadd hx hb dX8_number_96 ?_
        refine lv_as (y := nI (q + 1)) (nI_addc (by omega)) ?_
        refine fp_X8_124 X h dX8_number_97 (fun H locs h => ?_)
        rw [u1_uu] at h
        refine lv_iload_n hx hb dX8_number_100 rfl (lv_at hl 0 rfl) ?_
        refine lv_if_le (tgt := 140) hx hb dX8_number_101 (by decide) (fun c_101 => ?_) (fun c_101 => ?_)
        · rw [nz_le (by omega)] at c_101
          refine lv_iconst (v := nI 0) hx hb dX8_number_140 (by decide) ?_
          have hC2 : ¬ ndC (G 212) n gr (dv (G 212) q) (q + 1) := by
            intro k
            first | exact c_112 k.2.1 | (have k1 := k.1; omega) | (have k1 := k.2.2; omega)
          refine lv_istore (lv' := [(4, .int (nI 0)), (3, .int (nI ((dv (G 212) q)))), (0, .ref (ad 210)), (1, .int (nI lo)), (2, .int (nI gr))]) hx hb dX8_number_141 hl (by decide) rfl (fun ls hl => ?_)
          refine lv_goto (tgt := 46) hx hb dX8_number_143 (by decide) ?_
          refine lv_iload hx hb dX8_number_46 (lv_at hl 0 rfl) ?_
          refine lv_if_eq (tgt := 146) hx hb dX8_number_48 (by decide) (fun c_48 => ?_) (fun c_48 => absurd (by decide) c_48)
          refine lv_iload_n hx hb dX8_number_146 rfl (lv_at hl 1 rfl) ?_
          exact hret (nI ((dv (G 212) q))) (u1 G 210 (upd f 9 (nI (q + 1)))) _ _ 147 _ (⟨by rw [nmR_f hC2] at hR0; rw [show (dv (G 212) q) = V from congrArg Prod.fst hR0]; rfl, by rw [nmR_f hC2] at hR0; rw [show q + 1 = q2 from congrArg Prod.snd hR0]⟩) h dX8_number_147
        · rw [nz_le (by omega)] at c_101
          refine lv_aload_n hx hb dX8_number_104 rfl (lv_at hl 2 rfl) ?_
          refine lv_bipush (v := nI 48) hx hb dX8_number_105 (by decide) ?_
          refine lv_bipush (v := nI 57) hx hb dX8_number_107 (by decide) ?_
          refine rg_civd (As := [.int (nI 48), .int (nI 57)]) (rest := []) X hl.1 h (c_X8_isHere l J z ad G (upd f 9 (nI (q + 1))) n (q + 1) (by rw [upd_n (by decide)]; exact hn) hn60 (by rw [upd_s]) (by omega) 48 57 (by omega) (by omega)) mw_522 mw_523 mw_524 mw_5 mw_525 pdX8_isHere (by decide) (xo_210 J ad _) rfl rfl ⟨Nat.le_of_ble_eq_true rfl, Nat.le_of_ble_eq_true rfl⟩ ⟨Nat.le_of_ble_eq_true rfl, Nat.le_of_ble_eq_true rfl⟩ rfl (Nat.le_of_ble_eq_true rfl) dX8_number_109 (fun H locs h => ?_)
          refine lv_if_eq (tgt := 140) hx hb dX8_number_112 (by decide) (fun c_112 => ?_) (fun c_112 => ?_)
          · rw [b2_z] at c_112
            refine lv_iconst (v := nI 0) hx hb dX8_number_140 (by decide) ?_
            have hC2 : ¬ ndC (G 212) n gr (dv (G 212) q) (q + 1) := by
              intro k
              first | exact c_112 k.2.1 | (have k1 := k.1; omega) | (have k1 := k.2.2; omega)
            refine lv_istore (lv' := [(4, .int (nI 0)), (3, .int (nI ((dv (G 212) q)))), (0, .ref (ad 210)), (1, .int (nI lo)), (2, .int (nI gr))]) hx hb dX8_number_141 hl (by decide) rfl (fun ls hl => ?_)
            refine lv_goto (tgt := 46) hx hb dX8_number_143 (by decide) ?_
            refine lv_iload hx hb dX8_number_46 (lv_at hl 0 rfl) ?_
            refine lv_if_eq (tgt := 146) hx hb dX8_number_48 (by decide) (fun c_48 => ?_) (fun c_48 => absurd (by decide) c_48)
            refine lv_iload_n hx hb dX8_number_146 rfl (lv_at hl 1 rfl) ?_
            exact hret (nI ((dv (G 212) q))) (u1 G 210 (upd f 9 (nI (q + 1)))) _ _ 147 _ (⟨by rw [nmR_f hC2] at hR0; rw [show (dv (G 212) q) = V from congrArg Prod.fst hR0]; rfl, by rw [nmR_f hC2] at hR0; rw [show q + 1 = q2 from congrArg Prod.snd hR0]⟩) h dX8_number_147
          · rw [b2_z] at c_112
            have hD2 := Classical.not_not.mp c_112
            have hd92 := (isD_v (show isD (G 212) n _ from hD2)).2
            refine lv_bipush (v := nI 10) hx hb dX8_number_115 (by decide) ?_
            refine lv_iload_n hx hb dX8_number_117 rfl (lv_at hl 0 rfl) ?_
            refine lv_imul hx hb dX8_number_118 ?_
            refine lv_as (y := nI (10 * (dv (G 212) q))) (nI_mulc (by omega)) ?_
            refine lv_aload_n hx hb dX8_number_119 rfl (lv_at hl 2 rfl) ?_
            refine fg_X8_13 X h dX8_number_120 ?_
            refine lv_aload_n hx hb dX8_number_123 rfl (lv_at hl 2 rfl) ?_
            refine fg_X8_124 X h dX8_number_124 ?_
            refine lv_as (y := nI (q + 1)) ((congrFun (u1_s G 210 (upd f 9 (nI (q + 1)))) 9).trans (by rw [upd_s])) ?_
            refine rg_ild X h 212 (by decide) (xa_212 J ad) (q + 1) rfl (by omega) (by decide) dX8_number_127 ?_
            refine lv_as (y := G 212 (q + 1)) (congrFun (u1_n (by decide)) _) ?_
            refine lv_as (y := nI ((dv (G 212) (q + 1)) + 48)) ((isD_v (show isD (G 212) n _ from hD2)).1) ?_
            refine lv_iadd hx hb dX8_number_128 ?_
            refine lv_as (y := nI ((dv (G 212) (q + 1)) + 10 * (dv (G 212) q) + 48)) (nI_addc (by omega)) ?_
            refine lv_bipush (v := nI 48) hx hb dX8_number_129 (by decide) ?_
            refine lv_isub hx hb dX8_number_131 ?_
            refine lv_as (y := nI ((dv (G 212) (q + 1)) + 10 * (dv (G 212) q))) (nI_subc (by omega)) ?_
            refine lv_iload_n hx hb dX8_number_132 rfl (lv_at hl 4 rfl) ?_
            refine lv_icmp_gt (tgt := 140) hx hb dX8_number_133 (by decide) (fun c_133 => ?_) (fun c_133 => ?_)
            · rw [nI_ltI (by omega) (by omega)] at c_133
              refine lv_iconst (v := nI 0) hx hb dX8_number_140 (by decide) ?_
              have hC2 : ¬ ndC (G 212) n gr (dv (G 212) q) (q + 1) := by
                intro k
                first | exact c_112 k.2.1 | (have k1 := k.1; omega) | (have k1 := k.2.2; omega)
              refine lv_istore (lv' := [(4, .int (nI 0)), (3, .int (nI ((dv (G 212) q)))), (0, .ref (ad 210)), (1, .int (nI lo)), (2, .int (nI gr))]) hx hb dX8_number_141 hl (by decide) rfl (fun ls hl => ?_)
              refine lv_goto (tgt := 46) hx hb dX8_number_143 (by decide) ?_
              refine lv_iload hx hb dX8_number_46 (lv_at hl 0 rfl) ?_
              refine lv_if_eq (tgt := 146) hx hb dX8_number_48 (by decide) (fun c_48 => ?_) (fun c_48 => absurd (by decide) c_48)
              refine lv_iload_n hx hb dX8_number_146 rfl (lv_at hl 1 rfl) ?_
              exact hret (nI ((dv (G 212) q))) (u1 G 210 (upd f 9 (nI (q + 1)))) _ _ 147 _ (⟨by rw [nmR_f hC2] at hR0; rw [show (dv (G 212) q) = V from congrArg Prod.fst hR0]; rfl, by rw [nmR_f hC2] at hR0; rw [show q + 1 = q2 from congrArg Prod.snd hR0]⟩) h dX8_number_147
            · rw [nI_ltI (by omega) (by omega)] at c_133
              refine lv_iconst (v := nI 1) hx hb dX8_number_136 (by decide) ?_
              refine lv_goto (tgt := 141) hx hb dX8_number_137 (by decide) ?_
              have hC2 : ndC (G 212) n gr (dv (G 212) q) (q + 1) := ⟨by omega, hD2, by omega⟩
              refine lv_istore (lv' := [(4, .int (nI 1)), (3, .int (nI ((dv (G 212) q)))), (0, .ref (ad 210)), (1, .int (nI lo)), (2, .int (nI gr))]) hx hb dX8_number_141 hl (by decide) rfl (fun ls hl => ?_)
              refine lv_goto (tgt := 46) hx hb dX8_number_143 (by decide) ?_
              exact LP n (dv (G 212) q) (q + 1) (upd f 9 (nI (q + 1))) (by omega) (by omega) (by omega) hC2 (by rw [upd_n (by decide)]; exact hn) (by rw [upd_s]) (fun x => by rw [upd_u]) hR0 _ _ _ h (lv_sub hl [2, 3, 4, 1, 0] rfl)
  · rw [nz_eq (by omega)] at c_5
    refine lv_bipush (v := nI 48) hx hb dX8_number_8 (by decide) ?_
    refine lv_goto (tgt := 15) hx hb dX8_number_10 (by decide) ?_
    refine lv_bipush (v := nI 57) hx hb dX8_number_15 (by decide) ?_
    refine rg_civd (As := [.int (nI 48), .int (nI 57)]) (rest := []) X hl.1 h (c_X8_isHere l J z ad G f n q hn hn60 hq (by omega) 48 57 (by omega) (by omega)) mw_522 mw_523 mw_524 mw_5 mw_525 pdX8_isHere (by decide) (xo_210 J ad _) rfl rfl ⟨Nat.le_of_ble_eq_true rfl, Nat.le_of_ble_eq_true rfl⟩ ⟨Nat.le_of_ble_eq_true rfl, Nat.le_of_ble_eq_true rfl⟩ rfl (Nat.le_of_ble_eq_true rfl) dX8_number_17 (fun H locs h => ?_)
    refine lv_if_eq (tgt := 43) hx hb dX8_number_20 (by decide) (fun c_20 => ?_) (fun c_20 => ?_)
    · rw [b2_z] at c_20
      refine lv_iconst (v := nI 0) hx hb dX8_number_43 (by decide) ?_
      refine lv_istore (lv' := [(4, .int (nI 0)), (3, .int ((-5))), (0, .ref (ad 210)), (1, .int (nI lo)), (2, .int (nI gr))]) hx hb dX8_number_44 hl (by decide) rfl (fun ls hl => ?_)
      refine lv_iload hx hb dX8_number_46 (lv_at hl 0 rfl) ?_
      refine lv_if_eq (tgt := 146) hx hb dX8_number_48 (by decide) (fun c_48 => ?_) (fun c_48 => absurd (by decide) c_48)
      refine lv_iload_n hx hb dX8_number_146 rfl (lv_at hl 1 rfl) ?_
      exact hret (-5) (u1 G 210 f) _ _ 147 _ (⟨by unfold num at hN; rw [cif_f (fun k => by first | exact c_20 ⟨k.1.1, by obtain ⟨d, k1, k2, k3⟩ := k.1.2; have k4 := (isD_v k.1).1; have k5 := k.2.1; rw [k3, nI_eq (by omega) (by omega)] at k4; exact ⟨d, by omega, k2, k3⟩⟩ | (have k6 := k.2.2; omega))] at hN; rw [show o = none from (congrArg Prod.fst hN).symm]; rfl, by unfold num at hN; rw [cif_f (fun k => by first | exact c_20 ⟨k.1.1, by obtain ⟨d, k1, k2, k3⟩ := k.1.2; have k4 := (isD_v k.1).1; have k5 := k.2.1; rw [k3, nI_eq (by omega) (by omega)] at k4; exact ⟨d, by omega, k2, k3⟩⟩ | (have k6 := k.2.2; omega))] at hN; rw [show q2 = q from (congrArg Prod.snd hN).symm, ← hq, upd_self]⟩) h dX8_number_147
    · rw [b2_z] at c_20
      have hh := Classical.not_not.mp c_20
      have hD : isD (G 212) n q := ⟨hh.1, by obtain ⟨d, k1, k2, k3⟩ := hh.2; exact ⟨d, by omega, k2, k3⟩⟩
      have hd9 := (isD_v hD).2
      refine lv_aload_n hx hb dX8_number_23 rfl (lv_at hl 1 rfl) ?_
      refine fg_X8_13 X h dX8_number_24 ?_
      refine lv_aload_n hx hb dX8_number_27 rfl (lv_at hl 1 rfl) ?_
      refine fg_X8_124 X h dX8_number_28 ?_
      refine lv_as (y := nI q) ((congrFun (u1_s G 210 f) 9).trans (hq)) ?_
      refine rg_ild X h 212 (by decide) (xa_212 J ad) (q) rfl (by omega) (by decide) dX8_number_31 ?_
      refine lv_as (y := G 212 q) (congrFun (u1_n (by decide)) _) ?_
      refine lv_as (y := nI ((dv (G 212) q) + 48)) ((isD_v (by assumption)).1) ?_
      refine lv_bipush (v := nI 48) hx hb dX8_number_32 (by decide) ?_
      refine lv_isub hx hb dX8_number_34 ?_
      refine lv_as (y := nI ((dv (G 212) q))) (nI_subc (by omega)) ?_
      refine lv_iload_n hx hb dX8_number_35 rfl (lv_at hl 3 rfl) ?_
      refine lv_icmp_gt (tgt := 43) hx hb dX8_number_36 (by decide) (fun c_36 => ?_) (fun c_36 => ?_)
      · rw [nI_ltI (by omega) (by omega)] at c_36
        refine lv_iconst (v := nI 0) hx hb dX8_number_43 (by decide) ?_
        refine lv_istore (lv' := [(4, .int (nI 0)), (3, .int ((-5))), (0, .ref (ad 210)), (1, .int (nI lo)), (2, .int (nI gr))]) hx hb dX8_number_44 hl (by decide) rfl (fun ls hl => ?_)
        refine lv_iload hx hb dX8_number_46 (lv_at hl 0 rfl) ?_
        refine lv_if_eq (tgt := 146) hx hb dX8_number_48 (by decide) (fun c_48 => ?_) (fun c_48 => absurd (by decide) c_48)
        refine lv_iload_n hx hb dX8_number_146 rfl (lv_at hl 1 rfl) ?_
        exact hret (-5) (u1 G 210 f) _ _ 147 _ (⟨by unfold num at hN; rw [cif_f (fun k => by first | exact c_20 ⟨k.1.1, by obtain ⟨d, k1, k2, k3⟩ := k.1.2; have k4 := (isD_v k.1).1; have k5 := k.2.1; rw [k3, nI_eq (by omega) (by omega)] at k4; exact ⟨d, by omega, k2, k3⟩⟩ | (have k6 := k.2.2; omega))] at hN; rw [show o = none from (congrArg Prod.fst hN).symm]; rfl, by unfold num at hN; rw [cif_f (fun k => by first | exact c_20 ⟨k.1.1, by obtain ⟨d, k1, k2, k3⟩ := k.1.2; have k4 := (isD_v k.1).1; have k5 := k.2.1; rw [k3, nI_eq (by omega) (by omega)] at k4; exact ⟨d, by omega, k2, k3⟩⟩ | (have k6 := k.2.2; omega))] at hN; rw [show q2 = q from (congrArg Prod.snd hN).symm, ← hq, upd_self]⟩) h dX8_number_147
      · rw [nI_ltI (by omega) (by omega)] at c_36
        refine lv_iconst (v := nI 1) hx hb dX8_number_39 (by decide) ?_
        refine lv_goto (tgt := 44) hx hb dX8_number_40 (by decide) ?_
        refine lv_istore (lv' := [(4, .int (nI 1)), (3, .int ((-5))), (0, .ref (ad 210)), (1, .int (nI lo)), (2, .int (nI gr))]) hx hb dX8_number_44 hl (by decide) rfl (fun ls hl => ?_)
        have hqn := hD.1
        have hlsd : lo ≤ dv (G 212) q := by
          obtain ⟨-, d, k1, k2, k3⟩ := hh
          have := (isD_v hD).1
          rw [k3, nI_eq (by omega) (by omega)] at this
          omega
        unfold num at hN
        rw [cif_t ⟨hD, hlsd, Nat.not_lt.mp c_36⟩] at hN
        obtain ⟨V, hV⟩ : ∃ V, (nmR (G 212) n gr (dv (G 212) q) (q + 1)).1 = V := ⟨_, rfl⟩
        obtain rfl : some V = o := by rw [← hV]; exact congrArg Prod.fst hN
        have hR0 : nmR (G 212) n gr (dv (G 212) q) (q + 1) = (V, q2) := by rw [← hV, ← show (nmR (G 212) n gr (dv (G 212) q) (q + 1)).2 = q2 from congrArg Prod.snd hN]
        have LP : ∀ (k v p1 : Nat) (f1 : Nat → Int32), n ≤ p1 + k → v ≤ gr → p1 ≤ n → ndC (G 212) n gr v p1 → f1 4 = nI n → f1 9 = nI p1 → (∀ x, upd f1 9 x = upd f 9 x) → nmR (G 212) n gr v p1 = (V, q2) → ∀ (H : Heap) (locs : List Loc) (ls : Array Slot), HG J z ad s (u1 G 210 f1) H locs → lv_has ls 5 [(0, .ref (ad 210)), (1, .int (nI lo)), (2, .int (nI gr)), (3, .int (nI v)), (4, .int (nI 1))] → W pr l e (rmD 2 0 0) s m args below meth c H locs 0 0 Q (F0 m 46 ls []) := by
          intro k
          induction k with
          | zero =>
            intro v p1 f1 g1 g2 g3 g4
            exact absurd g4.2.1.1 (by omega)
          | succ k ih =>
            intro v p1 f1 g1 hv hpn hC hn1 hp1 hf1 hR H locs ls h hl
            have hD1 := hC.2.1
            have hpn1 := hD1.1
            have hd9 := (isD_v hD1).2
            have hv2 := hC.2.2
            rw [nmR_t hC] at hR
            refine lv_iload hx hb dX8_number_46 (lv_at hl 4 rfl) ?_
            refine lv_if_eq (tgt := 146) hx hb dX8_number_48 (by decide) (fun c_48 => absurd c_48 (by decide)) (fun c_48 => ?_)
            refine lv_iload_n hx hb dX8_number_51 rfl (lv_at hl 3 rfl) ?_
            refine lv_bipush (v := (-5)) hx hb dX8_number_52 (by decide) ?_
            refine lv_icmp_ne (tgt := 72) hx hb dX8_number_54 (by decide) (fun c_54 => ?_) (fun c_54 => absurd c_54 (nI_n5 (by omega)))
            refine lv_bipush (v := nI 10) hx hb dX8_number_72 (by decide) ?_
            refine lv_iload_n hx hb dX8_number_74 rfl (lv_at hl 3 rfl) ?_
            refine lv_imul hx hb dX8_number_75 ?_
            refine lv_as (y := nI (10 * v)) (nI_mulc (by omega)) ?_
            refine lv_aload_n hx hb dX8_number_76 rfl (lv_at hl 0 rfl) ?_
            refine fg_X8_13 X h dX8_number_77 ?_
            refine lv_aload_n hx hb dX8_number_80 rfl (lv_at hl 0 rfl) ?_
            refine fg_X8_124 X h dX8_number_81 ?_
            refine lv_as (y := nI p1) ((congrFun (u1_s G 210 f1) 9).trans (hp1)) ?_
            refine rg_ild X h 212 (by decide) (xa_212 J ad) (p1) rfl (by omega) (by decide) dX8_number_84 ?_
            refine lv_as (y := G 212 p1) (congrFun (u1_n (by decide)) _) ?_
            refine lv_as (y := nI ((dv (G 212) p1) + 48)) ((isD_v hD1).1) ?_
            refine lv_iadd hx hb dX8_number_85 ?_
            refine lv_as (y := nI ((dv (G 212) p1) + 10 * v + 48)) (nI_addc (by omega)) ?_
            refine lv_bipush (v := nI 48) hx hb dX8_number_86 (by decide) ?_
            refine lv_isub hx hb dX8_number_88 ?_
            refine lv_as (y := nI ((dv (G 212) p1) + 10 * v)) (nI_subc (by omega)) ?_
            refine lv_istore_n (lv' := [(3, .int (nI ((dv (G 212) p1) + 10 * v))), (0, .ref (ad 210)), (1, .int (nI lo)), (2, .int (nI gr)), (4, .int (nI 1))]) hx hb dX8_number_89 rfl hl (by decide) rfl (fun ls hl => ?_)
            refine lv_aload_n hx hb dX8_number_90 rfl (lv_at hl 1 rfl) ?_
            refine lv_dup hx hb dX8_number_91 rfl ?_
            refine fg_X8_124 X h dX8_number_92 ?_
            refine lv_as (y := nI p1) ((congrFun (u1_s G 210 f1) 9).trans (hp1)) ?_
            refine lv_iconst (v := nI 1) hx hb dX8_number_95 (by decide) ?_
            refine lv_iadd hx hb dX8_number_96 ?_
            refine lv_as (y := nI (p1 + 1)) (nI_addc (by omega)) ?_
            refine fp_X8_124 X h dX8_number_97 (fun H locs h => ?_)
            rw [u1_uu] at h
            refine lv_iload_n hx hb dX8_number_100 rfl (lv_at hl 0 rfl) ?_
            refine lv_if_le (tgt := 140) hx hb dX8_number_101 (by decide) (fun c_101 => ?_) (fun c_101 => ?_)
            · rw [nz_le (by omega)] at c_101
              refine lv_iconst (v := nI 0) hx hb dX8_number_140 (by decide) ?_
              have hC2 : ¬ ndC (G 212) n gr ((dv (G 212) p1) + 10 * v) (p1 + 1) := by
                intro k
                first | exact c_112 k.2.1 | (have k1 := k.1; omega) | (have k1 := k.2.2; omega)
              refine lv_istore (lv' := [(4, .int (nI 0)), (3, .int (nI ((dv (G 212) p1) + 10 * v))), (0, .ref (ad 210)), (1, .int (nI lo)), (2, .int (nI gr))]) hx hb dX8_number_141 hl (by decide) rfl (fun ls hl => ?_)
              refine lv_goto (tgt := 46) hx hb dX8_number_143 (by decide) ?_
              refine lv_iload hx hb dX8_number_46 (lv_at hl 0 rfl) ?_
              refine lv_if_eq (tgt := 146) hx hb dX8_number_48 (by decide) (fun c_48 => ?_) (fun c_48 => absurd (by decide) c_48)
              refine lv_iload_n hx hb dX8_number_146 rfl (lv_at hl 1 rfl) ?_
              exact hret (nI ((dv (G 212) p1) + 10 * v)) (u1 G 210 (upd f1 9 (nI (p1 + 1)))) _ _ 147 _ (⟨by rw [nmR_f hC2] at hR; rw [show (dv (G 212) p1) + 10 * v = V from congrArg Prod.fst hR]; rfl, by rw [nmR_f hC2] at hR; rw [hf1, show p1 + 1 = q2 from congrArg Prod.snd hR]⟩) h dX8_number_147
            · rw [nz_le (by omega)] at c_101
              refine lv_aload_n hx hb dX8_number_104 rfl (lv_at hl 1 rfl) ?_
              refine lv_bipush (v := nI 48) hx hb dX8_number_105 (by decide) ?_
              refine lv_bipush (v := nI 57) hx hb dX8_number_107 (by decide) ?_
              refine rg_civd (As := [.int (nI 48), .int (nI 57)]) (rest := []) X hl.1 h (c_X8_isHere l J z ad G (upd f1 9 (nI (p1 + 1))) n (p1 + 1) (by rw [upd_n (by decide)]; exact hn1) hn60 (by rw [upd_s]) (by omega) 48 57 (by omega) (by omega)) mw_522 mw_523 mw_524 mw_5 mw_525 pdX8_isHere (by decide) (xo_210 J ad _) rfl rfl ⟨Nat.le_of_ble_eq_true rfl, Nat.le_of_ble_eq_true rfl⟩ ⟨Nat.le_of_ble_eq_true rfl, Nat.le_of_ble_eq_true rfl⟩ rfl (Nat.le_of_ble_eq_true rfl) dX8_number_109 (fun H locs h => ?_)
              refine lv_if_eq (tgt := 140) hx hb dX8_number_112 (by decide) (fun c_112 => ?_) (fun c_112 => ?_)
              · rw [b2_z] at c_112
                refine lv_iconst (v := nI 0) hx hb dX8_number_140 (by decide) ?_
                have hC2 : ¬ ndC (G 212) n gr ((dv (G 212) p1) + 10 * v) (p1 + 1) := by
                  intro k
                  first | exact c_112 k.2.1 | (have k1 := k.1; omega) | (have k1 := k.2.2; omega)
                refine lv_istore (lv' := [(4, .int (nI 0)), (3, .int (nI ((dv (G 212) p1) + 10 * v))), (0, .ref (ad 210)), (1, .int (nI lo)), (2, .int (nI gr))]) hx hb dX8_number_141 hl (by decide) rfl (fun ls hl => ?_)
                refine lv_goto (tgt := 46) hx hb dX8_number_143 (by decide) ?_
                refine lv_iload hx hb dX8_number_46 (lv_at hl 0 rfl) ?_
                refine lv_if_eq (tgt := 146) hx hb dX8_number_48 (by decide) (fun c_48 => ?_) (fun c_48 => absurd (by decide) c_48)
                refine lv_iload_n hx hb dX8_number_146 rfl (lv_at hl 1 rfl) ?_
                exact hret (nI ((dv (G 212) p1) + 10 * v)) (u1 G 210 (upd f1 9 (nI (p1 + 1)))) _ _ 147 _ (⟨by rw [nmR_f hC2] at hR; rw [show (dv (G 212) p1) + 10 * v = V from congrArg Prod.fst hR]; rfl, by rw [nmR_f hC2] at hR; rw [hf1, show p1 + 1 = q2 from congrArg Prod.snd hR]⟩) h dX8_number_147
              · rw [b2_z] at c_112
                have hD2 := Classical.not_not.mp c_112
                have hd92 := (isD_v (show isD (G 212) n _ from hD2)).2
                refine lv_bipush (v := nI 10) hx hb dX8_number_115 (by decide) ?_
                refine lv_iload_n hx hb dX8_number_117 rfl (lv_at hl 0 rfl) ?_
                refine lv_imul hx hb dX8_number_118 ?_
                refine lv_as (y := nI (10 * (dv (G 212) p1) + 100 * v)) (nI_mulc (by omega)) ?_
                refine lv_aload_n hx hb dX8_number_119 rfl (lv_at hl 1 rfl) ?_
                refine fg_X8_13 X h dX8_number_120 ?_
                refine lv_aload_n hx hb dX8_number_123 rfl (lv_at hl 1 rfl) ?_
                refine fg_X8_124 X h dX8_number_124 ?_
                refine lv_as (y := nI (p1 + 1)) ((congrFun (u1_s G 210 (upd f1 9 (nI (p1 + 1)))) 9).trans (by rw [upd_s])) ?_
                refine rg_ild X h 212 (by decide) (xa_212 J ad) (p1 + 1) rfl (by omega) (by decide) dX8_number_127 ?_
                refine lv_as (y := G 212 (p1 + 1)) (congrFun (u1_n (by decide)) _) ?_
                refine lv_as (y := nI ((dv (G 212) (p1 + 1)) + 48)) ((isD_v (show isD (G 212) n _ from hD2)).1) ?_
                refine lv_iadd hx hb dX8_number_128 ?_
                refine lv_as (y := nI ((dv (G 212) (p1 + 1)) + 10 * (dv (G 212) p1) + 100 * v + 48)) (nI_addc (by omega)) ?_
                refine lv_bipush (v := nI 48) hx hb dX8_number_129 (by decide) ?_
                refine lv_isub hx hb dX8_number_131 ?_
                refine lv_as (y := nI ((dv (G 212) (p1 + 1)) + 10 * (dv (G 212) p1) + 100 * v)) (nI_subc (by omega)) ?_
                refine lv_iload_n hx hb dX8_number_132 rfl (lv_at hl 3 rfl) ?_
                refine lv_icmp_gt (tgt := 140) hx hb dX8_number_133 (by decide) (fun c_133 => ?_) (fun c_133 => ?_)
                · rw [nI_ltI (by omega) (by omega)] at c_133
                  refine lv_iconst (v := nI 0) hx hb dX8_number_140 (by decide) ?_
                  have hC2 : ¬ ndC (G 212) n gr ((dv (G 212) p1) + 10 * v) (p1 + 1) := by
                    intro k
                    first | exact c_112 k.2.1 | (have k1 := k.1; omega) | (have k1 := k.2.2; omega)
                  refine lv_istore (lv' := [(4, .int (nI 0)), (3, .int (nI ((dv (G 212) p1) + 10 * v))), (0, .ref (ad 210)), (1, .int (nI lo)), (2, .int (nI gr))]) hx hb dX8_number_141 hl (by decide) rfl (fun ls hl => ?_)
                  refine lv_goto (tgt := 46) hx hb dX8_number_143 (by decide) ?_
                  refine lv_iload hx hb dX8_number_46 (lv_at hl 0 rfl) ?_
                  refine lv_if_eq (tgt := 146) hx hb dX8_number_48 (by decide) (fun c_48 => ?_) (fun c_48 => absurd (by decide) c_48)
                  refine lv_iload_n hx hb dX8_number_146 rfl (lv_at hl 1 rfl) ?_
                  exact hret (nI ((dv (G 212) p1) + 10 * v)) (u1 G 210 (upd f1 9 (nI (p1 + 1)))) _ _ 147 _ (⟨by rw [nmR_f hC2] at hR; rw [show (dv (G 212) p1) + 10 * v = V from congrArg Prod.fst hR]; rfl, by rw [nmR_f hC2] at hR; rw [hf1, show p1 + 1 = q2 from congrArg Prod.snd hR]⟩) h dX8_number_147
                · rw [nI_ltI (by omega) (by omega)] at c_133
                  refine lv_iconst (v := nI 1) hx hb dX8_number_136 (by decide) ?_
                  refine lv_goto (tgt := 141) hx hb dX8_number_137 (by decide) ?_
                  have hC2 : ndC (G 212) n gr ((dv (G 212) p1) + 10 * v) (p1 + 1) := ⟨by omega, hD2, by omega⟩
                  refine lv_istore (lv' := [(4, .int (nI 1)), (3, .int (nI ((dv (G 212) p1) + 10 * v))), (0, .ref (ad 210)), (1, .int (nI lo)), (2, .int (nI gr))]) hx hb dX8_number_141 hl (by decide) rfl (fun ls hl => ?_)
                  refine lv_goto (tgt := 46) hx hb dX8_number_143 (by decide) ?_
                  exact ih ((dv (G 212) p1) + 10 * v) (p1 + 1) (upd f1 9 (nI (p1 + 1))) (by omega) (by omega) (by omega) hC2 (by rw [upd_n (by decide)]; exact hn1) (by rw [upd_s]) (fun x => by rw [upd_u]; exact hf1 x) hR _ _ _ h (lv_sub hl [2, 3, 4, 1, 0] rfl)
        refine lv_iload hx hb dX8_number_46 (lv_at hl 0 rfl) ?_
        refine lv_if_eq (tgt := 146) hx hb dX8_number_48 (by decide) (fun c_48 => absurd c_48 (by decide)) (fun c_48 => ?_)
        refine lv_iload_n hx hb dX8_number_51 rfl (lv_at hl 1 rfl) ?_
        refine lv_bipush (v := (-5)) hx hb dX8_number_52 (by decide) ?_
        refine lv_icmp_ne (tgt := 72) hx hb dX8_number_54 (by decide) (fun c_54 => absurd (by decide) c_54) (fun c_54 => ?_)
        refine lv_aload_n hx hb dX8_number_57 rfl (lv_at hl 2 rfl) ?_
        refine fg_X8_13 X h dX8_number_58 ?_
        refine lv_aload_n hx hb dX8_number_61 rfl (lv_at hl 2 rfl) ?_
        refine fg_X8_124 X h dX8_number_62 ?_
        refine lv_as (y := nI q) ((congrFun (u1_s G 210 f) 9).trans (hq)) ?_
        refine rg_ild X h 212 (by decide) (xa_212 J ad) (q) rfl (by omega) (by decide) dX8_number_65 ?_
        refine lv_as (y := G 212 q) (congrFun (u1_n (by decide)) _) ?_
        refine lv_as (y := nI ((dv (G 212) q) + 48)) ((isD_v (by assumption)).1) ?_
        refine lv_bipush (v := nI 48) hx hb dX8_number_66 (by decide) ?_
        refine lv_isub hx hb dX8_number_68 ?_
        refine lv_as (y := nI ((dv (G 212) q))) (nI_subc (by omega)) ?_
        refine lv_goto (tgt := 89) hx hb dX8_number_69 (by decide) ?_
        refine lv_istore_n (lv' := [(3, .int (nI ((dv (G 212) q)))), (4, .int (nI 1)), (0, .ref (ad 210)), (1, .int (nI lo)), (2, .int (nI gr))]) hx hb dX8_number_89 rfl hl (by decide) rfl (fun ls hl => ?_)
        refine lv_aload_n hx hb dX8_number_90 rfl (lv_at hl 2 rfl) ?_
        refine lv_dup hx hb dX8_number_91 rfl ?_
        refine fg_X8_124 X h dX8_number_92 ?_
        refine lv_as (y := nI q) ((congrFun (u1_s G 210 f) 9).trans (hq)) ?_
        refine lv_iconst (v := nI 1) hx hb dX8_number_95 (by decide) ?_
        refine lv_iadd hx hb dX8_number_96 ?_
        refine lv_as (y := nI (q + 1)) (nI_addc (by omega)) ?_
        refine fp_X8_124 X h dX8_number_97 (fun H locs h => ?_)
        rw [u1_uu] at h
        refine lv_iload_n hx hb dX8_number_100 rfl (lv_at hl 0 rfl) ?_
        refine lv_if_le (tgt := 140) hx hb dX8_number_101 (by decide) (fun c_101 => ?_) (fun c_101 => ?_)
        · rw [nz_le (by omega)] at c_101
          refine lv_iconst (v := nI 0) hx hb dX8_number_140 (by decide) ?_
          have hC2 : ¬ ndC (G 212) n gr (dv (G 212) q) (q + 1) := by
            intro k
            first | exact c_112 k.2.1 | (have k1 := k.1; omega) | (have k1 := k.2.2; omega)
          refine lv_istore (lv' := [(4, .int (nI 0)), (3, .int (nI ((dv (G 212) q)))), (0, .ref (ad 210)), (1, .int (nI lo)), (2, .int (nI gr))]) hx hb dX8_number_141 hl (by decide) rfl (fun ls hl => ?_)
          refine lv_goto (tgt := 46) hx hb dX8_number_143 (by decide) ?_
          refine lv_iload hx hb dX8_number_46 (lv_at hl 0 rfl) ?_
          refine lv_if_eq (tgt := 146) hx hb dX8_number_48 (by decide) (fun c_48 => ?_) (fun c_48 => absurd (by decide) c_48)
          refine lv_iload_n hx hb dX8_number_146 rfl (lv_at hl 1 rfl) ?_
          exact hret (nI ((dv (G 212) q))) (u1 G 210 (upd f 9 (nI (q + 1)))) _ _ 147 _ (⟨by rw [nmR_f hC2] at hR0; rw [show (dv (G 212) q) = V from congrArg Prod.fst hR0]; rfl, by rw [nmR_f hC2] at hR0; rw [show q + 1 = q2 from congrArg Prod.snd hR0]⟩) h dX8_number_147
        · rw [nz_le (by omega)] at c_101
          refine lv_aload_n hx hb dX8_number_104 rfl (lv_at hl 2 rfl) ?_
          refine lv_bipush (v := nI 48) hx hb dX8_number_105 (by decide) ?_
          refine lv_bipush (v := nI 57) hx hb dX8_number_107 (by decide) ?_
          refine rg_civd (As := [.int (nI 48), .int (nI 57)]) (rest := []) X hl.1 h (c_X8_isHere l J z ad G (upd f 9 (nI (q + 1))) n (q + 1) (by rw [upd_n (by decide)]; exact hn) hn60 (by rw [upd_s]) (by omega) 48 57 (by omega) (by omega)) mw_522 mw_523 mw_524 mw_5 mw_525 pdX8_isHere (by decide) (xo_210 J ad _) rfl rfl ⟨Nat.le_of_ble_eq_true rfl, Nat.le_of_ble_eq_true rfl⟩ ⟨Nat.le_of_ble_eq_true rfl, Nat.le_of_ble_eq_true rfl⟩ rfl (Nat.le_of_ble_eq_true rfl) dX8_number_109 (fun H locs h => ?_)
          refine lv_if_eq (tgt := 140) hx hb dX8_number_112 (by decide) (fun c_112 => ?_) (fun c_112 => ?_)
          · rw [b2_z] at c_112
            refine lv_iconst (v := nI 0) hx hb dX8_number_140 (by decide) ?_
            have hC2 : ¬ ndC (G 212) n gr (dv (G 212) q) (q + 1) := by
              intro k
              first | exact c_112 k.2.1 | (have k1 := k.1; omega) | (have k1 := k.2.2; omega)
            refine lv_istore (lv' := [(4, .int (nI 0)), (3, .int (nI ((dv (G 212) q)))), (0, .ref (ad 210)), (1, .int (nI lo)), (2, .int (nI gr))]) hx hb dX8_number_141 hl (by decide) rfl (fun ls hl => ?_)
            refine lv_goto (tgt := 46) hx hb dX8_number_143 (by decide) ?_
            refine lv_iload hx hb dX8_number_46 (lv_at hl 0 rfl) ?_
            refine lv_if_eq (tgt := 146) hx hb dX8_number_48 (by decide) (fun c_48 => ?_) (fun c_48 => absurd (by decide) c_48)
            refine lv_iload_n hx hb dX8_number_146 rfl (lv_at hl 1 rfl) ?_
            exact hret (nI ((dv (G 212) q))) (u1 G 210 (upd f 9 (nI (q + 1)))) _ _ 147 _ (⟨by rw [nmR_f hC2] at hR0; rw [show (dv (G 212) q) = V from congrArg Prod.fst hR0]; rfl, by rw [nmR_f hC2] at hR0; rw [show q + 1 = q2 from congrArg Prod.snd hR0]⟩) h dX8_number_147
          · rw [b2_z] at c_112
            have hD2 := Classical.not_not.mp c_112
            have hd92 := (isD_v (show isD (G 212) n _ from hD2)).2
            refine lv_bipush (v := nI 10) hx hb dX8_number_115 (by decide) ?_
            refine lv_iload_n hx hb dX8_number_117 rfl (lv_at hl 0 rfl) ?_
            refine lv_imul hx hb dX8_number_118 ?_
            refine lv_as (y := nI (10 * (dv (G 212) q))) (nI_mulc (by omega)) ?_
            refine lv_aload_n hx hb dX8_number_119 rfl (lv_at hl 2 rfl) ?_
            refine fg_X8_13 X h dX8_number_120 ?_
            refine lv_aload_n hx hb dX8_number_123 rfl (lv_at hl 2 rfl) ?_
            refine fg_X8_124 X h dX8_number_124 ?_
            refine lv_as (y := nI (q + 1)) ((congrFun (u1_s G 210 (upd f 9 (nI (q + 1)))) 9).trans (by rw [upd_s])) ?_
            refine rg_ild X h 212 (by decide) (xa_212 J ad) (q + 1) rfl (by omega) (by decide) dX8_number_127 ?_
            refine lv_as (y := G 212 (q + 1)) (congrFun (u1_n (by decide)) _) ?_
            refine lv_as (y := nI ((dv (G 212) (q + 1)) + 48)) ((isD_v (show isD (G 212) n _ from hD2)).1) ?_
            refine lv_iadd hx hb dX8_number_128 ?_
            refine lv_as (y := nI ((dv (G 212) (q + 1)) + 10 * (dv (G 212) q) + 48)) (nI_addc (by omega)) ?_
            refine lv_bipush (v := nI 48) hx hb dX8_number_129 (by decide) ?_
            refine lv_isub hx hb dX8_number_131 ?_
            refine lv_as (y := nI ((dv (G 212) (q + 1)) + 10 * (dv (G 212) q))) (nI_subc (by omega)) ?_
            refine lv_iload_n hx hb dX8_number_132 rfl (lv_at hl 4 rfl) ?_
            refine lv_icmp_gt (tgt := 140) hx hb dX8_number_133 (by decide) (fun c_133 => ?_) (fun c_133 => ?_)
            · rw [nI_ltI (by omega) (by omega)] at c_133
              refine lv_iconst (v := nI 0) hx hb dX8_number_140 (by decide) ?_
              have hC2 : ¬ ndC (G 212) n gr (dv (G 212) q) (q + 1) := by
                intro k
                first | exact c_112 k.2.1 | (have k1 := k.1; omega) | (have k1 := k.2.2; omega)
              refine lv_istore (lv' := [(4, .int (nI 0)), (3, .int (nI ((dv (G 212) q)))), (0, .ref (ad 210)), (1, .int (nI lo)), (2, .int (nI gr))]) hx hb dX8_number_141 hl (by decide) rfl (fun ls hl => ?_)
              refine lv_goto (tgt := 46) hx hb dX8_number_143 (by decide) ?_
              refine lv_iload hx hb dX8_number_46 (lv_at hl 0 rfl) ?_
              refine lv_if_eq (tgt := 146) hx hb dX8_number_48 (by decide) (fun c_48 => ?_) (fun c_48 => absurd (by decide) c_48)
              refine lv_iload_n hx hb dX8_number_146 rfl (lv_at hl 1 rfl) ?_
              exact hret (nI ((dv (G 212) q))) (u1 G 210 (upd f 9 (nI (q + 1)))) _ _ 147 _ (⟨by rw [nmR_f hC2] at hR0; rw [show (dv (G 212) q) = V from congrArg Prod.fst hR0]; rfl, by rw [nmR_f hC2] at hR0; rw [show q + 1 = q2 from congrArg Prod.snd hR0]⟩) h dX8_number_147
            · rw [nI_ltI (by omega) (by omega)] at c_133
              refine lv_iconst (v := nI 1) hx hb dX8_number_136 (by decide) ?_
              refine lv_goto (tgt := 141) hx hb dX8_number_137 (by decide) ?_
              have hC2 : ndC (G 212) n gr (dv (G 212) q) (q + 1) := ⟨by omega, hD2, by omega⟩
              refine lv_istore (lv' := [(4, .int (nI 1)), (3, .int (nI ((dv (G 212) q)))), (0, .ref (ad 210)), (1, .int (nI lo)), (2, .int (nI gr))]) hx hb dX8_number_141 hl (by decide) rfl (fun ls hl => ?_)
              refine lv_goto (tgt := 46) hx hb dX8_number_143 (by decide) ?_
              exact LP n (dv (G 212) q) (q + 1) (upd f 9 (nI (q + 1))) (by omega) (by omega) (by omega) hC2 (by rw [upd_n (by decide)]; exact hn) (by rw [upd_s]) (fun x => by rw [upd_u]) hR0 _ _ _ h (lv_sub hl [2, 3, 4, 1, 0] rfl)
