/-! THE HISTORY: a ring of four states -/
theorem ringF_at (ad : Nat → Nat) {j : Nat} (h : j < 4) : ringF ad j = some (ad (103 + 25 * j)) := by
  rcases (show j = 0 ∨ j = 1 ∨ j = 2 ∨ j = 3 by omega) with rfl | rfl | rfl | rfl <;> rfl
theorem ring_B {j b : Nat} (h : j < 4) (e : b = 103 + 25 * j) : IsB b := by
  unfold IsB
  omega
theorem REq.tr {a b c : Nat → Int32} (h : REq a b) (g : REq b c) : REq a c := fun k hk => (g k hk).trans (h k hk)
/-- the n states of the ring stand for the rows 1 .. n -/
def HistR (G : GG) (S : Nat → Int32) (n : Nat) : Prop := ∃ F, F < 4 ∧ n ≤ 4 ∧ G 101 1 = nI F ∧ G 101 2 = nI n ∧ ∀ j, j < n → Rep G (103 + 25 * ((F + j) % 4)) (rwS S (612 * (j + 1)))
theorem rcS_lo {S : Nat → Int32} {a j : Nat} (hj : j < 3) : REq (rwS S (612 * (j + 2))) (rwS (rcS S 4 a) (612 * (j + 1))) := by
  have e : rcS S 4 a = cpS (cpS (cpS (cpS S 2 1) 3 2) 4 3) a 4 := rfl
  rw [e]
  rcases (show j = 0 ∨ j = 1 ∨ j = 2 by omega) with rfl | rfl | rfl
  · exact (((cpS_at S 2 1).tr (cpS_n (a := 3) (b := 2) (by decide))).tr (cpS_n (a := 4) (b := 3) (by decide))).tr (cpS_n (b := 4) (by decide))
  · exact (((cpS_n (S := S) (a := 2) (b := 1) (c := 3) (by decide)).tr (cpS_at _ 3 2)).tr (cpS_n (a := 4) (b := 3) (by decide))).tr (cpS_n (b := 4) (by decide))
  · exact (((cpS_n (S := S) (a := 2) (b := 1) (c := 4) (by decide)).tr (cpS_n (a := 3) (b := 2) (by decide))).tr (cpS_at _ 4 3)).tr (cpS_n (b := 4) (by decide))
theorem rcS_hi {S : Nat → Int32} {n a : Nat} (hn : n ≤ 4) (ha : a = 0 ∨ a = 6) : REq (rwS S (612 * a)) (rwS (rcS S n a) (612 * (if n = 4 then 4 else n + 1))) := by
  by_cases h : n = 4
  · subst h
    rw [if_pos rfl]
    have e : rcS S 4 a = cpS (cpS (cpS (cpS S 2 1) 3 2) 4 3) a 4 := rfl
    rw [e]
    exact (((cpS_n (S := S) (a := 2) (b := 1) (c := a) (by omega)).tr (cpS_n (a := 3) (b := 2) (by omega))).tr (cpS_n (a := 4) (b := 3) (by omega))).tr (cpS_at _ a 4)
  · rw [if_neg h]
    have e : rcS S n a = cpS S a (n + 1) := if_neg h
    rw [e]
    exact cpS_at S a (n + 1)
theorem rcS_oth {S : Nat → Int32} {n a c : Nat} (hn : n ≤ 4) (hc : c = 0 ∨ 5 ≤ c ∨ (n < 4 ∧ c ≠ n + 1)) : REq (rwS S (612 * c)) (rwS (rcS S n a) (612 * c)) := by
  by_cases h : n = 4
  · subst h
    have e : rcS S 4 a = cpS (cpS (cpS (cpS S 2 1) 3 2) 4 3) a 4 := rfl
    rw [e]
    exact (((cpS_n (S := S) (a := 2) (b := 1) (c := c) (by omega)).tr (cpS_n (a := 3) (b := 2) (by omega))).tr (cpS_n (a := 4) (b := 3) (by omega))).tr (cpS_n (b := 4) (by omega))
  · have e : rcS S n a = cpS S a (n + 1) := if_neg h
    rw [e]
    exact cpS_n (by omega)
theorem HistR.cg {G G' : GG} {S S' : Nat → Int32} {n : Nat} (h : HistR G S n) (f : ∀ k, 101 ≤ k → k < 203 → G' k = G k) (g : ∀ k, 612 ≤ k → k < 3060 → S' k = S k) : HistR G' S' n := by
  obtain ⟨F, h1, h2, h3, h4, h5⟩ := h
  refine ⟨F, h1, h2, by rw [f 101 (by omega) (by omega)]; exact h3, by rw [f 101 (by omega) (by omega)]; exact h4, fun j hj => ?_⟩
  exact Rep_req (fun k hk => g _ (by omega) (by omega)) (Rep_frame (fun k a b => f k (by omega) (by omega)) (h5 j hj))
theorem hist_rem {G uG : GG} {S : Nat → Int32} {n F F1 m b : Nat} (hF : F < 4) (hn : n ≤ 4) (hR : ∀ j, j < n → Rep G (103 + 25 * ((F + j) % 4)) (rwS S (612 * (j + 1)))) (h6 : Rep G 26 (rwS S 3672)) (hm : (n = 4 ∧ F1 = (F + 1) % 4 ∧ m = 3) ∨ (n < 4 ∧ F1 = F ∧ m = n)) (hb : b = 103 + 25 * ((F1 + m) % 4)) (f1 : uG 101 1 = nI F1) (f2 : uG 101 2 = nI (m + 1)) (fo : ∀ k, k ≠ 101 → (k < b ∨ b + 24 ≤ k) → uG k = G k) (fc : ∀ c j, rel c j → uG (b + c) j = G (26 + c) j) : HistR uG (rcS S n 6) (if n = 4 then 4 else n + 1) := by
  have e : (if n = 4 then 4 else n + 1) = m + 1 := by split <;> omega
  have h7 : REq (rwS S 3672) (rwS (rcS S n 6) (612 * (m + 1))) := by
    have := rcS_hi (S := S) hn (Or.inr (rfl : (6 : Nat) = 6))
    rw [e] at this
    exact this
  rw [e]
  refine ⟨F1, by omega, by omega, f1, f2, fun j hj => ?_⟩
  by_cases g : j = m
  · subst g
    rw [← hb]
    exact Rep_req h7 (Rep_cells fc h6)
  · rcases hm with ⟨rfl, rfl, rfl⟩ | ⟨a1, rfl, rfl⟩
    · have h8 := hR (j + 1) (by omega)
      rw [show (F + (j + 1)) % 4 = ((F + 1) % 4 + j) % 4 by omega] at h8
      exact Rep_req (rcS_lo (by omega)) (Rep_frame (fun k a b => fo k (by omega) (by omega)) h8)
    · exact Rep_req (rcS_oth hn (by omega)) (Rep_frame (fun k a b => fo k (by omega) (by omega)) (hR j (by omega)))
theorem hist_tb {G uG : GG} {S : Nat → Int32} {n F b : Nat} (hF : F < 4) (hn : n ≤ 4) (hn0 : n ≠ 0) (hR : ∀ j, j < n → Rep G (103 + 25 * ((F + j) % 4)) (rwS S (612 * (j + 1)))) (hb : b = 103 + 25 * ((F + (n - 1)) % 4)) (f1 : uG 101 1 = nI F) (f2 : uG 101 2 = nI (n - 1)) (fo : ∀ k, k ≠ 101 → 25 ≤ k → uG k = G k) (fc : ∀ c j, rel c j → uG (1 + c) j = G (b + c) j) : HistR uG S (n - 1) ∧ Rep uG 1 (rwS S (612 * n)) := by
  refine ⟨⟨F, hF, by omega, f1, f2, fun j hj => Rep_frame (fun k a b => fo k (by omega) (by omega)) (hR j (by omega))⟩, ?_⟩
  have := hR (n - 1) (by omega)
  rw [← hb, show n - 1 + 1 = n by omega] at this
  exact Rep_cells fc this
set_option maxHeartbeats 4000000 in
set_option maxRecDepth 100000 in
theorem c_X0_remember (l : Launch) (J : JJ) (z : ZZ) (ad : Nat → Nat) (G : GG) (S : Nat → Int32) (n : Nat) (hH : HistR G S n) (h6 : Rep G 26 (rwS S 3672)) : MV l J z ad yX0_remember cX0_remember 2 3 [.ref (ad 101), .ref (ad 26)] G (fun uG => (∀ k, (k < 101 ∨ 203 ≤ k) → uG k = G k) ∧ HistR uG (rcS S n 6) (if n = 4 then 4 else n + 1)) := by
  refine MV.go (by decide) (Nat.le_of_ble_eq_true rfl) ?_
  intro pr e s m args below meth c ls Q X h hl hret
  have hx := X.1
  have hb := X.2.1
  have hown := X.2.2.2.1
  have hts := X.2.2.2.2
  have hl : lv_has ls 2 [(0, .ref (ad 101)), (1, .ref (ad 26))] := hl
  obtain ⟨F, hF, hn, h1, h2, hR⟩ := hH
  refine lv_aload_n hx hb dX0_remember_0 rfl (lv_at hl 0 rfl) ?_
  refine fg_X0_18 X h dX0_remember_1 ?_
  refine lv_as (y := nI n) (h2) ?_
  refine lv_iconst (v := nI 4) hx hb dX0_remember_4 (by decide) ?_
  refine lv_icmp_ne (tgt := 30) hx hb dX0_remember_5 (by decide) (fun c_5 => ?_) (fun c_5 => ?_)
  · rw [nI_eq (by omega) (by omega)] at c_5
    obtain ⟨U, hU⟩ : ∃ U, U = G := ⟨_, rfl⟩
    rw [← hU] at h
    obtain ⟨F1, hF1⟩ : ∃ F1, F1 = F := ⟨_, rfl⟩
    obtain ⟨m1, hm1⟩ : ∃ m1, m1 = n := ⟨_, rfl⟩
    have ua : U 101 1 = nI F1 := by rw [hU, h1, hF1]
    have ub : U 101 2 = nI m1 := by rw [hU, h2, hm1]
    have uo : ∀ k, k ≠ 101 → U k = G k := fun k hk => by rw [hU]
    have hm : (n = 4 ∧ F1 = (F + 1) % 4 ∧ m1 = 3) ∨ (n < 4 ∧ F1 = F ∧ m1 = n) := Or.inr ⟨by omega, hF1, hm1⟩
    refine lv_aload_n hx hb dX0_remember_30 rfl (lv_at hl 0 rfl) ?_
    refine fg_X0_11 X h dX0_remember_31 ?_
    refine lv_aload_n hx hb dX0_remember_34 rfl (lv_at hl 0 rfl) ?_
    refine fg_X0_22 X h dX0_remember_35 ?_
    refine lv_as (y := nI F1) (ua) ?_
    refine lv_aload_n hx hb dX0_remember_38 rfl (lv_at hl 0 rfl) ?_
    refine fg_X0_18 X h dX0_remember_39 ?_
    refine lv_as (y := nI m1) (ub) ?_
    refine lv_iadd hx hb dX0_remember_42 ?_
    refine lv_as (y := nI (F1 + m1)) (nI_addc (by omega)) ?_
    refine lv_iconst (v := nI 4) hx hb dX0_remember_43 (by decide) ?_
    refine lv_irem hx hb dX0_remember_44 (by decide) ?_
    refine lv_as (y := nI (((F1 + m1) % 4))) (pk_rem (by omega) (by omega) (by omega)) ?_
    obtain ⟨b, hbe⟩ : ∃ b, b = 103 + 25 * ((F1 + m1) % 4) := ⟨_, rfl⟩
    have hB : IsB b := ring_B (by omega) hbe
    refine rg_ald X h ((F1 + m1) % 4) rfl (by omega) (a := ad b) (by rw [hbe]; exact ringF_at ad (by omega)) dX0_remember_45 ?_
    refine lv_aload_n hx hb dX0_remember_46 rfl (lv_at hl 1 rfl) ?_
    refine rg_cvv (As := [.ref (ad 26)]) (rest := []) X hl.1 h (c_X5_copyFrom l J z ad U b 26 hB isB_26 (by omega)) mw_367 mw_268 mw_269 mw_11 mw_270 pdX5_copyFrom (hB.lt (c := 0) (by decide)) (so_0 hB J ad _) rfl rfl ⟨Nat.le_of_ble_eq_true rfl, Nat.le_of_ble_eq_true rfl⟩ ⟨Nat.le_of_ble_eq_true rfl, Nat.le_of_ble_eq_true rfl⟩ rfl (Nat.le_of_ble_eq_true rfl) dX0_remember_47 (fun G1 H locs q1 h => ?_)
    refine lv_aload_n hx hb dX0_remember_50 rfl (lv_at hl 0 rfl) ?_
    refine lv_dup hx hb dX0_remember_51 rfl ?_
    refine fg_X0_18 X h dX0_remember_52 ?_
    refine lv_as (y := nI m1) ((congrFun (q1.1 101 (by omega)) 2).trans ub) ?_
    refine lv_iconst (v := nI 1) hx hb dX0_remember_55 (by decide) ?_
    refine lv_iadd hx hb dX0_remember_56 ?_
    refine lv_as (y := nI (m1 + 1)) (nI_addc (by omega)) ?_
    refine fp_X0_18 X h dX0_remember_57 (fun H locs h => ?_)
    exact hret (u1 G1 101 (upd (G1 101) 2 (nI (m1 + 1)))) _ _ 60 _ (⟨fun k hk => by rw [u1_n (by omega), q1.1 k (by omega)]; exact uo k (by omega), hist_rem hF hn hR h6 hm hbe (by rw [u1_s, upd_n (by decide), q1.1 101 (by omega)]; exact ua) (by rw [u1_s, upd_s]) (fun k g1 g2 => by rw [u1_n g1, q1.1 k g2]; exact uo k g1) (fun x j hx => by have hx2 := rel_lt hx; rw [u1_n (by omega), q1.2 x j hx]; exact congrFun (uo _ (by omega)) _)⟩) h dX0_remember_60
  · rw [nI_eq (by omega) (by omega)] at c_5
    refine lv_aload_n hx hb dX0_remember_8 rfl (lv_at hl 0 rfl) ?_
    refine lv_aload_n hx hb dX0_remember_9 rfl (lv_at hl 0 rfl) ?_
    refine fg_X0_22 X h dX0_remember_10 ?_
    refine lv_as (y := nI F) (h1) ?_
    refine lv_iconst (v := nI 1) hx hb dX0_remember_13 (by decide) ?_
    refine lv_iadd hx hb dX0_remember_14 ?_
    refine lv_as (y := nI (F + 1)) (nI_addc (by omega)) ?_
    refine lv_iconst (v := nI 4) hx hb dX0_remember_15 (by decide) ?_
    refine lv_irem hx hb dX0_remember_16 (by decide) ?_
    refine lv_as (y := nI (((F + 1) % 4))) (pk_rem (by omega) (by omega) (by omega)) ?_
    refine fp_X0_22 X h dX0_remember_17 (fun H locs h => ?_)
    refine lv_aload_n hx hb dX0_remember_20 rfl (lv_at hl 0 rfl) ?_
    refine lv_dup hx hb dX0_remember_21 rfl ?_
    refine fg_X0_18 X h dX0_remember_22 ?_
    refine lv_as (y := nI n) (by rw [u1_s, upd_n (by decide)]; exact h2) ?_
    refine lv_iconst (v := nI 1) hx hb dX0_remember_25 (by decide) ?_
    refine lv_isub hx hb dX0_remember_26 ?_
    refine lv_as (y := nI ((n - 1))) (nI_subc (by omega)) ?_
    refine fp_X0_18 X h dX0_remember_27 (fun H locs h => ?_)
    obtain ⟨U, hU⟩ : ∃ U, U = (u1 (u1 G 101 (upd (G 101) 1 (nI (((F + 1) % 4))))) 101 (upd ((u1 G 101 (upd (G 101) 1 (nI (((F + 1) % 4))))) 101) 2 (nI ((n - 1))))) := ⟨_, rfl⟩
    rw [← hU] at h
    obtain ⟨F1, hF1⟩ : ∃ F1, F1 = (F + 1) % 4 := ⟨_, rfl⟩
    obtain ⟨m1, hm1⟩ : ∃ m1, m1 = n - 1 := ⟨_, rfl⟩
    have ua : U 101 1 = nI F1 := by rw [hU, u1_s, upd_n (by decide), u1_s, upd_s, hF1]
    have ub : U 101 2 = nI m1 := by rw [hU, u1_s, upd_s, hm1]
    have uo : ∀ k, k ≠ 101 → U k = G k := fun k hk => by rw [hU, u1_n hk, u1_n hk]
    have hm : (n = 4 ∧ F1 = (F + 1) % 4 ∧ m1 = 3) ∨ (n < 4 ∧ F1 = F ∧ m1 = n) := Or.inl ⟨c_5, hF1, by omega⟩
    refine lv_aload_n hx hb dX0_remember_30 rfl (lv_at hl 0 rfl) ?_
    refine fg_X0_11 X h dX0_remember_31 ?_
    refine lv_aload_n hx hb dX0_remember_34 rfl (lv_at hl 0 rfl) ?_
    refine fg_X0_22 X h dX0_remember_35 ?_
    refine lv_as (y := nI F1) (ua) ?_
    refine lv_aload_n hx hb dX0_remember_38 rfl (lv_at hl 0 rfl) ?_
    refine fg_X0_18 X h dX0_remember_39 ?_
    refine lv_as (y := nI m1) (ub) ?_
    refine lv_iadd hx hb dX0_remember_42 ?_
    refine lv_as (y := nI (F1 + m1)) (nI_addc (by omega)) ?_
    refine lv_iconst (v := nI 4) hx hb dX0_remember_43 (by decide) ?_
    refine lv_irem hx hb dX0_remember_44 (by decide) ?_
    refine lv_as (y := nI (((F1 + m1) % 4))) (pk_rem (by omega) (by omega) (by omega)) ?_
    obtain ⟨b, hbe⟩ : ∃ b, b = 103 + 25 * ((F1 + m1) % 4) := ⟨_, rfl⟩
    have hB : IsB b := ring_B (by omega) hbe
    refine rg_ald X h ((F1 + m1) % 4) rfl (by omega) (a := ad b) (by rw [hbe]; exact ringF_at ad (by omega)) dX0_remember_45 ?_
    refine lv_aload_n hx hb dX0_remember_46 rfl (lv_at hl 1 rfl) ?_
    refine rg_cvv (As := [.ref (ad 26)]) (rest := []) X hl.1 h (c_X5_copyFrom l J z ad U b 26 hB isB_26 (by omega)) mw_367 mw_268 mw_269 mw_11 mw_270 pdX5_copyFrom (hB.lt (c := 0) (by decide)) (so_0 hB J ad _) rfl rfl ⟨Nat.le_of_ble_eq_true rfl, Nat.le_of_ble_eq_true rfl⟩ ⟨Nat.le_of_ble_eq_true rfl, Nat.le_of_ble_eq_true rfl⟩ rfl (Nat.le_of_ble_eq_true rfl) dX0_remember_47 (fun G5 H locs q5 h => ?_)
    refine lv_aload_n hx hb dX0_remember_50 rfl (lv_at hl 0 rfl) ?_
    refine lv_dup hx hb dX0_remember_51 rfl ?_
    refine fg_X0_18 X h dX0_remember_52 ?_
    refine lv_as (y := nI m1) ((congrFun (q5.1 101 (by omega)) 2).trans ub) ?_
    refine lv_iconst (v := nI 1) hx hb dX0_remember_55 (by decide) ?_
    refine lv_iadd hx hb dX0_remember_56 ?_
    refine lv_as (y := nI (m1 + 1)) (nI_addc (by omega)) ?_
    refine fp_X0_18 X h dX0_remember_57 (fun H locs h => ?_)
    exact hret (u1 G5 101 (upd (G5 101) 2 (nI (m1 + 1)))) _ _ 60 _ (⟨fun k hk => by rw [u1_n (by omega), q5.1 k (by omega)]; exact uo k (by omega), hist_rem hF hn hR h6 hm hbe (by rw [u1_s, upd_n (by decide), q5.1 101 (by omega)]; exact ua) (by rw [u1_s, upd_s]) (fun k g1 g2 => by rw [u1_n g1, q5.1 k g2]; exact uo k g1) (fun x j hx => by have hx2 := rel_lt hx; rw [u1_n (by omega), q5.2 x j hx]; exact congrFun (uo _ (by omega)) _)⟩) h dX0_remember_60
set_option maxHeartbeats 4000000 in
set_option maxRecDepth 100000 in
theorem c_X0_takeBack (l : Launch) (J : JJ) (z : ZZ) (ad : Nat → Nat) (G : GG) (S : Nat → Int32) (n : Nat) (hH : HistR G S n) : MI l J z ad yX0_takeBack cX0_takeBack 2 .int 3 [.ref (ad 101), .ref (ad 1)] G (fun ans uG => ans = (if n = 0 then (-5) else nI (n - 1)) ∧ (n = 0 → uG = G) ∧ (n ≠ 0 → (∀ k, k ≠ 101 → 25 ≤ k → uG k = G k) ∧ (uG 0 = G 0) ∧ HistR uG S (n - 1) ∧ Rep uG 1 (rwS S (612 * n)))) := by
  refine MI.go (by decide) (Nat.le_of_ble_eq_true rfl) ?_
  intro pr e s m args below meth c ls Q X h hl hret
  have hx := X.1
  have hb := X.2.1
  have hown := X.2.2.2.1
  have hts := X.2.2.2.2
  have hl : lv_has ls 2 [(0, .ref (ad 101)), (1, .ref (ad 1))] := hl
  obtain ⟨F, hF, hn, h1, h2, hR⟩ := hH
  refine lv_aload_n hx hb dX0_takeBack_0 rfl (lv_at hl 0 rfl) ?_
  refine fg_X0_18 X h dX0_takeBack_1 ?_
  refine lv_as (y := nI n) (h2) ?_
  refine lv_if_ne (tgt := 10) hx hb dX0_takeBack_4 (by decide) (fun c_4 => ?_) (fun c_4 => ?_)
  · rw [nz_eq (by omega)] at c_4
    refine lv_aload_n hx hb dX0_takeBack_10 rfl (lv_at hl 0 rfl) ?_
    refine lv_dup hx hb dX0_takeBack_11 rfl ?_
    refine fg_X0_18 X h dX0_takeBack_12 ?_
    refine lv_as (y := nI n) (h2) ?_
    refine lv_iconst (v := nI 1) hx hb dX0_takeBack_15 (by decide) ?_
    refine lv_isub hx hb dX0_takeBack_16 ?_
    refine lv_as (y := nI ((n - 1))) (nI_subc (by omega)) ?_
    refine fp_X0_18 X h dX0_takeBack_17 (fun H locs h => ?_)
    refine lv_aload_n hx hb dX0_takeBack_20 rfl (lv_at hl 1 rfl) ?_
    refine lv_aload_n hx hb dX0_takeBack_21 rfl (lv_at hl 0 rfl) ?_
    refine fg_X0_11 X h dX0_takeBack_22 ?_
    refine lv_aload_n hx hb dX0_takeBack_25 rfl (lv_at hl 0 rfl) ?_
    refine fg_X0_22 X h dX0_takeBack_26 ?_
    refine lv_as (y := nI F) (by rw [u1_s, upd_n (by decide)]; exact h1) ?_
    refine lv_aload_n hx hb dX0_takeBack_29 rfl (lv_at hl 0 rfl) ?_
    refine fg_X0_18 X h dX0_takeBack_30 ?_
    refine lv_as (y := nI ((n - 1))) (by rw [u1_s, upd_s]) ?_
    refine lv_iadd hx hb dX0_takeBack_33 ?_
    refine lv_as (y := nI ((n - 1) + F)) (nI_addc (by omega)) ?_
    refine lv_iconst (v := nI 4) hx hb dX0_takeBack_34 (by decide) ?_
    refine lv_irem hx hb dX0_takeBack_35 (by decide) ?_
    refine lv_as (y := nI ((((n - 1) + F) % 4))) (pk_rem (by omega) (by omega) (by omega)) ?_
    obtain ⟨b, hbe⟩ : ∃ b, b = 103 + 25 * (((n - 1) + F) % 4) := ⟨_, rfl⟩
    have hB : IsB b := ring_B (by omega) hbe
    refine rg_ald X h (((n - 1) + F) % 4) rfl (by omega) (a := ad b) (by rw [hbe]; exact ringF_at ad (by omega)) dX0_takeBack_36 ?_
    refine rg_cvv (As := [.ref (ad b)]) (rest := []) X hl.1 h (c_X5_copyFrom l J z ad (u1 G 101 (upd (G 101) 2 (nI ((n - 1))))) 1 b isB_1 hB (by omega)) mw_367 mw_268 mw_269 mw_11 mw_270 pdX5_copyFrom (isB_1.lt (c := 0) (by decide)) (so_0 isB_1 J ad _) rfl rfl ⟨Nat.le_of_ble_eq_true rfl, Nat.le_of_ble_eq_true rfl⟩ ⟨Nat.le_of_ble_eq_true rfl, Nat.le_of_ble_eq_true rfl⟩ rfl (Nat.le_of_ble_eq_true rfl) dX0_takeBack_37 (fun G2 H locs q2 h => ?_)
    refine lv_aload_n hx hb dX0_takeBack_40 rfl (lv_at hl 0 rfl) ?_
    refine fg_X0_18 X h dX0_takeBack_41 ?_
    refine lv_as (y := nI ((n - 1))) ((congrFun (q2.1 101 (by omega)) 2).trans (by rw [u1_s, upd_s])) ?_
    exact hret (nI ((n - 1))) G2 _ _ 44 _ (⟨by rw [if_neg c_4], fun q => absurd q c_4, fun _ => ⟨fun k g1 g2 => by rw [q2.1 k (by omega), u1_n g1], by rw [q2.1 0 (by omega), u1_n (by decide)], hist_tb (b := b) hF hn c_4 hR (by omega) (by rw [q2.1 101 (by omega), u1_s, upd_n (by decide)]; exact h1) (by rw [q2.1 101 (by omega), u1_s, upd_s]) (fun k g1 g2 => by rw [q2.1 k (by omega), u1_n g1]) (fun x j hx => by have hx2 := rel_lt hx; rw [q2.2 x j hx, u1_n (by omega)])⟩⟩) h dX0_takeBack_44
  · rw [nz_eq (by omega)] at c_4
    refine lv_bipush (v := (-5)) hx hb dX0_takeBack_7 (by decide) ?_
    exact hret (-5) G _ _ 9 _ (⟨by rw [if_pos c_4], fun _ => rfl, fun q => absurd c_4 q⟩) h dX0_takeBack_9
