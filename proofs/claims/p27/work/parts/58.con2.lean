/-! CONSTRUCTORS: the five without a call -/
def sg0 : Nat → Int32 := upd (upd (fun _ => 0) 0 (nI 5)) 1 (nI 10)
def g0 (c : Nat) : Nat → Int32 := if c = 23 then sg0 else fun _ => 0
def fr (n : Nat) : Nat → Int32 := itr (fun j f => upd f (3 * j + 192) (-5)) sg0 n
def G00 : GG := fun k => if k = 211 then fr 140 else if k = 210 then upd (upd (fun _ => 0) 5 (-5)) 6 (-5) else if (k < 101 ∧ k % 25 = 24) ∨ (103 ≤ k ∧ k < 203 ∧ (k - 103) % 25 = 23) then sg0 else fun _ => 0
def E5 (J : JJ) (b : Nat) : FE := fun a j => stC J a b (j - b) (g0 (j - b))
def E0 (J : JJ) : FE := fun a j => shC J a j (G00 j)
theorem E5_at {J : JJ} {b c : Nat} {a : Nat → Nat} : E5 J b a (b + c) = stC J a b c (g0 c) := by
  unfold E5
  rw [Nat.add_sub_cancel_left]
theorem G00_b {b c : Nat} (hB : IsB b) (hc : c < 25) : G00 (b + c) = g0 c := by
  unfold IsB at hB
  unfold G00 g0
  rw [if_neg (by omega), if_neg (by omega)]
  by_cases h : c = 23
  · rw [if_pos h, if_pos (by omega)]
  · rw [if_neg h, if_neg (by omega)]
theorem E05 {J : JJ} {b j : Nat} {a : Nat → Nat} (hB : IsB b) (h1 : b ≤ j) (h2 : j < b + 25) : E5 J b a j = E0 J a j := by
  obtain ⟨c, rfl⟩ : ∃ c, j = b + c := ⟨j - b, by omega⟩
  rw [E5_at]
  unfold E0
  rw [hB.sh (by omega), G00_b hB (by omega)]
theorem stC_ar {J : JJ} {a a1 : Nat → Nat} {b c : Nat} {g : Nat → Int32} (h : c ≠ 0 ∧ c ≠ 1 ∧ c ≠ 7 ∧ c ≠ 11 ∧ c ≠ 18) (hc : c < 25) : stC J a b c g = stC J a1 b c g := by
  rcases (show c = 2 ∨ c = 3 ∨ c = 4 ∨ c = 5 ∨ c = 6 ∨ c = 8 ∨ c = 9 ∨ c = 10 ∨ c = 12 ∨ c = 13 ∨ c = 14 ∨ c = 15 ∨ c = 16 ∨ c = 17 ∨ c = 19 ∨ c = 20 ∨ c = 21 ∨ c = 22 ∨ c = 23 ∨ c = 24 by omega) with rfl | rfl | rfl | rfl | rfl | rfl | rfl | rfl | rfl | rfl | rfl | rfl | rfl | rfl | rfl | rfl | rfl | rfl | rfl | rfl <;> rfl
theorem stC_loc {J : JJ} {a a1 : Nat → Nat} {b c m : Nat} {g : Nat → Int32} (h : ∀ i, i < b + m → a i = a1 i) (hc : c < m) (h0 : c ≠ 0 ∨ m = 25) (hm : m = 1 ∨ m = 7 ∨ m = 11 ∨ m = 18 ∨ m = 23 ∨ m = 24 ∨ m = 25) : stC J a b c g = stC J a1 b c g := by
  by_cases e : c ≠ 0 ∧ c ≠ 1 ∧ c ≠ 7 ∧ c ≠ 11 ∧ c ≠ 18
  · exact stC_ar e (by omega)
  · rcases (show c = 0 ∨ c = 1 ∨ c = 7 ∨ c = 11 ∨ c = 18 by omega) with rfl | rfl | rfl | rfl | rfl
    · unfold stC
      rw [h (b + 1) (by omega), h (b + 7) (by omega), h (b + 11) (by omega), h (b + 18) (by omega), h (b + 23) (by omega), h (b + 24) (by omega)]
      rfl
    · unfold stC
      rw [h (b + 2) (by omega), h (b + 3) (by omega), h (b + 4) (by omega), h (b + 5) (by omega), h (b + 6) (by omega)]
      rfl
    · unfold stC
      rw [h (b + 8) (by omega), h (b + 9) (by omega), h (b + 10) (by omega)]
      rfl
    · unfold stC
      rw [h (b + 12) (by omega), h (b + 13) (by omega), h (b + 14) (by omega), h (b + 15) (by omega), h (b + 16) (by omega), h (b + 17) (by omega)]
      rfl
    · unfold stC
      rw [h (b + 19) (by omega), h (b + 20) (by omega), h (b + 21) (by omega), h (b + 22) (by omega)]
      rfl
set_option maxHeartbeats 4000000 in
set_option maxRecDepth 100000 in
theorem c_X6_init (l : Launch) (J : JJ) (z : Nat) (ad : Nat → Nat) (fe : FE) (b : Nat) (hL : LocF fe (b + 1)) : CI l J z yX6_init cX6_init 1 1 5 60 ad (b + 2) (ad (b + 1)) (To fe (b + 1) 6 (fun _ => [.int 0, .null, .null, .null, .null, .null]) (E5 J b)) (Tn fe (b + 1) (E5 J b)) := by
  refine CI.walk (by decide) rfl (by decide) ?_
  intro p e s m below meth c ls X hin hAO h hl hret
  have hx := X.1
  have hb := X.2.1
  have hown := X.2.2.2.1
  have hts := X.2.2.2.2
  have hl : lv_has ls 1 [(0, .ref (ad (b + 1)))] := hl
  have A0 : ∀ j, j < b + 2 → ad j = ad j := fun _ _ => rfl
  refine lv_aload_n hx hb dX6_init_0 rfl (lv_at hl 0 rfl) ?_
  refine rk_obj X hl.1 mw_50 (by decide) (by decide) dX6_init_1 ?_
  refine lv_aload_n hx hb dX6_init_4 rfl (lv_at hl 0 rfl) ?_
  refine lv_bipush (v := nI 12) hx hb dX6_init_5 (by decide) ?_
  refine rk_newi (n := b + 2) (fe := To fe (b + 1) 6 (fun _ => [.int 0, .null, .null, .null, .null, .null]) (E5 J b)) X (LocF_To hL (by omega) (fun _ _ _ => rfl) (fun a a1 h j g1 g2 => stC_ar (by omega) (by omega))) h 12 rfl (by decide) mw_44 (Nat.le_of_ble_eq_true rfl) (Nat.le_of_ble_eq_true rfl) dX6_init_7 (fun ad1 H B1 h => ?_)
  have A1 : ∀ j, j < b + 2 → ad1 j = ad j := fun j hj => (B1 j (by omega)).trans (A0 j hj)
  refine rk_putF X hin h in0_X6 tyX6 tyX6_ok nmX6 rfl 1 (by decide) mw_51 rfl rfl (b + 1) (by omega) (A1 (b + 1) (by omega)) ((va_up_ne _ _ (by omega)).trans To_k) (Nat.le_of_ble_eq_true rfl) rfl rfl dX6_init_9 (fun H locs h => ?_)
  have h : HS J z ad1 (b + 3) (To fe (b + 1) 6 (fun a => [.int 0, .ref (a (b + 2)), .null, .null, .null, .null]) (E5 J b) ad1) s H locs := To_arr (n := b + 2) h (by omega) (E5_at (c := 2)).symm rfl
  refine lv_aload_n hx hb dX6_init_12 rfl (lv_at hl 0 rfl) ?_
  refine lv_bipush (v := nI 12) hx hb dX6_init_13 (by decide) ?_
  refine rk_newi (n := b + 3) (fe := To fe (b + 1) 6 (fun a => [.int 0, .ref (a (b + 2)), .null, .null, .null, .null]) (E5 J b)) X (LocF_To hL (by omega) (fun a a1 h => by simp only [h (b + 2) (by omega)]) (fun a a1 h j g1 g2 => stC_ar (by omega) (by omega))) h 12 rfl (by decide) mw_44 (Nat.le_of_ble_eq_true rfl) (Nat.le_of_ble_eq_true rfl) dX6_init_15 (fun ad2 H B2 h => ?_)
  have A2 : ∀ j, j < b + 2 → ad2 j = ad j := fun j hj => (B2 j (by omega)).trans (A1 j hj)
  refine rk_putF X hin h in0_X6 tyX6 tyX6_ok nmX6 rfl 2 (by decide) mw_52 rfl rfl (b + 1) (by omega) (A2 (b + 1) (by omega)) ((va_up_ne _ _ (by omega)).trans To_k) (Nat.le_of_ble_eq_true rfl) rfl rfl dX6_init_17 (fun H locs h => ?_)
  have h : HS J z ad2 (b + 4) (To fe (b + 1) 6 (fun a => [.int 0, .ref (a (b + 2)), .ref (a (b + 3)), .null, .null, .null]) (E5 J b) ad2) s H locs := To_arr (n := b + 3) h (by omega) (E5_at (c := 3)).symm rfl
  refine lv_aload_n hx hb dX6_init_20 rfl (lv_at hl 0 rfl) ?_
  refine lv_bipush (v := nI 12) hx hb dX6_init_21 (by decide) ?_
  refine rk_newi (n := b + 4) (fe := To fe (b + 1) 6 (fun a => [.int 0, .ref (a (b + 2)), .ref (a (b + 3)), .null, .null, .null]) (E5 J b)) X (LocF_To hL (by omega) (fun a a1 h => by simp only [h (b + 2) (by omega), h (b + 3) (by omega)]) (fun a a1 h j g1 g2 => stC_ar (by omega) (by omega))) h 12 rfl (by decide) mw_44 (Nat.le_of_ble_eq_true rfl) (Nat.le_of_ble_eq_true rfl) dX6_init_23 (fun ad3 H B3 h => ?_)
  have A3 : ∀ j, j < b + 2 → ad3 j = ad j := fun j hj => (B3 j (by omega)).trans (A2 j hj)
  refine rk_putF X hin h in0_X6 tyX6 tyX6_ok nmX6 rfl 3 (by decide) mw_53 rfl rfl (b + 1) (by omega) (A3 (b + 1) (by omega)) ((va_up_ne _ _ (by omega)).trans To_k) (Nat.le_of_ble_eq_true rfl) rfl rfl dX6_init_25 (fun H locs h => ?_)
  have h : HS J z ad3 (b + 5) (To fe (b + 1) 6 (fun a => [.int 0, .ref (a (b + 2)), .ref (a (b + 3)), .ref (a (b + 4)), .null, .null]) (E5 J b) ad3) s H locs := To_arr (n := b + 4) h (by omega) (E5_at (c := 4)).symm rfl
  refine lv_aload_n hx hb dX6_init_28 rfl (lv_at hl 0 rfl) ?_
  refine lv_bipush (v := nI 12) hx hb dX6_init_29 (by decide) ?_
  refine rk_newi (n := b + 5) (fe := To fe (b + 1) 6 (fun a => [.int 0, .ref (a (b + 2)), .ref (a (b + 3)), .ref (a (b + 4)), .null, .null]) (E5 J b)) X (LocF_To hL (by omega) (fun a a1 h => by simp only [h (b + 2) (by omega), h (b + 3) (by omega), h (b + 4) (by omega)]) (fun a a1 h j g1 g2 => stC_ar (by omega) (by omega))) h 12 rfl (by decide) mw_44 (Nat.le_of_ble_eq_true rfl) (Nat.le_of_ble_eq_true rfl) dX6_init_31 (fun ad4 H B4 h => ?_)
  have A4 : ∀ j, j < b + 2 → ad4 j = ad j := fun j hj => (B4 j (by omega)).trans (A3 j hj)
  refine rk_putF X hin h in0_X6 tyX6 tyX6_ok nmX6 rfl 4 (by decide) mw_54 rfl rfl (b + 1) (by omega) (A4 (b + 1) (by omega)) ((va_up_ne _ _ (by omega)).trans To_k) (Nat.le_of_ble_eq_true rfl) rfl rfl dX6_init_33 (fun H locs h => ?_)
  have h : HS J z ad4 (b + 6) (To fe (b + 1) 6 (fun a => [.int 0, .ref (a (b + 2)), .ref (a (b + 3)), .ref (a (b + 4)), .ref (a (b + 5)), .null]) (E5 J b) ad4) s H locs := To_arr (n := b + 5) h (by omega) (E5_at (c := 5)).symm rfl
  refine lv_aload_n hx hb dX6_init_36 rfl (lv_at hl 0 rfl) ?_
  refine lv_bipush (v := nI 12) hx hb dX6_init_37 (by decide) ?_
  refine rk_newi (n := b + 6) (fe := To fe (b + 1) 6 (fun a => [.int 0, .ref (a (b + 2)), .ref (a (b + 3)), .ref (a (b + 4)), .ref (a (b + 5)), .null]) (E5 J b)) X (LocF_To hL (by omega) (fun a a1 h => by simp only [h (b + 2) (by omega), h (b + 3) (by omega), h (b + 4) (by omega), h (b + 5) (by omega)]) (fun a a1 h j g1 g2 => stC_ar (by omega) (by omega))) h 12 rfl (by decide) mw_44 (Nat.le_of_ble_eq_true rfl) (Nat.le_of_ble_eq_true rfl) dX6_init_39 (fun ad5 H B5 h => ?_)
  have A5 : ∀ j, j < b + 2 → ad5 j = ad j := fun j hj => (B5 j (by omega)).trans (A4 j hj)
  refine rk_putF X hin h in0_X6 tyX6 tyX6_ok nmX6 rfl 5 (by decide) mw_55 rfl rfl (b + 1) (by omega) (A5 (b + 1) (by omega)) ((va_up_ne _ _ (by omega)).trans To_k) (Nat.le_of_ble_eq_true rfl) rfl rfl dX6_init_41 (fun H locs h => ?_)
  have h : HS J z ad5 (b + 7) (To fe (b + 1) 6 (fun a => [.int 0, .ref (a (b + 2)), .ref (a (b + 3)), .ref (a (b + 4)), .ref (a (b + 5)), .ref (a (b + 6))]) (E5 J b) ad5) s H locs := To_arr (n := b + 6) h (by omega) (E5_at (c := 6)).symm rfl
  exact hret ad5 _ _ _ _ A5 (To_fin h (E5_at (c := 1))) dX6_init_44
set_option maxHeartbeats 4000000 in
set_option maxRecDepth 100000 in
theorem c_X1_init (l : Launch) (J : JJ) (z : Nat) (ad : Nat → Nat) (fe : FE) (b : Nat) (hL : LocF fe (b + 7)) : CI l J z yX1_init cX1_init 1 1 3 420 ad (b + 8) (ad (b + 7)) (To fe (b + 7) 1 (fun _ => [.null, .null, .null]) (E5 J b)) (Tn fe (b + 7) (E5 J b)) := by
  refine CI.walk (by decide) rfl (by decide) ?_
  intro p e s m below meth c ls X hin hAO h hl hret
  have hx := X.1
  have hb := X.2.1
  have hown := X.2.2.2.1
  have hts := X.2.2.2.2
  have hl : lv_has ls 1 [(0, .ref (ad (b + 7)))] := hl
  have A0 : ∀ j, j < b + 8 → ad j = ad j := fun _ _ => rfl
  refine lv_aload_n hx hb dX1_init_0 rfl (lv_at hl 0 rfl) ?_
  refine rk_obj X hl.1 mw_59 (by decide) (by decide) dX1_init_1 ?_
  refine lv_aload_n hx hb dX1_init_4 rfl (lv_at hl 0 rfl) ?_
  refine lv_sipush (v := nI 140) hx hb dX1_init_5 (by decide) ?_
  refine rk_newi (n := b + 8) (fe := To fe (b + 7) 1 (fun _ => [.null, .null, .null]) (E5 J b)) X (LocF_To hL (by omega) (fun _ _ _ => rfl) (fun a a1 h j g1 g2 => stC_ar (by omega) (by omega))) h 140 rfl (by decide) mw_44 (Nat.le_of_ble_eq_true rfl) (Nat.le_of_ble_eq_true rfl) dX1_init_8 (fun ad1 H B1 h => ?_)
  have A1 : ∀ j, j < b + 8 → ad1 j = ad j := fun j hj => (B1 j (by omega)).trans (A0 j hj)
  refine rk_putF X hin h in0_X1 tyX1 tyX1_ok nmX1 rfl 0 (by decide) mw_60 rfl rfl (b + 7) (by omega) (A1 (b + 7) (by omega)) ((va_up_ne _ _ (by omega)).trans To_k) (Nat.le_of_ble_eq_true rfl) rfl rfl dX1_init_10 (fun H locs h => ?_)
  have h : HS J z ad1 (b + 9) (To fe (b + 7) 1 (fun a => [.ref (a (b + 8)), .null, .null]) (E5 J b) ad1) s H locs := To_arr (n := b + 8) h (by omega) (E5_at (c := 8)).symm rfl
  refine lv_aload_n hx hb dX1_init_13 rfl (lv_at hl 0 rfl) ?_
  refine lv_sipush (v := nI 140) hx hb dX1_init_14 (by decide) ?_
  refine rk_newi (n := b + 9) (fe := To fe (b + 7) 1 (fun a => [.ref (a (b + 8)), .null, .null]) (E5 J b)) X (LocF_To hL (by omega) (fun a a1 h => by simp only [h (b + 8) (by omega)]) (fun a a1 h j g1 g2 => stC_ar (by omega) (by omega))) h 140 rfl (by decide) mw_44 (Nat.le_of_ble_eq_true rfl) (Nat.le_of_ble_eq_true rfl) dX1_init_17 (fun ad2 H B2 h => ?_)
  have A2 : ∀ j, j < b + 8 → ad2 j = ad j := fun j hj => (B2 j (by omega)).trans (A1 j hj)
  refine rk_putF X hin h in0_X1 tyX1 tyX1_ok nmX1 rfl 1 (by decide) mw_61 rfl rfl (b + 7) (by omega) (A2 (b + 7) (by omega)) ((va_up_ne _ _ (by omega)).trans To_k) (Nat.le_of_ble_eq_true rfl) rfl rfl dX1_init_19 (fun H locs h => ?_)
  have h : HS J z ad2 (b + 10) (To fe (b + 7) 1 (fun a => [.ref (a (b + 8)), .ref (a (b + 9)), .null]) (E5 J b) ad2) s H locs := To_arr (n := b + 9) h (by omega) (E5_at (c := 9)).symm rfl
  refine lv_aload_n hx hb dX1_init_22 rfl (lv_at hl 0 rfl) ?_
  refine lv_sipush (v := nI 140) hx hb dX1_init_23 (by decide) ?_
  refine rk_newi (n := b + 10) (fe := To fe (b + 7) 1 (fun a => [.ref (a (b + 8)), .ref (a (b + 9)), .null]) (E5 J b)) X (LocF_To hL (by omega) (fun a a1 h => by simp only [h (b + 8) (by omega), h (b + 9) (by omega)]) (fun a a1 h j g1 g2 => stC_ar (by omega) (by omega))) h 140 rfl (by decide) mw_44 (Nat.le_of_ble_eq_true rfl) (Nat.le_of_ble_eq_true rfl) dX1_init_26 (fun ad3 H B3 h => ?_)
  have A3 : ∀ j, j < b + 8 → ad3 j = ad j := fun j hj => (B3 j (by omega)).trans (A2 j hj)
  refine rk_putF X hin h in0_X1 tyX1 tyX1_ok nmX1 rfl 2 (by decide) mw_62 rfl rfl (b + 7) (by omega) (A3 (b + 7) (by omega)) ((va_up_ne _ _ (by omega)).trans To_k) (Nat.le_of_ble_eq_true rfl) rfl rfl dX1_init_28 (fun H locs h => ?_)
  have h : HS J z ad3 (b + 11) (To fe (b + 7) 1 (fun a => [.ref (a (b + 8)), .ref (a (b + 9)), .ref (a (b + 10))]) (E5 J b) ad3) s H locs := To_arr (n := b + 10) h (by omega) (E5_at (c := 10)).symm rfl
  exact hret ad3 _ _ _ _ A3 (To_fin h (E5_at (c := 7))) dX1_init_31
set_option maxHeartbeats 4000000 in
set_option maxRecDepth 100000 in
theorem c_X3_init (l : Launch) (J : JJ) (z : Nat) (ad : Nat → Nat) (fe : FE) (b : Nat) (hL : LocF fe (b + 11)) : CI l J z yX3_init cX3_init 1 1 6 72 ad (b + 12) (ad (b + 11)) (To fe (b + 11) 3 (fun _ => [.int 0, .null, .null, .null, .null, .null, .null]) (E5 J b)) (Tn fe (b + 11) (E5 J b)) := by
  refine CI.walk (by decide) rfl (by decide) ?_
  intro p e s m below meth c ls X hin hAO h hl hret
  have hx := X.1
  have hb := X.2.1
  have hown := X.2.2.2.1
  have hts := X.2.2.2.2
  have hl : lv_has ls 1 [(0, .ref (ad (b + 11)))] := hl
  have A0 : ∀ j, j < b + 12 → ad j = ad j := fun _ _ => rfl
  refine lv_aload_n hx hb dX3_init_0 rfl (lv_at hl 0 rfl) ?_
  refine rk_obj X hl.1 mw_66 (by decide) (by decide) dX3_init_1 ?_
  refine lv_aload_n hx hb dX3_init_4 rfl (lv_at hl 0 rfl) ?_
  refine lv_bipush (v := nI 12) hx hb dX3_init_5 (by decide) ?_
  refine rk_newi (n := b + 12) (fe := To fe (b + 11) 3 (fun _ => [.int 0, .null, .null, .null, .null, .null, .null]) (E5 J b)) X (LocF_To hL (by omega) (fun _ _ _ => rfl) (fun a a1 h j g1 g2 => stC_ar (by omega) (by omega))) h 12 rfl (by decide) mw_44 (Nat.le_of_ble_eq_true rfl) (Nat.le_of_ble_eq_true rfl) dX3_init_7 (fun ad1 H B1 h => ?_)
  have A1 : ∀ j, j < b + 12 → ad1 j = ad j := fun j hj => (B1 j (by omega)).trans (A0 j hj)
  refine rk_putF X hin h in0_X3 tyX3 tyX3_ok nmX3 rfl 1 (by decide) mw_67 rfl rfl (b + 11) (by omega) (A1 (b + 11) (by omega)) ((va_up_ne _ _ (by omega)).trans To_k) (Nat.le_of_ble_eq_true rfl) rfl rfl dX3_init_9 (fun H locs h => ?_)
  have h : HS J z ad1 (b + 13) (To fe (b + 11) 3 (fun a => [.int 0, .ref (a (b + 12)), .null, .null, .null, .null, .null]) (E5 J b) ad1) s H locs := To_arr (n := b + 12) h (by omega) (E5_at (c := 12)).symm rfl
  refine lv_aload_n hx hb dX3_init_12 rfl (lv_at hl 0 rfl) ?_
  refine lv_bipush (v := nI 12) hx hb dX3_init_13 (by decide) ?_
  refine rk_newi (n := b + 13) (fe := To fe (b + 11) 3 (fun a => [.int 0, .ref (a (b + 12)), .null, .null, .null, .null, .null]) (E5 J b)) X (LocF_To hL (by omega) (fun a a1 h => by simp only [h (b + 12) (by omega)]) (fun a a1 h j g1 g2 => stC_ar (by omega) (by omega))) h 12 rfl (by decide) mw_44 (Nat.le_of_ble_eq_true rfl) (Nat.le_of_ble_eq_true rfl) dX3_init_15 (fun ad2 H B2 h => ?_)
  have A2 : ∀ j, j < b + 12 → ad2 j = ad j := fun j hj => (B2 j (by omega)).trans (A1 j hj)
  refine rk_putF X hin h in0_X3 tyX3 tyX3_ok nmX3 rfl 2 (by decide) mw_68 rfl rfl (b + 11) (by omega) (A2 (b + 11) (by omega)) ((va_up_ne _ _ (by omega)).trans To_k) (Nat.le_of_ble_eq_true rfl) rfl rfl dX3_init_17 (fun H locs h => ?_)
  have h : HS J z ad2 (b + 14) (To fe (b + 11) 3 (fun a => [.int 0, .ref (a (b + 12)), .ref (a (b + 13)), .null, .null, .null, .null]) (E5 J b) ad2) s H locs := To_arr (n := b + 13) h (by omega) (E5_at (c := 13)).symm rfl
  refine lv_aload_n hx hb dX3_init_20 rfl (lv_at hl 0 rfl) ?_
  refine lv_bipush (v := nI 12) hx hb dX3_init_21 (by decide) ?_
  refine rk_newi (n := b + 14) (fe := To fe (b + 11) 3 (fun a => [.int 0, .ref (a (b + 12)), .ref (a (b + 13)), .null, .null, .null, .null]) (E5 J b)) X (LocF_To hL (by omega) (fun a a1 h => by simp only [h (b + 12) (by omega), h (b + 13) (by omega)]) (fun a a1 h j g1 g2 => stC_ar (by omega) (by omega))) h 12 rfl (by decide) mw_44 (Nat.le_of_ble_eq_true rfl) (Nat.le_of_ble_eq_true rfl) dX3_init_23 (fun ad3 H B3 h => ?_)
  have A3 : ∀ j, j < b + 12 → ad3 j = ad j := fun j hj => (B3 j (by omega)).trans (A2 j hj)
  refine rk_putF X hin h in0_X3 tyX3 tyX3_ok nmX3 rfl 3 (by decide) mw_69 rfl rfl (b + 11) (by omega) (A3 (b + 11) (by omega)) ((va_up_ne _ _ (by omega)).trans To_k) (Nat.le_of_ble_eq_true rfl) rfl rfl dX3_init_25 (fun H locs h => ?_)
  have h : HS J z ad3 (b + 15) (To fe (b + 11) 3 (fun a => [.int 0, .ref (a (b + 12)), .ref (a (b + 13)), .ref (a (b + 14)), .null, .null, .null]) (E5 J b) ad3) s H locs := To_arr (n := b + 14) h (by omega) (E5_at (c := 14)).symm rfl
  refine lv_aload_n hx hb dX3_init_28 rfl (lv_at hl 0 rfl) ?_
  refine lv_bipush (v := nI 12) hx hb dX3_init_29 (by decide) ?_
  refine rk_newi (n := b + 15) (fe := To fe (b + 11) 3 (fun a => [.int 0, .ref (a (b + 12)), .ref (a (b + 13)), .ref (a (b + 14)), .null, .null, .null]) (E5 J b)) X (LocF_To hL (by omega) (fun a a1 h => by simp only [h (b + 12) (by omega), h (b + 13) (by omega), h (b + 14) (by omega)]) (fun a a1 h j g1 g2 => stC_ar (by omega) (by omega))) h 12 rfl (by decide) mw_44 (Nat.le_of_ble_eq_true rfl) (Nat.le_of_ble_eq_true rfl) dX3_init_31 (fun ad4 H B4 h => ?_)
  have A4 : ∀ j, j < b + 12 → ad4 j = ad j := fun j hj => (B4 j (by omega)).trans (A3 j hj)
  refine rk_putF X hin h in0_X3 tyX3 tyX3_ok nmX3 rfl 4 (by decide) mw_70 rfl rfl (b + 11) (by omega) (A4 (b + 11) (by omega)) ((va_up_ne _ _ (by omega)).trans To_k) (Nat.le_of_ble_eq_true rfl) rfl rfl dX3_init_33 (fun H locs h => ?_)
  have h : HS J z ad4 (b + 16) (To fe (b + 11) 3 (fun a => [.int 0, .ref (a (b + 12)), .ref (a (b + 13)), .ref (a (b + 14)), .ref (a (b + 15)), .null, .null]) (E5 J b) ad4) s H locs := To_arr (n := b + 15) h (by omega) (E5_at (c := 15)).symm rfl
  refine lv_aload_n hx hb dX3_init_36 rfl (lv_at hl 0 rfl) ?_
  refine lv_bipush (v := nI 12) hx hb dX3_init_37 (by decide) ?_
  refine rk_newi (n := b + 16) (fe := To fe (b + 11) 3 (fun a => [.int 0, .ref (a (b + 12)), .ref (a (b + 13)), .ref (a (b + 14)), .ref (a (b + 15)), .null, .null]) (E5 J b)) X (LocF_To hL (by omega) (fun a a1 h => by simp only [h (b + 12) (by omega), h (b + 13) (by omega), h (b + 14) (by omega), h (b + 15) (by omega)]) (fun a a1 h j g1 g2 => stC_ar (by omega) (by omega))) h 12 rfl (by decide) mw_44 (Nat.le_of_ble_eq_true rfl) (Nat.le_of_ble_eq_true rfl) dX3_init_39 (fun ad5 H B5 h => ?_)
  have A5 : ∀ j, j < b + 12 → ad5 j = ad j := fun j hj => (B5 j (by omega)).trans (A4 j hj)
  refine rk_putF X hin h in0_X3 tyX3 tyX3_ok nmX3 rfl 5 (by decide) mw_71 rfl rfl (b + 11) (by omega) (A5 (b + 11) (by omega)) ((va_up_ne _ _ (by omega)).trans To_k) (Nat.le_of_ble_eq_true rfl) rfl rfl dX3_init_41 (fun H locs h => ?_)
  have h : HS J z ad5 (b + 17) (To fe (b + 11) 3 (fun a => [.int 0, .ref (a (b + 12)), .ref (a (b + 13)), .ref (a (b + 14)), .ref (a (b + 15)), .ref (a (b + 16)), .null]) (E5 J b) ad5) s H locs := To_arr (n := b + 16) h (by omega) (E5_at (c := 16)).symm rfl
  refine lv_aload_n hx hb dX3_init_44 rfl (lv_at hl 0 rfl) ?_
  refine lv_bipush (v := nI 12) hx hb dX3_init_45 (by decide) ?_
  refine rk_newi (n := b + 17) (fe := To fe (b + 11) 3 (fun a => [.int 0, .ref (a (b + 12)), .ref (a (b + 13)), .ref (a (b + 14)), .ref (a (b + 15)), .ref (a (b + 16)), .null]) (E5 J b)) X (LocF_To hL (by omega) (fun a a1 h => by simp only [h (b + 12) (by omega), h (b + 13) (by omega), h (b + 14) (by omega), h (b + 15) (by omega), h (b + 16) (by omega)]) (fun a a1 h j g1 g2 => stC_ar (by omega) (by omega))) h 12 rfl (by decide) mw_44 (Nat.le_of_ble_eq_true rfl) (Nat.le_of_ble_eq_true rfl) dX3_init_47 (fun ad6 H B6 h => ?_)
  have A6 : ∀ j, j < b + 12 → ad6 j = ad j := fun j hj => (B6 j (by omega)).trans (A5 j hj)
  refine rk_putF X hin h in0_X3 tyX3 tyX3_ok nmX3 rfl 6 (by decide) mw_72 rfl rfl (b + 11) (by omega) (A6 (b + 11) (by omega)) ((va_up_ne _ _ (by omega)).trans To_k) (Nat.le_of_ble_eq_true rfl) rfl rfl dX3_init_49 (fun H locs h => ?_)
  have h : HS J z ad6 (b + 18) (To fe (b + 11) 3 (fun a => [.int 0, .ref (a (b + 12)), .ref (a (b + 13)), .ref (a (b + 14)), .ref (a (b + 15)), .ref (a (b + 16)), .ref (a (b + 17))]) (E5 J b) ad6) s H locs := To_arr (n := b + 17) h (by omega) (E5_at (c := 17)).symm rfl
  exact hret ad6 _ _ _ _ A6 (To_fin h (E5_at (c := 11))) dX3_init_52
set_option maxHeartbeats 4000000 in
set_option maxRecDepth 100000 in
theorem c_X4_init (l : Launch) (J : JJ) (z : Nat) (ad : Nat → Nat) (fe : FE) (b : Nat) (hL : LocF fe (b + 18)) : CI l J z yX4_init cX4_init 1 1 4 48 ad (b + 19) (ad (b + 18)) (To fe (b + 18) 4 (fun _ => [.int 0, .null, .null, .null, .null]) (E5 J b)) (Tn fe (b + 18) (E5 J b)) := by
  refine CI.walk (by decide) rfl (by decide) ?_
  intro p e s m below meth c ls X hin hAO h hl hret
  have hx := X.1
  have hb := X.2.1
  have hown := X.2.2.2.1
  have hts := X.2.2.2.2
  have hl : lv_has ls 1 [(0, .ref (ad (b + 18)))] := hl
  have A0 : ∀ j, j < b + 19 → ad j = ad j := fun _ _ => rfl
  refine lv_aload_n hx hb dX4_init_0 rfl (lv_at hl 0 rfl) ?_
  refine rk_obj X hl.1 mw_76 (by decide) (by decide) dX4_init_1 ?_
  refine lv_aload_n hx hb dX4_init_4 rfl (lv_at hl 0 rfl) ?_
  refine lv_bipush (v := nI 12) hx hb dX4_init_5 (by decide) ?_
  refine rk_newi (n := b + 19) (fe := To fe (b + 18) 4 (fun _ => [.int 0, .null, .null, .null, .null]) (E5 J b)) X (LocF_To hL (by omega) (fun _ _ _ => rfl) (fun a a1 h j g1 g2 => stC_ar (by omega) (by omega))) h 12 rfl (by decide) mw_44 (Nat.le_of_ble_eq_true rfl) (Nat.le_of_ble_eq_true rfl) dX4_init_7 (fun ad1 H B1 h => ?_)
  have A1 : ∀ j, j < b + 19 → ad1 j = ad j := fun j hj => (B1 j (by omega)).trans (A0 j hj)
  refine rk_putF X hin h in0_X4 tyX4 tyX4_ok nmX4 rfl 1 (by decide) mw_77 rfl rfl (b + 18) (by omega) (A1 (b + 18) (by omega)) ((va_up_ne _ _ (by omega)).trans To_k) (Nat.le_of_ble_eq_true rfl) rfl rfl dX4_init_9 (fun H locs h => ?_)
  have h : HS J z ad1 (b + 20) (To fe (b + 18) 4 (fun a => [.int 0, .ref (a (b + 19)), .null, .null, .null]) (E5 J b) ad1) s H locs := To_arr (n := b + 19) h (by omega) (E5_at (c := 19)).symm rfl
  refine lv_aload_n hx hb dX4_init_12 rfl (lv_at hl 0 rfl) ?_
  refine lv_bipush (v := nI 12) hx hb dX4_init_13 (by decide) ?_
  refine rk_newi (n := b + 20) (fe := To fe (b + 18) 4 (fun a => [.int 0, .ref (a (b + 19)), .null, .null, .null]) (E5 J b)) X (LocF_To hL (by omega) (fun a a1 h => by simp only [h (b + 19) (by omega)]) (fun a a1 h j g1 g2 => stC_ar (by omega) (by omega))) h 12 rfl (by decide) mw_44 (Nat.le_of_ble_eq_true rfl) (Nat.le_of_ble_eq_true rfl) dX4_init_15 (fun ad2 H B2 h => ?_)
  have A2 : ∀ j, j < b + 19 → ad2 j = ad j := fun j hj => (B2 j (by omega)).trans (A1 j hj)
  refine rk_putF X hin h in0_X4 tyX4 tyX4_ok nmX4 rfl 2 (by decide) mw_78 rfl rfl (b + 18) (by omega) (A2 (b + 18) (by omega)) ((va_up_ne _ _ (by omega)).trans To_k) (Nat.le_of_ble_eq_true rfl) rfl rfl dX4_init_17 (fun H locs h => ?_)
  have h : HS J z ad2 (b + 21) (To fe (b + 18) 4 (fun a => [.int 0, .ref (a (b + 19)), .ref (a (b + 20)), .null, .null]) (E5 J b) ad2) s H locs := To_arr (n := b + 20) h (by omega) (E5_at (c := 20)).symm rfl
  refine lv_aload_n hx hb dX4_init_20 rfl (lv_at hl 0 rfl) ?_
  refine lv_bipush (v := nI 12) hx hb dX4_init_21 (by decide) ?_
  refine rk_newi (n := b + 21) (fe := To fe (b + 18) 4 (fun a => [.int 0, .ref (a (b + 19)), .ref (a (b + 20)), .null, .null]) (E5 J b)) X (LocF_To hL (by omega) (fun a a1 h => by simp only [h (b + 19) (by omega), h (b + 20) (by omega)]) (fun a a1 h j g1 g2 => stC_ar (by omega) (by omega))) h 12 rfl (by decide) mw_44 (Nat.le_of_ble_eq_true rfl) (Nat.le_of_ble_eq_true rfl) dX4_init_23 (fun ad3 H B3 h => ?_)
  have A3 : ∀ j, j < b + 19 → ad3 j = ad j := fun j hj => (B3 j (by omega)).trans (A2 j hj)
  refine rk_putF X hin h in0_X4 tyX4 tyX4_ok nmX4 rfl 3 (by decide) mw_79 rfl rfl (b + 18) (by omega) (A3 (b + 18) (by omega)) ((va_up_ne _ _ (by omega)).trans To_k) (Nat.le_of_ble_eq_true rfl) rfl rfl dX4_init_25 (fun H locs h => ?_)
  have h : HS J z ad3 (b + 22) (To fe (b + 18) 4 (fun a => [.int 0, .ref (a (b + 19)), .ref (a (b + 20)), .ref (a (b + 21)), .null]) (E5 J b) ad3) s H locs := To_arr (n := b + 21) h (by omega) (E5_at (c := 21)).symm rfl
  refine lv_aload_n hx hb dX4_init_28 rfl (lv_at hl 0 rfl) ?_
  refine lv_bipush (v := nI 12) hx hb dX4_init_29 (by decide) ?_
  refine rk_newi (n := b + 22) (fe := To fe (b + 18) 4 (fun a => [.int 0, .ref (a (b + 19)), .ref (a (b + 20)), .ref (a (b + 21)), .null]) (E5 J b)) X (LocF_To hL (by omega) (fun a a1 h => by simp only [h (b + 19) (by omega), h (b + 20) (by omega), h (b + 21) (by omega)]) (fun a a1 h j g1 g2 => stC_ar (by omega) (by omega))) h 12 rfl (by decide) mw_44 (Nat.le_of_ble_eq_true rfl) (Nat.le_of_ble_eq_true rfl) dX4_init_31 (fun ad4 H B4 h => ?_)
  have A4 : ∀ j, j < b + 19 → ad4 j = ad j := fun j hj => (B4 j (by omega)).trans (A3 j hj)
  refine rk_putF X hin h in0_X4 tyX4 tyX4_ok nmX4 rfl 4 (by decide) mw_80 rfl rfl (b + 18) (by omega) (A4 (b + 18) (by omega)) ((va_up_ne _ _ (by omega)).trans To_k) (Nat.le_of_ble_eq_true rfl) rfl rfl dX4_init_33 (fun H locs h => ?_)
  have h : HS J z ad4 (b + 23) (To fe (b + 18) 4 (fun a => [.int 0, .ref (a (b + 19)), .ref (a (b + 20)), .ref (a (b + 21)), .ref (a (b + 22))]) (E5 J b) ad4) s H locs := To_arr (n := b + 22) h (by omega) (E5_at (c := 22)).symm rfl
  exact hret ad4 _ _ _ _ A4 (To_fin h (E5_at (c := 18))) dX4_init_36
set_option maxHeartbeats 4000000 in
set_option maxRecDepth 100000 in
theorem c_X2_init (l : Launch) (J : JJ) (z : Nat) (ad : Nat → Nat) (fe : FE) (hL : LocF fe 203) : CI l J z yX2_init cX2_init 1 1 6 160 ad 204 (ad 203) (To fe 203 2 (fun _ => [.null, .int 0, .int 0, .int 0, .null, .null, .null, .null, .null]) (E0 J)) (Tn fe 203 (E0 J)) := by
  refine CI.walk (by decide) rfl (by decide) ?_
  intro p e s m below meth c ls X hin hAO h hl hret
  have hx := X.1
  have hb := X.2.1
  have hown := X.2.2.2.1
  have hts := X.2.2.2.2
  have hl : lv_has ls 1 [(0, .ref (ad 203))] := hl
  have A0 : ∀ j, j < 204 → ad j = ad j := fun _ _ => rfl
  refine lv_aload_n hx hb dX2_init_0 rfl (lv_at hl 0 rfl) ?_
  refine rk_obj X hl.1 mw_91 (by decide) (by decide) dX2_init_1 ?_
  refine lv_aload_n hx hb dX2_init_4 rfl (lv_at hl 0 rfl) ?_
  refine lv_bipush (v := nI 60) hx hb dX2_init_5 (by decide) ?_
  refine rk_newc (n := 204) (fe := To fe 203 2 (fun _ => [.null, .int 0, .int 0, .int 0, .null, .null, .null, .null, .null]) (E0 J)) X (LocF_To hL (by omega) (fun _ _ _ => rfl) (fun a a1 h j g1 g2 => by rcases (show j = 204 ∨ j = 205 ∨ j = 206 ∨ j = 207 ∨ j = 208 ∨ j = 209 by omega) with rfl | rfl | rfl | rfl | rfl | rfl <;> rfl)) h 60 rfl (by decide) mw_92 (Nat.le_of_ble_eq_true rfl) (Nat.le_of_ble_eq_true rfl) dX2_init_7 (fun ad1 H B1 h => ?_)
  have A1 : ∀ j, j < 204 → ad1 j = ad j := fun j hj => (B1 j (by omega)).trans (A0 j hj)
  refine rk_putF X hin h in0_X2 tyX2 tyX2_ok nmX2 rfl 0 (by decide) mw_93 rfl rfl 203 (by omega) (A1 203 (by omega)) ((va_up_ne _ _ (by omega)).trans To_k) (Nat.le_of_ble_eq_true rfl) rfl rfl dX2_init_9 (fun H locs h => ?_)
  have h : HS J z ad1 205 (To fe 203 2 (fun a => [.ref (a 204), .int 0, .int 0, .int 0, .null, .null, .null, .null, .null]) (E0 J) ad1) s H locs := To_arr (n := 204) h (by omega) rfl rfl
  refine lv_aload_n hx hb dX2_init_12 rfl (lv_at hl 0 rfl) ?_
  refine lv_bipush (v := nI 20) hx hb dX2_init_13 (by decide) ?_
  refine rk_newi (n := 205) (fe := To fe 203 2 (fun a => [.ref (a 204), .int 0, .int 0, .int 0, .null, .null, .null, .null, .null]) (E0 J)) X (LocF_To hL (by omega) (fun a a1 h => by simp only [h 204 (by omega)]) (fun a a1 h j g1 g2 => by rcases (show j = 204 ∨ j = 205 ∨ j = 206 ∨ j = 207 ∨ j = 208 ∨ j = 209 by omega) with rfl | rfl | rfl | rfl | rfl | rfl <;> rfl)) h 20 rfl (by decide) mw_44 (Nat.le_of_ble_eq_true rfl) (Nat.le_of_ble_eq_true rfl) dX2_init_15 (fun ad2 H B2 h => ?_)
  have A2 : ∀ j, j < 204 → ad2 j = ad j := fun j hj => (B2 j (by omega)).trans (A1 j hj)
  refine rk_putF X hin h in0_X2 tyX2 tyX2_ok nmX2 rfl 4 (by decide) mw_94 rfl rfl 203 (by omega) (A2 203 (by omega)) ((va_up_ne _ _ (by omega)).trans To_k) (Nat.le_of_ble_eq_true rfl) rfl rfl dX2_init_17 (fun H locs h => ?_)
  have h : HS J z ad2 206 (To fe 203 2 (fun a => [.ref (a 204), .int 0, .int 0, .int 0, .ref (a 205), .null, .null, .null, .null]) (E0 J) ad2) s H locs := To_arr (n := 205) h (by omega) rfl rfl
  refine lv_aload_n hx hb dX2_init_20 rfl (lv_at hl 0 rfl) ?_
  refine lv_bipush (v := nI 20) hx hb dX2_init_21 (by decide) ?_
  refine rk_newi (n := 206) (fe := To fe 203 2 (fun a => [.ref (a 204), .int 0, .int 0, .int 0, .ref (a 205), .null, .null, .null, .null]) (E0 J)) X (LocF_To hL (by omega) (fun a a1 h => by simp only [h 204 (by omega), h 205 (by omega)]) (fun a a1 h j g1 g2 => by rcases (show j = 204 ∨ j = 205 ∨ j = 206 ∨ j = 207 ∨ j = 208 ∨ j = 209 by omega) with rfl | rfl | rfl | rfl | rfl | rfl <;> rfl)) h 20 rfl (by decide) mw_44 (Nat.le_of_ble_eq_true rfl) (Nat.le_of_ble_eq_true rfl) dX2_init_23 (fun ad3 H B3 h => ?_)
  have A3 : ∀ j, j < 204 → ad3 j = ad j := fun j hj => (B3 j (by omega)).trans (A2 j hj)
  refine rk_putF X hin h in0_X2 tyX2 tyX2_ok nmX2 rfl 5 (by decide) mw_95 rfl rfl 203 (by omega) (A3 203 (by omega)) ((va_up_ne _ _ (by omega)).trans To_k) (Nat.le_of_ble_eq_true rfl) rfl rfl dX2_init_25 (fun H locs h => ?_)
  have h : HS J z ad3 207 (To fe 203 2 (fun a => [.ref (a 204), .int 0, .int 0, .int 0, .ref (a 205), .ref (a 206), .null, .null, .null]) (E0 J) ad3) s H locs := To_arr (n := 206) h (by omega) rfl rfl
  refine lv_aload_n hx hb dX2_init_28 rfl (lv_at hl 0 rfl) ?_
  refine lv_bipush (v := nI 20) hx hb dX2_init_29 (by decide) ?_
  refine rk_newi (n := 207) (fe := To fe 203 2 (fun a => [.ref (a 204), .int 0, .int 0, .int 0, .ref (a 205), .ref (a 206), .null, .null, .null]) (E0 J)) X (LocF_To hL (by omega) (fun a a1 h => by simp only [h 204 (by omega), h 205 (by omega), h 206 (by omega)]) (fun a a1 h j g1 g2 => by rcases (show j = 204 ∨ j = 205 ∨ j = 206 ∨ j = 207 ∨ j = 208 ∨ j = 209 by omega) with rfl | rfl | rfl | rfl | rfl | rfl <;> rfl)) h 20 rfl (by decide) mw_44 (Nat.le_of_ble_eq_true rfl) (Nat.le_of_ble_eq_true rfl) dX2_init_31 (fun ad4 H B4 h => ?_)
  have A4 : ∀ j, j < 204 → ad4 j = ad j := fun j hj => (B4 j (by omega)).trans (A3 j hj)
  refine rk_putF X hin h in0_X2 tyX2 tyX2_ok nmX2 rfl 6 (by decide) mw_96 rfl rfl 203 (by omega) (A4 203 (by omega)) ((va_up_ne _ _ (by omega)).trans To_k) (Nat.le_of_ble_eq_true rfl) rfl rfl dX2_init_33 (fun H locs h => ?_)
  have h : HS J z ad4 208 (To fe 203 2 (fun a => [.ref (a 204), .int 0, .int 0, .int 0, .ref (a 205), .ref (a 206), .ref (a 207), .null, .null]) (E0 J) ad4) s H locs := To_arr (n := 207) h (by omega) rfl rfl
  refine lv_aload_n hx hb dX2_init_36 rfl (lv_at hl 0 rfl) ?_
  refine lv_bipush (v := nI 20) hx hb dX2_init_37 (by decide) ?_
  refine rk_newi (n := 208) (fe := To fe 203 2 (fun a => [.ref (a 204), .int 0, .int 0, .int 0, .ref (a 205), .ref (a 206), .ref (a 207), .null, .null]) (E0 J)) X (LocF_To hL (by omega) (fun a a1 h => by simp only [h 204 (by omega), h 205 (by omega), h 206 (by omega), h 207 (by omega)]) (fun a a1 h j g1 g2 => by rcases (show j = 204 ∨ j = 205 ∨ j = 206 ∨ j = 207 ∨ j = 208 ∨ j = 209 by omega) with rfl | rfl | rfl | rfl | rfl | rfl <;> rfl)) h 20 rfl (by decide) mw_44 (Nat.le_of_ble_eq_true rfl) (Nat.le_of_ble_eq_true rfl) dX2_init_39 (fun ad5 H B5 h => ?_)
  have A5 : ∀ j, j < 204 → ad5 j = ad j := fun j hj => (B5 j (by omega)).trans (A4 j hj)
  refine rk_putF X hin h in0_X2 tyX2 tyX2_ok nmX2 rfl 7 (by decide) mw_97 rfl rfl 203 (by omega) (A5 203 (by omega)) ((va_up_ne _ _ (by omega)).trans To_k) (Nat.le_of_ble_eq_true rfl) rfl rfl dX2_init_41 (fun H locs h => ?_)
  have h : HS J z ad5 209 (To fe 203 2 (fun a => [.ref (a 204), .int 0, .int 0, .int 0, .ref (a 205), .ref (a 206), .ref (a 207), .ref (a 208), .null]) (E0 J) ad5) s H locs := To_arr (n := 208) h (by omega) rfl rfl
  refine lv_aload_n hx hb dX2_init_44 rfl (lv_at hl 0 rfl) ?_
  refine lv_bipush (v := nI 20) hx hb dX2_init_45 (by decide) ?_
  refine rk_newi (n := 209) (fe := To fe 203 2 (fun a => [.ref (a 204), .int 0, .int 0, .int 0, .ref (a 205), .ref (a 206), .ref (a 207), .ref (a 208), .null]) (E0 J)) X (LocF_To hL (by omega) (fun a a1 h => by simp only [h 204 (by omega), h 205 (by omega), h 206 (by omega), h 207 (by omega), h 208 (by omega)]) (fun a a1 h j g1 g2 => by rcases (show j = 204 ∨ j = 205 ∨ j = 206 ∨ j = 207 ∨ j = 208 ∨ j = 209 by omega) with rfl | rfl | rfl | rfl | rfl | rfl <;> rfl)) h 20 rfl (by decide) mw_44 (Nat.le_of_ble_eq_true rfl) (Nat.le_of_ble_eq_true rfl) dX2_init_47 (fun ad6 H B6 h => ?_)
  have A6 : ∀ j, j < 204 → ad6 j = ad j := fun j hj => (B6 j (by omega)).trans (A5 j hj)
  refine rk_putF X hin h in0_X2 tyX2 tyX2_ok nmX2 rfl 8 (by decide) mw_98 rfl rfl 203 (by omega) (A6 203 (by omega)) ((va_up_ne _ _ (by omega)).trans To_k) (Nat.le_of_ble_eq_true rfl) rfl rfl dX2_init_49 (fun H locs h => ?_)
  have h : HS J z ad6 210 (To fe 203 2 (fun a => [.ref (a 204), .int 0, .int 0, .int 0, .ref (a 205), .ref (a 206), .ref (a 207), .ref (a 208), .ref (a 209)]) (E0 J) ad6) s H locs := To_arr (n := 209) h (by omega) rfl rfl
  exact hret ad6 _ _ _ _ A6 (To_fin h rfl) dX2_init_52
