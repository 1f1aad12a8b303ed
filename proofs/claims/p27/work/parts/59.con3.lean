/-! CONSTRUCTORS: a state, the history, both objects -/
theorem E5_loc {J : JJ} {b m j : Nat} {a a1 : Nat → Nat} (h : ∀ i, i < b + m → a i = a1 i) (hm : m = 1 ∨ m = 7 ∨ m = 11 ∨ m = 18 ∨ m = 23 ∨ m = 24 ∨ m = 25) (h1 : b < j) (h2 : j < b + m) : E5 J b a j = E5 J b a1 j := stC_loc h (by omega) (Or.inl (by omega)) hm
theorem blk1 {j n : Nat} (h0 : 0 < j) (h : j < n) (hn : n ≤ 101) (hm : n % 25 = 1) : ∃ b, IsB b ∧ b ≤ j ∧ j < b + 25 ∧ b + 25 ≤ n := ⟨25 * ((j - 1) / 25) + 1, by unfold IsB; omega, by omega, by omega, by omega⟩
theorem blk2 {j n : Nat} (h0 : 103 ≤ j) (h : j < n) (hn : n ≤ 203) (hm : (n - 103) % 25 = 0) : ∃ b, IsB b ∧ b ≤ j ∧ j < b + 25 ∧ b + 25 ≤ n := ⟨103 + 25 * ((j - 103) / 25), by unfold IsB; omega, by omega, by omega, by omega⟩
theorem E0_blk {J : JJ} {n j : Nat} {a a1 : Nat → Nat} (h : ∀ i, i < n → a i = a1 i) (hb : ∃ b, IsB b ∧ b ≤ j ∧ j < b + 25 ∧ b + 25 ≤ n) : E0 J a j = E0 J a1 j := by
  obtain ⟨b, hB, h1, h2, h3⟩ := hb
  rw [← E05 hB h1 h2, ← E05 hB h1 h2]
  exact stC_loc (m := 25) (fun i hi => h i (by omega)) (by omega) (Or.inr rfl) (by omega)
theorem E0_101 {J : JJ} {a : Nat → Nat} : E0 J a 101 = .inr (0, [.ref (a 102), .int 0, .int 0]) := rfl
theorem E0_102 {J : JJ} {a : Nat → Nat} : E0 J a 102 = .inl (J.2.2.2, 4, .inr (.inr (.inr (.inr (ringF a))))) := rfl
theorem E0_203 {J : JJ} {a : Nat → Nat} : E0 J a 203 = .inr (2, [.ref (a 204), .int 0, .int 0, .int 0, .ref (a 205), .ref (a 206), .ref (a 207), .ref (a 208), .ref (a 209)]) := rfl
/-- the cells below n are local, where n ends a block -/
theorem E0_loc {J : JJ} {n j : Nat} {a a1 : Nat → Nat} (h : ∀ i, i < n → a i = a1 i) (h0 : 0 < j) (hj : j < n) (hn : (n ≤ 101 ∧ n % 25 = 1) ∨ n = 203 ∨ n = 210) : E0 J a j = E0 J a1 j := by
  by_cases g1 : j < 101
  · exact E0_blk h (by
      obtain ⟨b, k1, k2, k3, k4⟩ := blk1 (n := if n ≤ 101 then n else 101) h0 (by split <;> omega) (by split <;> omega) (by split <;> omega)
      exact ⟨b, k1, k2, k3, by split at k4 <;> omega⟩)
  · have hn2 : n = 203 ∨ n = 210 := by omega
    by_cases g2 : j = 101
    · subst g2
      rw [E0_101, E0_101, h 102 (by omega)]
    · by_cases g3 : j = 102
      · subst g3
        rw [E0_102, E0_102]
        unfold ringF
        rw [h 103 (by omega), h 128 (by omega), h 153 (by omega), h 178 (by omega)]
      · by_cases g4 : j < 203
        · exact E0_blk h (by
            obtain ⟨b, k1, k2, k3, k4⟩ := blk2 (n := 203) (by omega) g4 (by omega) (by omega)
            exact ⟨b, k1, k2, k3, by omega⟩)
        · by_cases g5 : j = 203
          · subst g5
            rw [E0_203, E0_203, h 204 (by omega), h 205 (by omega), h 206 (by omega), h 207 (by omega), h 208 (by omega), h 209 (by omega)]
          · rcases (show j = 204 ∨ j = 205 ∨ j = 206 ∨ j = 207 ∨ j = 208 ∨ j = 209 by omega) with rfl | rfl | rfl | rfl | rfl | rfl <;> rfl
/-- the ring with i states in it -/
def rgF : Nat → (Nat → Nat) → Nat → Option Nat
  | 0, _ => fun _ => none
  | i + 1, a => va_up (rgF i a) i (some (a (103 + 25 * i)))
def EX0 (J : JJ) (i : Nat) : FE := fun a j => if j = 102 then .inl (J.2.2.2, 4, .inr (.inr (.inr (.inr (rgF i a))))) else E0 J a j
theorem rgF_loc {a a1 : Nat → Nat} : ∀ {i : Nat}, (∀ k, k < 103 + 25 * i → a k = a1 k) → rgF i a = rgF i a1 := by
  intro i
  induction i with
  | zero => exact fun _ => rfl
  | succ i ih =>
    intro h
    show va_up (rgF i a) i (some (a (103 + 25 * i))) = va_up (rgF i a1) i (some (a1 (103 + 25 * i)))
    rw [ih (fun k hk => h k (by omega)), h _ (by omega)]
theorem EX0_loc {J : JJ} {i n j : Nat} {a a1 : Nat → Nat} (hn : n = 103 + 25 * i) (hi : i ≤ 4) (h : ∀ k, k < n → a k = a1 k) (h0 : 101 < j) (hj : j < n) : EX0 J i a j = EX0 J i a1 j := by
  subst hn
  unfold EX0
  by_cases g : j = 102
  · rw [if_pos g, if_pos g, rgF_loc h]
  · rw [if_neg g, if_neg g]
    exact E0_blk h (blk2 (by omega) hj (by omega) (by omega))
theorem ring_step {J : JJ} {z i n b v : Nat} {ad : Nat → Nat} {fe : FE} {FS : (Nat → Nat) → List Value} {s : State} {H : Heap} {locs : List Loc} (h : HS J z ad n (va_up (Tn (To fe 101 0 FS (EX0 J i)) b (E5 J b) ad) 102 (.inl (J.2.2.2, 4, .inr (.inr (.inr (.inr (va_up (rgF i ad) i (some v)))))))) s H locs) (hb : b = 103 + 25 * i) (hi : i < 4) (hn : n = b + 25) (hv : v = ad b) : HS J z ad n (To fe 101 0 FS (EX0 J (i + 1)) ad) s H locs := by
  subst hn
  subst hv
  have hB : IsB b := by unfold IsB; omega
  refine h.cg (fun j hj => ?_)
  by_cases g : j = 102
  · subst g
    rw [va_up_self]
    unfold To EX0
    rw [if_neg (by omega), if_neg (by omega), if_pos rfl, hb]
    rfl
  · rw [va_up_ne _ _ g]
    by_cases g2 : j < b
    · rw [Tn_lo g2]
      unfold To EX0
      rw [if_neg g, if_neg g]
    · unfold Tn
      rw [if_neg g2, E05 hB (by omega) (by omega)]
      unfold To EX0
      rw [if_neg (by omega), if_neg (by omega), if_neg g]
def E8 (J : JJ) (f : Nat → Int32) : FE := fun a j => if j = 211 then .inl (J.2.1, 4896, .inl f) else E0 J a j
theorem E8_st {J : JJ} {z n : Nat} {f f' : Nat → Int32} {ad : Nat → Nat} {fe : FE} {FS : (Nat → Nat) → List Value} {s : State} {H : Heap} {locs : List Loc} (h : HS J z ad n (va_up (To fe 210 8 FS (E8 J f) ad) 211 (.inl (J.2.1, 4896, .inl f'))) s H locs) : HS J z ad n (To fe 210 8 FS (E8 J f') ad) s H locs := by
  refine h.cg (fun j hj => ?_)
  by_cases g : j = 211
  · subst g
    rw [va_up_self]
    unfold To E8
    rw [if_neg (by omega), if_neg (by omega), if_pos rfl]
  · rw [va_up_ne _ _ g]
    unfold To E8
    rw [if_neg g, if_neg g]
theorem E8_211 {J : JJ} {f : Nat → Int32} {a : Nat → Nat} {fe : FE} {FS : (Nat → Nat) → List Value} : To fe 210 8 FS (E8 J f) a 211 = .inl (J.2.1, 4896, .inl f) := by
  unfold To E8
  rw [if_neg (by omega), if_neg (by omega), if_pos rfl]
theorem To_put {J : JJ} {z n k ci : Nat} {ad : Nat → Nat} {fe E : FE} {FS FS' : (Nat → Nat) → List Value} {fs : List Value} {s : State} {H : Heap} {locs : List Loc} (h : HS J z ad n (va_up (To fe k ci FS E ad) k (.inr (ci, fs))) s H locs) (hf : fs = FS' ad) : HS J z ad n (To fe k ci FS' E ad) s H locs := by
  refine h.cg (fun j hj => ?_)
  by_cases g : j = k
  · subst g
    rw [va_up_self, To_k, hf]
  · rw [va_up_ne _ _ g]
    unfold To
    by_cases g3 : j < k
    · rw [if_pos g3, if_pos g3]
    · rw [if_neg g3, if_neg g3, if_neg g, if_neg g]
theorem Tn_cg {J : JJ} {z n k : Nat} {ad : Nat → Nat} {fe E E' : FE} {s : State} {H : Heap} {locs : List Loc} (h : HS J z ad n (Tn fe k E ad) s H locs) (hE : ∀ j, k ≤ j → j < n → E ad j = E' ad j) : HS J z ad n (Tn fe k E' ad) s H locs := by
  refine h.cg (fun j hj => ?_)
  unfold Tn
  by_cases g : j < k
  · rw [if_pos g, if_pos g]
  · rw [if_neg g, if_neg g]
    exact hE j (by omega) hj
set_option maxHeartbeats 4000000 in
set_option maxRecDepth 100000 in
theorem c_X5_init (l : Launch) (J : JJ) (z : Nat) (ad : Nat → Nat) (fe : FE) (b : Nat) (hL : LocF fe b) : CI l J z yX5_init cX5_init 1 2 24 635 ad (b + 1) (ad b) (To fe b 5 (fun _ => [.null, .null, .null, .null, .null, .int 0, .int 0, .int 0, .int 0, .null]) (E5 J b)) (Tn fe b (E5 J b)) := by
  refine CI.walk (by decide) rfl (by decide) ?_
  intro p e s m below meth c ls X hin hAO h hl hret
  have hx := X.1
  have hb := X.2.1
  have hown := X.2.2.2.1
  have hts := X.2.2.2.2
  have hl : lv_has ls 1 [(0, .ref (ad b))] := hl
  have A0 : ∀ j, j < b + 1 → ad j = ad j := fun _ _ => rfl
  refine lv_aload_n hx hb dX5_init_0 rfl (lv_at hl 0 rfl) ?_
  refine rk_obj X hl.1 mw_27 (by decide) (by decide) dX5_init_1 ?_
  refine lv_aload_n hx hb dX5_init_4 rfl (lv_at hl 0 rfl) ?_
  have hL1 : LocF (To fe b 5 (fun _ => [.null, .null, .null, .null, .null, .int 0, .int 0, .int 0, .int 0, .null]) (E5 J b)) (b + 1) := LocF_To hL (by omega) (fun _ _ _ => rfl) (fun a a1 h j g1 g2 => E5_loc (m := 1) h (by omega) g1 g2)
  refine rk_new (n := b + 1) (ci := 6) (fe := To fe b 5 (fun _ => [.null, .null, .null, .null, .null, .int 0, .int 0, .int 0, .int 0, .null]) (E5 J b)) X hL1 h in0_X6 tyX6 tyX6_ok mw_28 mw_29 mw_30 rfl (fs := [.int 0, .null, .null, .null, .null, .null]) (fun j hj => by rcases (show j = 0 ∨ j = 1 ∨ j = 2 ∨ j = 3 ∨ j = 4 ∨ j = 5 by omega) with rfl | rfl | rfl | rfl | rfl | rfl <;> rfl) (Nat.le_of_ble_eq_true rfl) (Nat.le_of_ble_eq_true rfl) dX5_init_5 (fun ad1 H B1 h => ?_)
  have A1 : ∀ j, j < b + 1 → ad1 j = ad j := fun j hj => (B1 j (by omega)).trans (A0 j hj)
  have hT : HS J z ad1 ((b + 1) + 1) (To (To fe b 5 (fun _ => [.null, .null, .null, .null, .null, .int 0, .int 0, .int 0, .int 0, .null]) (E5 J b)) (b + 1) 6 (fun _ => [.int 0, .null, .null, .null, .null, .null]) (E5 J b) ad1) s H _ := To_new h
  refine lv_dup hx hb dX5_init_8 rfl ?_
  refine rk_ci (rest := [.ref (ad1 (b + 1)), .ref (ad b)]) X hl.1 hAO hT (c_X6_init l J z ad1 (To fe b 5 (fun _ => [.null, .null, .null, .null, .null, .int 0, .int 0, .int 0, .int 0, .null]) (E5 J b)) b hL1) mw_47 mw_48 mw_30 mw_49 rfl pdX6_init.2 ⟨Nat.le_of_ble_eq_true rfl, Nat.le_of_ble_eq_true rfl⟩ ⟨Nat.le_of_ble_eq_true rfl, Nat.le_of_ble_eq_true rfl⟩ (Nat.le_of_ble_eq_true rfl) dX5_init_9 (fun ad2 H locs B2 h => ?_)
  have A2 : ∀ j, j < b + 1 → ad2 j = ad j := fun j hj => (B2 j (by omega)).trans (A1 j hj)
  rw [← B2 (b + 1) (by omega)]
  refine rk_putF X hin h in0_X5 tyX5 tyX5_ok nmX5 rfl 0 (by decide) mw_31 rfl rfl b (by omega) (A2 b (by omega)) ((Tn_lo (by omega)).trans To_k) (Nat.le_of_ble_eq_true rfl) rfl rfl dX5_init_12 (fun H locs h => ?_)
  have h : HS J z ad2 (b + 7) (To fe b 5 (fun a => [.ref (a (b + 1)), .null, .null, .null, .null, .int 0, .int 0, .int 0, .int 0, .null]) (E5 J b) ad2) s H locs := To_sub h (by omega) (fun _ _ _ => rfl) rfl
  refine lv_aload_n hx hb dX5_init_15 rfl (lv_at hl 0 rfl) ?_
  have hL3 : LocF (To fe b 5 (fun a => [.ref (a (b + 1)), .null, .null, .null, .null, .int 0, .int 0, .int 0, .int 0, .null]) (E5 J b)) (b + 7) := LocF_To hL (by omega) (fun a a1 h => by simp only [h (b + 1) (by omega)]) (fun a a1 h j g1 g2 => E5_loc (m := 7) h (by omega) g1 g2)
  refine rk_new (n := b + 7) (ci := 1) (fe := To fe b 5 (fun a => [.ref (a (b + 1)), .null, .null, .null, .null, .int 0, .int 0, .int 0, .int 0, .null]) (E5 J b)) X hL3 h in0_X1 tyX1 tyX1_ok mw_32 mw_33 mw_34 rfl (fs := [.null, .null, .null]) (fun j hj => by rcases (show j = 0 ∨ j = 1 ∨ j = 2 by omega) with rfl | rfl | rfl <;> rfl) (Nat.le_of_ble_eq_true rfl) (Nat.le_of_ble_eq_true rfl) dX5_init_16 (fun ad3 H B3 h => ?_)
  have A3 : ∀ j, j < b + 1 → ad3 j = ad j := fun j hj => (B3 j (by omega)).trans (A2 j hj)
  have hT : HS J z ad3 ((b + 7) + 1) (To (To fe b 5 (fun a => [.ref (a (b + 1)), .null, .null, .null, .null, .int 0, .int 0, .int 0, .int 0, .null]) (E5 J b)) (b + 7) 1 (fun _ => [.null, .null, .null]) (E5 J b) ad3) s H _ := To_new h
  refine lv_dup hx hb dX5_init_19 rfl ?_
  refine rk_ci (rest := [.ref (ad3 (b + 7)), .ref (ad b)]) X hl.1 hAO hT (c_X1_init l J z ad3 (To fe b 5 (fun a => [.ref (a (b + 1)), .null, .null, .null, .null, .int 0, .int 0, .int 0, .int 0, .null]) (E5 J b)) b hL3) mw_56 mw_57 mw_34 mw_58 rfl pdX1_init.2 ⟨Nat.le_of_ble_eq_true rfl, Nat.le_of_ble_eq_true rfl⟩ ⟨Nat.le_of_ble_eq_true rfl, Nat.le_of_ble_eq_true rfl⟩ (Nat.le_of_ble_eq_true rfl) dX5_init_20 (fun ad4 H locs B4 h => ?_)
  have A4 : ∀ j, j < b + 1 → ad4 j = ad j := fun j hj => (B4 j (by omega)).trans (A3 j hj)
  rw [← B4 (b + 7) (by omega)]
  refine rk_putF X hin h in0_X5 tyX5 tyX5_ok nmX5 rfl 1 (by decide) mw_35 rfl rfl b (by omega) (A4 b (by omega)) ((Tn_lo (by omega)).trans To_k) (Nat.le_of_ble_eq_true rfl) rfl rfl dX5_init_23 (fun H locs h => ?_)
  have h : HS J z ad4 (b + 11) (To fe b 5 (fun a => [.ref (a (b + 1)), .ref (a (b + 7)), .null, .null, .null, .int 0, .int 0, .int 0, .int 0, .null]) (E5 J b) ad4) s H locs := To_sub h (by omega) (fun _ _ _ => rfl) rfl
  refine lv_aload_n hx hb dX5_init_26 rfl (lv_at hl 0 rfl) ?_
  have hL5 : LocF (To fe b 5 (fun a => [.ref (a (b + 1)), .ref (a (b + 7)), .null, .null, .null, .int 0, .int 0, .int 0, .int 0, .null]) (E5 J b)) (b + 11) := LocF_To hL (by omega) (fun a a1 h => by simp only [h (b + 1) (by omega), h (b + 7) (by omega)]) (fun a a1 h j g1 g2 => E5_loc (m := 11) h (by omega) g1 g2)
  refine rk_new (n := b + 11) (ci := 3) (fe := To fe b 5 (fun a => [.ref (a (b + 1)), .ref (a (b + 7)), .null, .null, .null, .int 0, .int 0, .int 0, .int 0, .null]) (E5 J b)) X hL5 h in0_X3 tyX3 tyX3_ok mw_36 mw_37 mw_38 rfl (fs := [.int 0, .null, .null, .null, .null, .null, .null]) (fun j hj => by rcases (show j = 0 ∨ j = 1 ∨ j = 2 ∨ j = 3 ∨ j = 4 ∨ j = 5 ∨ j = 6 by omega) with rfl | rfl | rfl | rfl | rfl | rfl | rfl <;> rfl) (Nat.le_of_ble_eq_true rfl) (Nat.le_of_ble_eq_true rfl) dX5_init_27 (fun ad5 H B5 h => ?_)
  have A5 : ∀ j, j < b + 1 → ad5 j = ad j := fun j hj => (B5 j (by omega)).trans (A4 j hj)
  have hT : HS J z ad5 ((b + 11) + 1) (To (To fe b 5 (fun a => [.ref (a (b + 1)), .ref (a (b + 7)), .null, .null, .null, .int 0, .int 0, .int 0, .int 0, .null]) (E5 J b)) (b + 11) 3 (fun _ => [.int 0, .null, .null, .null, .null, .null, .null]) (E5 J b) ad5) s H _ := To_new h
  refine lv_dup hx hb dX5_init_30 rfl ?_
  refine rk_ci (rest := [.ref (ad5 (b + 11)), .ref (ad b)]) X hl.1 hAO hT (c_X3_init l J z ad5 (To fe b 5 (fun a => [.ref (a (b + 1)), .ref (a (b + 7)), .null, .null, .null, .int 0, .int 0, .int 0, .int 0, .null]) (E5 J b)) b hL5) mw_63 mw_64 mw_38 mw_65 rfl pdX3_init.2 ⟨Nat.le_of_ble_eq_true rfl, Nat.le_of_ble_eq_true rfl⟩ ⟨Nat.le_of_ble_eq_true rfl, Nat.le_of_ble_eq_true rfl⟩ (Nat.le_of_ble_eq_true rfl) dX5_init_31 (fun ad6 H locs B6 h => ?_)
  have A6 : ∀ j, j < b + 1 → ad6 j = ad j := fun j hj => (B6 j (by omega)).trans (A5 j hj)
  rw [← B6 (b + 11) (by omega)]
  refine rk_putF X hin h in0_X5 tyX5 tyX5_ok nmX5 rfl 2 (by decide) mw_39 rfl rfl b (by omega) (A6 b (by omega)) ((Tn_lo (by omega)).trans To_k) (Nat.le_of_ble_eq_true rfl) rfl rfl dX5_init_34 (fun H locs h => ?_)
  have h : HS J z ad6 (b + 18) (To fe b 5 (fun a => [.ref (a (b + 1)), .ref (a (b + 7)), .ref (a (b + 11)), .null, .null, .int 0, .int 0, .int 0, .int 0, .null]) (E5 J b) ad6) s H locs := To_sub h (by omega) (fun _ _ _ => rfl) rfl
  refine lv_aload_n hx hb dX5_init_37 rfl (lv_at hl 0 rfl) ?_
  have hL7 : LocF (To fe b 5 (fun a => [.ref (a (b + 1)), .ref (a (b + 7)), .ref (a (b + 11)), .null, .null, .int 0, .int 0, .int 0, .int 0, .null]) (E5 J b)) (b + 18) := LocF_To hL (by omega) (fun a a1 h => by simp only [h (b + 1) (by omega), h (b + 7) (by omega), h (b + 11) (by omega)]) (fun a a1 h j g1 g2 => E5_loc (m := 18) h (by omega) g1 g2)
  refine rk_new (n := b + 18) (ci := 4) (fe := To fe b 5 (fun a => [.ref (a (b + 1)), .ref (a (b + 7)), .ref (a (b + 11)), .null, .null, .int 0, .int 0, .int 0, .int 0, .null]) (E5 J b)) X hL7 h in0_X4 tyX4 tyX4_ok mw_40 mw_41 mw_42 rfl (fs := [.int 0, .null, .null, .null, .null]) (fun j hj => by rcases (show j = 0 ∨ j = 1 ∨ j = 2 ∨ j = 3 ∨ j = 4 by omega) with rfl | rfl | rfl | rfl | rfl <;> rfl) (Nat.le_of_ble_eq_true rfl) (Nat.le_of_ble_eq_true rfl) dX5_init_38 (fun ad7 H B7 h => ?_)
  have A7 : ∀ j, j < b + 1 → ad7 j = ad j := fun j hj => (B7 j (by omega)).trans (A6 j hj)
  have hT : HS J z ad7 ((b + 18) + 1) (To (To fe b 5 (fun a => [.ref (a (b + 1)), .ref (a (b + 7)), .ref (a (b + 11)), .null, .null, .int 0, .int 0, .int 0, .int 0, .null]) (E5 J b)) (b + 18) 4 (fun _ => [.int 0, .null, .null, .null, .null]) (E5 J b) ad7) s H _ := To_new h
  refine lv_dup hx hb dX5_init_41 rfl ?_
  refine rk_ci (rest := [.ref (ad7 (b + 18)), .ref (ad b)]) X hl.1 hAO hT (c_X4_init l J z ad7 (To fe b 5 (fun a => [.ref (a (b + 1)), .ref (a (b + 7)), .ref (a (b + 11)), .null, .null, .int 0, .int 0, .int 0, .int 0, .null]) (E5 J b)) b hL7) mw_73 mw_74 mw_42 mw_75 rfl pdX4_init.2 ⟨Nat.le_of_ble_eq_true rfl, Nat.le_of_ble_eq_true rfl⟩ ⟨Nat.le_of_ble_eq_true rfl, Nat.le_of_ble_eq_true rfl⟩ (Nat.le_of_ble_eq_true rfl) dX5_init_42 (fun ad8 H locs B8 h => ?_)
  have A8 : ∀ j, j < b + 1 → ad8 j = ad j := fun j hj => (B8 j (by omega)).trans (A7 j hj)
  rw [← B8 (b + 18) (by omega)]
  refine rk_putF X hin h in0_X5 tyX5 tyX5_ok nmX5 rfl 3 (by decide) mw_43 rfl rfl b (by omega) (A8 b (by omega)) ((Tn_lo (by omega)).trans To_k) (Nat.le_of_ble_eq_true rfl) rfl rfl dX5_init_45 (fun H locs h => ?_)
  have h : HS J z ad8 (b + 23) (To fe b 5 (fun a => [.ref (a (b + 1)), .ref (a (b + 7)), .ref (a (b + 11)), .ref (a (b + 18)), .null, .int 0, .int 0, .int 0, .int 0, .null]) (E5 J b) ad8) s H locs := To_sub h (by omega) (fun _ _ _ => rfl) rfl
  refine lv_aload_n hx hb dX5_init_48 rfl (lv_at hl 0 rfl) ?_
  refine lv_iconst (v := nI 2) hx hb dX5_init_49 (by decide) ?_
  refine rk_newi (n := b + 23) (fe := To fe b 5 (fun a => [.ref (a (b + 1)), .ref (a (b + 7)), .ref (a (b + 11)), .ref (a (b + 18)), .null, .int 0, .int 0, .int 0, .int 0, .null]) (E5 J b)) X (LocF_To hL (by omega) (fun a a1 h => by simp only [h (b + 1) (by omega), h (b + 7) (by omega), h (b + 11) (by omega), h (b + 18) (by omega)]) (fun a a1 h j g1 g2 => E5_loc (m := 23) h (by omega) g1 g2)) h 2 rfl (by decide) mw_44 (Nat.le_of_ble_eq_true rfl) (Nat.le_of_ble_eq_true rfl) dX5_init_50 (fun ad9 H B9 h => ?_)
  have A9 : ∀ j, j < b + 1 → ad9 j = ad j := fun j hj => (B9 j (by omega)).trans (A8 j hj)
  refine lv_dup hx hb dX5_init_52 rfl ?_
  refine lv_iconst (v := nI 0) hx hb dX5_init_53 (by decide) ?_
  refine lv_iconst (v := nI 5) hx hb dX5_init_54 (by decide) ?_
  refine rw_ist X h (b + 23) (by omega) (va_up_self _ _ _) 0 rfl (by decide) (by decide) dX5_init_55 (fun H locs h => ?_)
  rw [vup2] at h
  refine lv_dup hx hb dX5_init_56 rfl ?_
  refine lv_iconst (v := nI 1) hx hb dX5_init_57 (by decide) ?_
  refine lv_bipush (v := nI 10) hx hb dX5_init_58 (by decide) ?_
  refine rw_ist X h (b + 23) (by omega) (va_up_self _ _ _) 1 rfl (by decide) (by decide) dX5_init_60 (fun H locs h => ?_)
  rw [vup2] at h
  refine rk_putF X hin h in0_X5 tyX5 tyX5_ok nmX5 rfl 4 (by decide) mw_45 rfl rfl b (by omega) (A9 b (by omega)) ((va_up_ne _ _ (by omega)).trans To_k) (Nat.le_of_ble_eq_true rfl) rfl rfl dX5_init_61 (fun H locs h => ?_)
  have h : HS J z ad9 (b + 24) (To fe b 5 (fun a => [.ref (a (b + 1)), .ref (a (b + 7)), .ref (a (b + 11)), .ref (a (b + 18)), .ref (a (b + 23)), .int 0, .int 0, .int 0, .int 0, .null]) (E5 J b) ad9) s H locs := To_arr (n := b + 23) h (by omega) (E5_at (c := 23)).symm rfl
  refine lv_aload_n hx hb dX5_init_64 rfl (lv_at hl 0 rfl) ?_
  refine lv_bipush (v := nI 12) hx hb dX5_init_65 (by decide) ?_
  refine rk_newi (n := b + 24) (fe := To fe b 5 (fun a => [.ref (a (b + 1)), .ref (a (b + 7)), .ref (a (b + 11)), .ref (a (b + 18)), .ref (a (b + 23)), .int 0, .int 0, .int 0, .int 0, .null]) (E5 J b)) X (LocF_To hL (by omega) (fun a a1 h => by simp only [h (b + 1) (by omega), h (b + 7) (by omega), h (b + 11) (by omega), h (b + 18) (by omega), h (b + 23) (by omega)]) (fun a a1 h j g1 g2 => E5_loc (m := 24) h (by omega) g1 g2)) h 12 rfl (by decide) mw_44 (Nat.le_of_ble_eq_true rfl) (Nat.le_of_ble_eq_true rfl) dX5_init_67 (fun ad10 H B10 h => ?_)
  have A10 : ∀ j, j < b + 1 → ad10 j = ad j := fun j hj => (B10 j (by omega)).trans (A9 j hj)
  refine rk_putF X hin h in0_X5 tyX5 tyX5_ok nmX5 rfl 9 (by decide) mw_46 rfl rfl b (by omega) (A10 b (by omega)) ((va_up_ne _ _ (by omega)).trans To_k) (Nat.le_of_ble_eq_true rfl) rfl rfl dX5_init_69 (fun H locs h => ?_)
  have h : HS J z ad10 (b + 25) (To fe b 5 (fun a => [.ref (a (b + 1)), .ref (a (b + 7)), .ref (a (b + 11)), .ref (a (b + 18)), .ref (a (b + 23)), .int 0, .int 0, .int 0, .int 0, .ref (a (b + 24))]) (E5 J b) ad10) s H locs := To_arr (n := b + 24) h (by omega) (E5_at (c := 24)).symm rfl
  exact hret ad10 _ _ _ _ A10 (To_fin h (E5_at (c := 0))) dX5_init_72
set_option maxHeartbeats 4000000 in
set_option maxRecDepth 100000 in
theorem c_X0_init (l : Launch) (J : JJ) (z : Nat) (ad : Nat → Nat) (fe : FE) (hL : LocF fe 101) : CI l J z yX0_init cX0_init 2 3 101 2584 ad 102 (ad 101) (To fe 101 0 (fun _ => [.null, .int 0, .int 0]) (E0 J)) (Tn fe 101 (E0 J)) := by
  refine CI.walk (by decide) rfl (by decide) ?_
  intro p e s m below meth c ls X hin hAO h hl hret
  have hx := X.1
  have hb := X.2.1
  have hown := X.2.2.2.1
  have hts := X.2.2.2.2
  have hl : lv_has ls 2 [(0, .ref (ad 101))] := hl
  have A0 : ∀ j, j < 102 → ad j = ad j := fun _ _ => rfl
  have h : HS J z ad 102 (To fe 101 0 (fun _ => [.null, .int 0, .int 0]) (EX0 J 0) ad) s s.heap [] := h.cg (fun j hj => by
    unfold To
    by_cases g : j < 101
    · rw [if_pos g, if_pos g]
    · rw [if_neg g, if_neg g, if_pos (by omega), if_pos (by omega)])
  refine lv_aload_n hx hb dX0_init_0 rfl (lv_at hl 0 rfl) ?_
  refine rk_obj X hl.1 mw_84 (by decide) (by decide) dX0_init_1 ?_
  refine lv_aload_n hx hb dX0_init_4 rfl (lv_at hl 0 rfl) ?_
  refine lv_iconst (v := nI 4) hx hb dX0_init_5 (by decide) ?_
  refine rk_newq (n := 102) (fe := To fe 101 0 (fun _ => [.null, .int 0, .int 0]) (EX0 J 0)) X hAO (LocF_To hL (by omega) (fun _ _ _ => rfl) (fun a a1 h j g1 g2 => absurd g2 (by omega))) h 4 rfl (by decide) mw_85 (Nat.le_of_ble_eq_true rfl) (Nat.le_of_ble_eq_true rfl) dX0_init_6 (fun ad1 H B1 h => ?_)
  have A1 : ∀ j, j < 102 → ad1 j = ad j := fun j hj => (B1 j (by omega)).trans (A0 j hj)
  refine rk_putF X hin h in0_X0 tyX0 tyX0_ok nmX0 rfl 0 (by decide) mw_86 rfl rfl 101 (by omega) (A1 101 (by omega)) ((va_up_ne _ _ (by omega)).trans To_k) (Nat.le_of_ble_eq_true rfl) rfl rfl dX0_init_9 (fun H locs h => ?_)
  have h : HS J z ad1 103 (To fe 101 0 (fun a => [.ref (a 102), .int 0, .int 0]) (EX0 J 0) ad1) s H locs := To_arr (n := 102) h (by omega) rfl rfl
  refine lv_iconst (v := nI 0) hx hb dX0_init_12 (by decide) ?_
  refine lv_istore_n (lv' := [(1, .int (nI 0)), (0, .ref (ad 101))]) hx hb dX0_init_13 rfl hl (by decide) rfl (fun ls hl => ?_)
  refine lv_iload_n hx hb dX0_init_14 rfl (lv_at hl 0 rfl) ?_
  refine lv_iconst (v := nI 4) hx hb dX0_init_15 (by decide) ?_
  refine lv_icmp_ge (tgt := 38) hx hb dX0_init_16 (by decide) (fun c_16 => absurd c_16 (by decide)) (fun c_16 => ?_)
  refine lv_aload_n hx hb dX0_init_19 rfl (lv_at hl 1 rfl) ?_
  refine rk_get X h (ci := 0) in0_X0 rfl 0 (by decide) mw_86 101 (by omega) (A1 101 (by omega)) To_k rfl dX0_init_20 ?_
  refine lv_iload_n hx hb dX0_init_23 rfl (lv_at hl 0 rfl) ?_
  have hL2 : LocF (To fe 101 0 (fun a => [.ref (a 102), .int 0, .int 0]) (EX0 J 0)) 103 := LocF_To hL (by omega) (fun a a1 h => by simp only [h 102 (by omega)]) (fun a a1 h j g1 g2 => EX0_loc (i := 0) rfl (by decide) h g1 g2)
  refine rk_new (n := 103) (ci := 5) (fe := To fe 101 0 (fun a => [.ref (a 102), .int 0, .int 0]) (EX0 J 0)) X hL2 h in0_X5 tyX5 tyX5_ok mw_85 mw_10 mw_11 rfl (fs := [.null, .null, .null, .null, .null, .int 0, .int 0, .int 0, .int 0, .null]) (fun j hj => by rcases (show j = 0 ∨ j = 1 ∨ j = 2 ∨ j = 3 ∨ j = 4 ∨ j = 5 ∨ j = 6 ∨ j = 7 ∨ j = 8 ∨ j = 9 by omega) with rfl | rfl | rfl | rfl | rfl | rfl | rfl | rfl | rfl | rfl <;> rfl) (Nat.le_of_ble_eq_true rfl) (Nat.le_of_ble_eq_true rfl) dX0_init_24 (fun ad2 H B2 h => ?_)
  have A2 : ∀ j, j < 102 → ad2 j = ad j := fun j hj => (B2 j (by omega)).trans (A1 j hj)
  have hT : HS J z ad2 (103 + 1) (To (To fe 101 0 (fun a => [.ref (a 102), .int 0, .int 0]) (EX0 J 0)) 103 5 (fun _ => [.null, .null, .null, .null, .null, .int 0, .int 0, .int 0, .int 0, .null]) (E5 J 103) ad2) s H _ := To_new h
  refine lv_dup hx hb dX0_init_27 rfl ?_
  refine rk_ci (rest := [.ref (ad2 103), .int (nI 0), .ref (ad1 102)]) X hl.1 hAO hT (c_X5_init l J z ad2 (To fe 101 0 (fun a => [.ref (a 102), .int 0, .int 0]) (EX0 J 0)) 103 hL2) mw_87 mw_25 mw_11 mw_26 rfl pdX5_init.2 ⟨Nat.le_of_ble_eq_true rfl, Nat.le_of_ble_eq_true rfl⟩ ⟨Nat.le_of_ble_eq_true rfl, Nat.le_of_ble_eq_true rfl⟩ (Nat.le_of_ble_eq_true rfl) dX0_init_28 (fun ad3 H locs B3 h => ?_)
  have A3 : ∀ j, j < 102 → ad3 j = ad j := fun j hj => (B3 j (by omega)).trans (A2 j hj)
  rw [← B3 103 (by omega)]
  have hr : Tn (To fe 101 0 (fun a => [.ref (a 102), .int 0, .int 0]) (EX0 J 0)) 103 (E5 J 103) ad3 102 = .inl (J.2.2.2, 4, .inr (.inr (.inr (.inr (rgF 0 ad3))))) := (Tn_lo (by decide)).trans rfl
  have hs5 : Tn (To fe 101 0 (fun a => [.ref (a 102), .int 0, .int 0]) (EX0 J 0)) 103 (E5 J 103) ad3 103 = stC J ad3 103 0 (g0 0) := (if_neg (by decide)).trans (E5_at (c := 0))
  refine rk_astq X h 102 103 (by omega) (by omega) hr (show _ = Sum.inr (5, _) from hs5) ((B3 102 (by omega)).trans (B2 102 (by omega))) rfl 0 rfl (by decide) (by decide) dX0_init_31 (fun H locs h => ?_)
  have h : HS J z ad3 128 (To fe 101 0 (fun a => [.ref (a 102), .int 0, .int 0]) (EX0 J 1) ad3) s H locs := ring_step h rfl (by decide) rfl rfl
  refine lv_iinc (v := nI 1) (lv' := [(1, .int (nI 1)), (0, .ref (ad 101))]) hx hb dX0_init_32 hl (k := 0) rfl (nI_addc (b := 1) rfl) (by decide) rfl (fun ls hl => ?_)
  refine lv_goto (tgt := 14) hx hb dX0_init_35 (by decide) ?_
  refine lv_iload_n hx hb dX0_init_14 rfl (lv_at hl 0 rfl) ?_
  refine lv_iconst (v := nI 4) hx hb dX0_init_15 (by decide) ?_
  refine lv_icmp_ge (tgt := 38) hx hb dX0_init_16 (by decide) (fun c_16 => absurd c_16 (by decide)) (fun c_16 => ?_)
  refine lv_aload_n hx hb dX0_init_19 rfl (lv_at hl 1 rfl) ?_
  refine rk_get X h (ci := 0) in0_X0 rfl 0 (by decide) mw_86 101 (by omega) (A3 101 (by omega)) To_k rfl dX0_init_20 ?_
  refine lv_iload_n hx hb dX0_init_23 rfl (lv_at hl 0 rfl) ?_
  have hL4 : LocF (To fe 101 0 (fun a => [.ref (a 102), .int 0, .int 0]) (EX0 J 1)) 128 := LocF_To hL (by omega) (fun a a1 h => by simp only [h 102 (by omega)]) (fun a a1 h j g1 g2 => EX0_loc (i := 1) rfl (by decide) h g1 g2)
  refine rk_new (n := 128) (ci := 5) (fe := To fe 101 0 (fun a => [.ref (a 102), .int 0, .int 0]) (EX0 J 1)) X hL4 h in0_X5 tyX5 tyX5_ok mw_85 mw_10 mw_11 rfl (fs := [.null, .null, .null, .null, .null, .int 0, .int 0, .int 0, .int 0, .null]) (fun j hj => by rcases (show j = 0 ∨ j = 1 ∨ j = 2 ∨ j = 3 ∨ j = 4 ∨ j = 5 ∨ j = 6 ∨ j = 7 ∨ j = 8 ∨ j = 9 by omega) with rfl | rfl | rfl | rfl | rfl | rfl | rfl | rfl | rfl | rfl <;> rfl) (Nat.le_of_ble_eq_true rfl) (Nat.le_of_ble_eq_true rfl) dX0_init_24 (fun ad4 H B4 h => ?_)
  have A4 : ∀ j, j < 102 → ad4 j = ad j := fun j hj => (B4 j (by omega)).trans (A3 j hj)
  have hT : HS J z ad4 (128 + 1) (To (To fe 101 0 (fun a => [.ref (a 102), .int 0, .int 0]) (EX0 J 1)) 128 5 (fun _ => [.null, .null, .null, .null, .null, .int 0, .int 0, .int 0, .int 0, .null]) (E5 J 128) ad4) s H _ := To_new h
  refine lv_dup hx hb dX0_init_27 rfl ?_
  refine rk_ci (rest := [.ref (ad4 128), .int (nI 1), .ref (ad3 102)]) X hl.1 hAO hT (c_X5_init l J z ad4 (To fe 101 0 (fun a => [.ref (a 102), .int 0, .int 0]) (EX0 J 1)) 128 hL4) mw_87 mw_25 mw_11 mw_26 rfl pdX5_init.2 ⟨Nat.le_of_ble_eq_true rfl, Nat.le_of_ble_eq_true rfl⟩ ⟨Nat.le_of_ble_eq_true rfl, Nat.le_of_ble_eq_true rfl⟩ (Nat.le_of_ble_eq_true rfl) dX0_init_28 (fun ad5 H locs B5 h => ?_)
  have A5 : ∀ j, j < 102 → ad5 j = ad j := fun j hj => (B5 j (by omega)).trans (A4 j hj)
  rw [← B5 128 (by omega)]
  have hr : Tn (To fe 101 0 (fun a => [.ref (a 102), .int 0, .int 0]) (EX0 J 1)) 128 (E5 J 128) ad5 102 = .inl (J.2.2.2, 4, .inr (.inr (.inr (.inr (rgF 1 ad5))))) := (Tn_lo (by decide)).trans rfl
  have hs5 : Tn (To fe 101 0 (fun a => [.ref (a 102), .int 0, .int 0]) (EX0 J 1)) 128 (E5 J 128) ad5 128 = stC J ad5 128 0 (g0 0) := (if_neg (by decide)).trans (E5_at (c := 0))
  refine rk_astq X h 102 128 (by omega) (by omega) hr (show _ = Sum.inr (5, _) from hs5) ((B5 102 (by omega)).trans (B4 102 (by omega))) rfl 1 rfl (by decide) (by decide) dX0_init_31 (fun H locs h => ?_)
  have h : HS J z ad5 153 (To fe 101 0 (fun a => [.ref (a 102), .int 0, .int 0]) (EX0 J 2) ad5) s H locs := ring_step h rfl (by decide) rfl rfl
  refine lv_iinc (v := nI 2) (lv' := [(1, .int (nI 2)), (0, .ref (ad 101))]) hx hb dX0_init_32 hl (k := 0) rfl (nI_addc (b := 1) rfl) (by decide) rfl (fun ls hl => ?_)
  refine lv_goto (tgt := 14) hx hb dX0_init_35 (by decide) ?_
  refine lv_iload_n hx hb dX0_init_14 rfl (lv_at hl 0 rfl) ?_
  refine lv_iconst (v := nI 4) hx hb dX0_init_15 (by decide) ?_
  refine lv_icmp_ge (tgt := 38) hx hb dX0_init_16 (by decide) (fun c_16 => absurd c_16 (by decide)) (fun c_16 => ?_)
  refine lv_aload_n hx hb dX0_init_19 rfl (lv_at hl 1 rfl) ?_
  refine rk_get X h (ci := 0) in0_X0 rfl 0 (by decide) mw_86 101 (by omega) (A5 101 (by omega)) To_k rfl dX0_init_20 ?_
  refine lv_iload_n hx hb dX0_init_23 rfl (lv_at hl 0 rfl) ?_
  have hL6 : LocF (To fe 101 0 (fun a => [.ref (a 102), .int 0, .int 0]) (EX0 J 2)) 153 := LocF_To hL (by omega) (fun a a1 h => by simp only [h 102 (by omega)]) (fun a a1 h j g1 g2 => EX0_loc (i := 2) rfl (by decide) h g1 g2)
  refine rk_new (n := 153) (ci := 5) (fe := To fe 101 0 (fun a => [.ref (a 102), .int 0, .int 0]) (EX0 J 2)) X hL6 h in0_X5 tyX5 tyX5_ok mw_85 mw_10 mw_11 rfl (fs := [.null, .null, .null, .null, .null, .int 0, .int 0, .int 0, .int 0, .null]) (fun j hj => by rcases (show j = 0 ∨ j = 1 ∨ j = 2 ∨ j = 3 ∨ j = 4 ∨ j = 5 ∨ j = 6 ∨ j = 7 ∨ j = 8 ∨ j = 9 by omega) with rfl | rfl | rfl | rfl | rfl | rfl | rfl | rfl | rfl | rfl <;> rfl) (Nat.le_of_ble_eq_true rfl) (Nat.le_of_ble_eq_true rfl) dX0_init_24 (fun ad6 H B6 h => ?_)
  have A6 : ∀ j, j < 102 → ad6 j = ad j := fun j hj => (B6 j (by omega)).trans (A5 j hj)
  have hT : HS J z ad6 (153 + 1) (To (To fe 101 0 (fun a => [.ref (a 102), .int 0, .int 0]) (EX0 J 2)) 153 5 (fun _ => [.null, .null, .null, .null, .null, .int 0, .int 0, .int 0, .int 0, .null]) (E5 J 153) ad6) s H _ := To_new h
  refine lv_dup hx hb dX0_init_27 rfl ?_
  refine rk_ci (rest := [.ref (ad6 153), .int (nI 2), .ref (ad5 102)]) X hl.1 hAO hT (c_X5_init l J z ad6 (To fe 101 0 (fun a => [.ref (a 102), .int 0, .int 0]) (EX0 J 2)) 153 hL6) mw_87 mw_25 mw_11 mw_26 rfl pdX5_init.2 ⟨Nat.le_of_ble_eq_true rfl, Nat.le_of_ble_eq_true rfl⟩ ⟨Nat.le_of_ble_eq_true rfl, Nat.le_of_ble_eq_true rfl⟩ (Nat.le_of_ble_eq_true rfl) dX0_init_28 (fun ad7 H locs B7 h => ?_)
  have A7 : ∀ j, j < 102 → ad7 j = ad j := fun j hj => (B7 j (by omega)).trans (A6 j hj)
  rw [← B7 153 (by omega)]
  have hr : Tn (To fe 101 0 (fun a => [.ref (a 102), .int 0, .int 0]) (EX0 J 2)) 153 (E5 J 153) ad7 102 = .inl (J.2.2.2, 4, .inr (.inr (.inr (.inr (rgF 2 ad7))))) := (Tn_lo (by decide)).trans rfl
  have hs5 : Tn (To fe 101 0 (fun a => [.ref (a 102), .int 0, .int 0]) (EX0 J 2)) 153 (E5 J 153) ad7 153 = stC J ad7 153 0 (g0 0) := (if_neg (by decide)).trans (E5_at (c := 0))
  refine rk_astq X h 102 153 (by omega) (by omega) hr (show _ = Sum.inr (5, _) from hs5) ((B7 102 (by omega)).trans (B6 102 (by omega))) rfl 2 rfl (by decide) (by decide) dX0_init_31 (fun H locs h => ?_)
  have h : HS J z ad7 178 (To fe 101 0 (fun a => [.ref (a 102), .int 0, .int 0]) (EX0 J 3) ad7) s H locs := ring_step h rfl (by decide) rfl rfl
  refine lv_iinc (v := nI 3) (lv' := [(1, .int (nI 3)), (0, .ref (ad 101))]) hx hb dX0_init_32 hl (k := 0) rfl (nI_addc (b := 1) rfl) (by decide) rfl (fun ls hl => ?_)
  refine lv_goto (tgt := 14) hx hb dX0_init_35 (by decide) ?_
  refine lv_iload_n hx hb dX0_init_14 rfl (lv_at hl 0 rfl) ?_
  refine lv_iconst (v := nI 4) hx hb dX0_init_15 (by decide) ?_
  refine lv_icmp_ge (tgt := 38) hx hb dX0_init_16 (by decide) (fun c_16 => absurd c_16 (by decide)) (fun c_16 => ?_)
  refine lv_aload_n hx hb dX0_init_19 rfl (lv_at hl 1 rfl) ?_
  refine rk_get X h (ci := 0) in0_X0 rfl 0 (by decide) mw_86 101 (by omega) (A7 101 (by omega)) To_k rfl dX0_init_20 ?_
  refine lv_iload_n hx hb dX0_init_23 rfl (lv_at hl 0 rfl) ?_
  have hL8 : LocF (To fe 101 0 (fun a => [.ref (a 102), .int 0, .int 0]) (EX0 J 3)) 178 := LocF_To hL (by omega) (fun a a1 h => by simp only [h 102 (by omega)]) (fun a a1 h j g1 g2 => EX0_loc (i := 3) rfl (by decide) h g1 g2)
  refine rk_new (n := 178) (ci := 5) (fe := To fe 101 0 (fun a => [.ref (a 102), .int 0, .int 0]) (EX0 J 3)) X hL8 h in0_X5 tyX5 tyX5_ok mw_85 mw_10 mw_11 rfl (fs := [.null, .null, .null, .null, .null, .int 0, .int 0, .int 0, .int 0, .null]) (fun j hj => by rcases (show j = 0 ∨ j = 1 ∨ j = 2 ∨ j = 3 ∨ j = 4 ∨ j = 5 ∨ j = 6 ∨ j = 7 ∨ j = 8 ∨ j = 9 by omega) with rfl | rfl | rfl | rfl | rfl | rfl | rfl | rfl | rfl | rfl <;> rfl) (Nat.le_of_ble_eq_true rfl) (Nat.le_of_ble_eq_true rfl) dX0_init_24 (fun ad8 H B8 h => ?_)
  have A8 : ∀ j, j < 102 → ad8 j = ad j := fun j hj => (B8 j (by omega)).trans (A7 j hj)
  have hT : HS J z ad8 (178 + 1) (To (To fe 101 0 (fun a => [.ref (a 102), .int 0, .int 0]) (EX0 J 3)) 178 5 (fun _ => [.null, .null, .null, .null, .null, .int 0, .int 0, .int 0, .int 0, .null]) (E5 J 178) ad8) s H _ := To_new h
  refine lv_dup hx hb dX0_init_27 rfl ?_
  refine rk_ci (rest := [.ref (ad8 178), .int (nI 3), .ref (ad7 102)]) X hl.1 hAO hT (c_X5_init l J z ad8 (To fe 101 0 (fun a => [.ref (a 102), .int 0, .int 0]) (EX0 J 3)) 178 hL8) mw_87 mw_25 mw_11 mw_26 rfl pdX5_init.2 ⟨Nat.le_of_ble_eq_true rfl, Nat.le_of_ble_eq_true rfl⟩ ⟨Nat.le_of_ble_eq_true rfl, Nat.le_of_ble_eq_true rfl⟩ (Nat.le_of_ble_eq_true rfl) dX0_init_28 (fun ad9 H locs B9 h => ?_)
  have A9 : ∀ j, j < 102 → ad9 j = ad j := fun j hj => (B9 j (by omega)).trans (A8 j hj)
  rw [← B9 178 (by omega)]
  have hr : Tn (To fe 101 0 (fun a => [.ref (a 102), .int 0, .int 0]) (EX0 J 3)) 178 (E5 J 178) ad9 102 = .inl (J.2.2.2, 4, .inr (.inr (.inr (.inr (rgF 3 ad9))))) := (Tn_lo (by decide)).trans rfl
  have hs5 : Tn (To fe 101 0 (fun a => [.ref (a 102), .int 0, .int 0]) (EX0 J 3)) 178 (E5 J 178) ad9 178 = stC J ad9 178 0 (g0 0) := (if_neg (by decide)).trans (E5_at (c := 0))
  refine rk_astq X h 102 178 (by omega) (by omega) hr (show _ = Sum.inr (5, _) from hs5) ((B9 102 (by omega)).trans (B8 102 (by omega))) rfl 3 rfl (by decide) (by decide) dX0_init_31 (fun H locs h => ?_)
  have h : HS J z ad9 203 (To fe 101 0 (fun a => [.ref (a 102), .int 0, .int 0]) (EX0 J 4) ad9) s H locs := ring_step h rfl (by decide) rfl rfl
  refine lv_iinc (v := nI 4) (lv' := [(1, .int (nI 4)), (0, .ref (ad 101))]) hx hb dX0_init_32 hl (k := 0) rfl (nI_addc (b := 1) rfl) (by decide) rfl (fun ls hl => ?_)
  refine lv_goto (tgt := 14) hx hb dX0_init_35 (by decide) ?_
  refine lv_iload_n hx hb dX0_init_14 rfl (lv_at hl 0 rfl) ?_
  refine lv_iconst (v := nI 4) hx hb dX0_init_15 (by decide) ?_
  refine lv_icmp_ge (tgt := 38) hx hb dX0_init_16 (by decide) (fun c_16 => ?_) (fun c_16 => absurd (by decide) c_16)
  have h : HS J z ad9 203 (Tn fe 101 (E0 J) ad9) s H locs := Tn_cg (To_fin h (E0_101 (J := J) (a := ad9))) (fun j h1 h2 => by
    unfold EX0
    by_cases g : j = 102
    · subst g
      rw [if_pos rfl, E0_102]
      rfl
    · rw [if_neg g])
  exact hret ad9 _ _ _ _ A9 h dX0_init_38
set_option maxHeartbeats 4000000 in
set_option maxRecDepth 100000 in
theorem c_X7_init (l : Launch) (J : JJ) (z : Nat) (ad : Nat → Nat) (fe : FE) (hL : LocF fe 0) : CI l J z yX7_init cX7_init 1 4 209 5336 ad 1 (ad 0) (To fe 0 7 (fun _ => [.null, .null, .null, .null, .int 0, .null, .null, .int 0, .int 0]) (E0 J)) (Tn fe 0 (E0 J)) := by
  refine CI.walk (by decide) rfl (by decide) ?_
  intro p e s m below meth c ls X hin hAO h hl hret
  have hx := X.1
  have hb := X.2.1
  have hown := X.2.2.2.1
  have hts := X.2.2.2.2
  have hl : lv_has ls 1 [(0, .ref (ad 0))] := hl
  have A0 : ∀ j, j < 1 → ad j = ad j := fun _ _ => rfl
  refine lv_aload_n hx hb dX7_init_0 rfl (lv_at hl 0 rfl) ?_
  refine rk_obj X hl.1 mw_6 (by decide) (by decide) dX7_init_1 ?_
  refine lv_aload_n hx hb dX7_init_4 rfl (lv_at hl 0 rfl) ?_
  have hL1 : LocF (To fe 0 7 (fun _ => [.null, .null, .null, .null, .int 0, .null, .null, .int 0, .int 0]) (E0 J)) 1 := LocF_To hL (by omega) (fun _ _ _ => rfl) (fun a a1 h j g1 g2 => E0_loc (n := 1) h g1 g2 (by omega))
  refine rk_new (n := 1) (ci := 5) (fe := To fe 0 7 (fun _ => [.null, .null, .null, .null, .int 0, .null, .null, .int 0, .int 0]) (E0 J)) X hL1 h in0_X5 tyX5 tyX5_ok mw_9 mw_10 mw_11 rfl (fs := [.null, .null, .null, .null, .null, .int 0, .int 0, .int 0, .int 0, .null]) (fun j hj => by rcases (show j = 0 ∨ j = 1 ∨ j = 2 ∨ j = 3 ∨ j = 4 ∨ j = 5 ∨ j = 6 ∨ j = 7 ∨ j = 8 ∨ j = 9 by omega) with rfl | rfl | rfl | rfl | rfl | rfl | rfl | rfl | rfl | rfl <;> rfl) (Nat.le_of_ble_eq_true rfl) (Nat.le_of_ble_eq_true rfl) dX7_init_5 (fun ad1 H B1 h => ?_)
  have A1 : ∀ j, j < 1 → ad1 j = ad j := fun j hj => (B1 j (by omega)).trans (A0 j hj)
  have hT : HS J z ad1 (1 + 1) (To (To fe 0 7 (fun _ => [.null, .null, .null, .null, .int 0, .null, .null, .int 0, .int 0]) (E0 J)) 1 5 (fun _ => [.null, .null, .null, .null, .null, .int 0, .int 0, .int 0, .int 0, .null]) (E5 J 1) ad1) s H _ := To_new h
  refine lv_dup hx hb dX7_init_8 rfl ?_
  refine rk_ci (rest := [.ref (ad1 1), .ref (ad 0)]) X hl.1 hAO hT (c_X5_init l J z ad1 (To fe 0 7 (fun _ => [.null, .null, .null, .null, .int 0, .null, .null, .int 0, .int 0]) (E0 J)) 1 hL1) mw_24 mw_25 mw_11 mw_26 rfl pdX5_init.2 ⟨Nat.le_of_ble_eq_true rfl, Nat.le_of_ble_eq_true rfl⟩ ⟨Nat.le_of_ble_eq_true rfl, Nat.le_of_ble_eq_true rfl⟩ (Nat.le_of_ble_eq_true rfl) dX7_init_9 (fun ad2 H locs B2 h => ?_)
  have A2 : ∀ j, j < 1 → ad2 j = ad j := fun j hj => (B2 j (by omega)).trans (A1 j hj)
  rw [← B2 1 (by omega)]
  refine rk_putF X hin h in0_X7 tyX7 tyX7_ok nmX7 rfl 0 (by decide) mw_12 rfl rfl 0 (by omega) (A2 0 (by omega)) ((Tn_lo (by omega)).trans To_k) (Nat.le_of_ble_eq_true rfl) rfl rfl dX7_init_12 (fun H locs h => ?_)
  have h : HS J z ad2 26 (To fe 0 7 (fun a => [.ref (a 1), .null, .null, .null, .int 0, .null, .null, .int 0, .int 0]) (E0 J) ad2) s H locs := To_sub h (by omega) (fun j h1 h2 => E05 isB_1 h1 h2) rfl
  refine lv_aload_n hx hb dX7_init_15 rfl (lv_at hl 0 rfl) ?_
  have hL3 : LocF (To fe 0 7 (fun a => [.ref (a 1), .null, .null, .null, .int 0, .null, .null, .int 0, .int 0]) (E0 J)) 26 := LocF_To hL (by omega) (fun a a1 h => by simp only [h 1 (by omega)]) (fun a a1 h j g1 g2 => E0_loc (n := 26) h g1 g2 (by omega))
  refine rk_new (n := 26) (ci := 5) (fe := To fe 0 7 (fun a => [.ref (a 1), .null, .null, .null, .int 0, .null, .null, .int 0, .int 0]) (E0 J)) X hL3 h in0_X5 tyX5 tyX5_ok mw_9 mw_10 mw_11 rfl (fs := [.null, .null, .null, .null, .null, .int 0, .int 0, .int 0, .int 0, .null]) (fun j hj => by rcases (show j = 0 ∨ j = 1 ∨ j = 2 ∨ j = 3 ∨ j = 4 ∨ j = 5 ∨ j = 6 ∨ j = 7 ∨ j = 8 ∨ j = 9 by omega) with rfl | rfl | rfl | rfl | rfl | rfl | rfl | rfl | rfl | rfl <;> rfl) (Nat.le_of_ble_eq_true rfl) (Nat.le_of_ble_eq_true rfl) dX7_init_16 (fun ad3 H B3 h => ?_)
  have A3 : ∀ j, j < 1 → ad3 j = ad j := fun j hj => (B3 j (by omega)).trans (A2 j hj)
  have hT : HS J z ad3 (26 + 1) (To (To fe 0 7 (fun a => [.ref (a 1), .null, .null, .null, .int 0, .null, .null, .int 0, .int 0]) (E0 J)) 26 5 (fun _ => [.null, .null, .null, .null, .null, .int 0, .int 0, .int 0, .int 0, .null]) (E5 J 26) ad3) s H _ := To_new h
  refine lv_dup hx hb dX7_init_19 rfl ?_
  refine rk_ci (rest := [.ref (ad3 26), .ref (ad 0)]) X hl.1 hAO hT (c_X5_init l J z ad3 (To fe 0 7 (fun a => [.ref (a 1), .null, .null, .null, .int 0, .null, .null, .int 0, .int 0]) (E0 J)) 26 hL3) mw_24 mw_25 mw_11 mw_26 rfl pdX5_init.2 ⟨Nat.le_of_ble_eq_true rfl, Nat.le_of_ble_eq_true rfl⟩ ⟨Nat.le_of_ble_eq_true rfl, Nat.le_of_ble_eq_true rfl⟩ (Nat.le_of_ble_eq_true rfl) dX7_init_20 (fun ad4 H locs B4 h => ?_)
  have A4 : ∀ j, j < 1 → ad4 j = ad j := fun j hj => (B4 j (by omega)).trans (A3 j hj)
  rw [← B4 26 (by omega)]
  refine rk_putF X hin h in0_X7 tyX7 tyX7_ok nmX7 rfl 1 (by decide) mw_13 rfl rfl 0 (by omega) (A4 0 (by omega)) ((Tn_lo (by omega)).trans To_k) (Nat.le_of_ble_eq_true rfl) rfl rfl dX7_init_23 (fun H locs h => ?_)
  have h : HS J z ad4 51 (To fe 0 7 (fun a => [.ref (a 1), .ref (a 26), .null, .null, .int 0, .null, .null, .int 0, .int 0]) (E0 J) ad4) s H locs := To_sub h (by omega) (fun j h1 h2 => E05 isB_26 h1 h2) rfl
  refine lv_aload_n hx hb dX7_init_26 rfl (lv_at hl 0 rfl) ?_
  have hL5 : LocF (To fe 0 7 (fun a => [.ref (a 1), .ref (a 26), .null, .null, .int 0, .null, .null, .int 0, .int 0]) (E0 J)) 51 := LocF_To hL (by omega) (fun a a1 h => by simp only [h 1 (by omega), h 26 (by omega)]) (fun a a1 h j g1 g2 => E0_loc (n := 51) h g1 g2 (by omega))
  refine rk_new (n := 51) (ci := 5) (fe := To fe 0 7 (fun a => [.ref (a 1), .ref (a 26), .null, .null, .int 0, .null, .null, .int 0, .int 0]) (E0 J)) X hL5 h in0_X5 tyX5 tyX5_ok mw_9 mw_10 mw_11 rfl (fs := [.null, .null, .null, .null, .null, .int 0, .int 0, .int 0, .int 0, .null]) (fun j hj => by rcases (show j = 0 ∨ j = 1 ∨ j = 2 ∨ j = 3 ∨ j = 4 ∨ j = 5 ∨ j = 6 ∨ j = 7 ∨ j = 8 ∨ j = 9 by omega) with rfl | rfl | rfl | rfl | rfl | rfl | rfl | rfl | rfl | rfl <;> rfl) (Nat.le_of_ble_eq_true rfl) (Nat.le_of_ble_eq_true rfl) dX7_init_27 (fun ad5 H B5 h => ?_)
  have A5 : ∀ j, j < 1 → ad5 j = ad j := fun j hj => (B5 j (by omega)).trans (A4 j hj)
  have hT : HS J z ad5 (51 + 1) (To (To fe 0 7 (fun a => [.ref (a 1), .ref (a 26), .null, .null, .int 0, .null, .null, .int 0, .int 0]) (E0 J)) 51 5 (fun _ => [.null, .null, .null, .null, .null, .int 0, .int 0, .int 0, .int 0, .null]) (E5 J 51) ad5) s H _ := To_new h
  refine lv_dup hx hb dX7_init_30 rfl ?_
  refine rk_ci (rest := [.ref (ad5 51), .ref (ad 0)]) X hl.1 hAO hT (c_X5_init l J z ad5 (To fe 0 7 (fun a => [.ref (a 1), .ref (a 26), .null, .null, .int 0, .null, .null, .int 0, .int 0]) (E0 J)) 51 hL5) mw_24 mw_25 mw_11 mw_26 rfl pdX5_init.2 ⟨Nat.le_of_ble_eq_true rfl, Nat.le_of_ble_eq_true rfl⟩ ⟨Nat.le_of_ble_eq_true rfl, Nat.le_of_ble_eq_true rfl⟩ (Nat.le_of_ble_eq_true rfl) dX7_init_31 (fun ad6 H locs B6 h => ?_)
  have A6 : ∀ j, j < 1 → ad6 j = ad j := fun j hj => (B6 j (by omega)).trans (A5 j hj)
  rw [← B6 51 (by omega)]
  refine rk_putF X hin h in0_X7 tyX7 tyX7_ok nmX7 rfl 2 (by decide) mw_14 rfl rfl 0 (by omega) (A6 0 (by omega)) ((Tn_lo (by omega)).trans To_k) (Nat.le_of_ble_eq_true rfl) rfl rfl dX7_init_34 (fun H locs h => ?_)
  have h : HS J z ad6 76 (To fe 0 7 (fun a => [.ref (a 1), .ref (a 26), .ref (a 51), .null, .int 0, .null, .null, .int 0, .int 0]) (E0 J) ad6) s H locs := To_sub h (by omega) (fun j h1 h2 => E05 isB_51 h1 h2) rfl
  refine lv_aload_n hx hb dX7_init_37 rfl (lv_at hl 0 rfl) ?_
  have hL7 : LocF (To fe 0 7 (fun a => [.ref (a 1), .ref (a 26), .ref (a 51), .null, .int 0, .null, .null, .int 0, .int 0]) (E0 J)) 76 := LocF_To hL (by omega) (fun a a1 h => by simp only [h 1 (by omega), h 26 (by omega), h 51 (by omega)]) (fun a a1 h j g1 g2 => E0_loc (n := 76) h g1 g2 (by omega))
  refine rk_new (n := 76) (ci := 5) (fe := To fe 0 7 (fun a => [.ref (a 1), .ref (a 26), .ref (a 51), .null, .int 0, .null, .null, .int 0, .int 0]) (E0 J)) X hL7 h in0_X5 tyX5 tyX5_ok mw_9 mw_10 mw_11 rfl (fs := [.null, .null, .null, .null, .null, .int 0, .int 0, .int 0, .int 0, .null]) (fun j hj => by rcases (show j = 0 ∨ j = 1 ∨ j = 2 ∨ j = 3 ∨ j = 4 ∨ j = 5 ∨ j = 6 ∨ j = 7 ∨ j = 8 ∨ j = 9 by omega) with rfl | rfl | rfl | rfl | rfl | rfl | rfl | rfl | rfl | rfl <;> rfl) (Nat.le_of_ble_eq_true rfl) (Nat.le_of_ble_eq_true rfl) dX7_init_38 (fun ad7 H B7 h => ?_)
  have A7 : ∀ j, j < 1 → ad7 j = ad j := fun j hj => (B7 j (by omega)).trans (A6 j hj)
  have hT : HS J z ad7 (76 + 1) (To (To fe 0 7 (fun a => [.ref (a 1), .ref (a 26), .ref (a 51), .null, .int 0, .null, .null, .int 0, .int 0]) (E0 J)) 76 5 (fun _ => [.null, .null, .null, .null, .null, .int 0, .int 0, .int 0, .int 0, .null]) (E5 J 76) ad7) s H _ := To_new h
  refine lv_dup hx hb dX7_init_41 rfl ?_
  refine rk_ci (rest := [.ref (ad7 76), .ref (ad 0)]) X hl.1 hAO hT (c_X5_init l J z ad7 (To fe 0 7 (fun a => [.ref (a 1), .ref (a 26), .ref (a 51), .null, .int 0, .null, .null, .int 0, .int 0]) (E0 J)) 76 hL7) mw_24 mw_25 mw_11 mw_26 rfl pdX5_init.2 ⟨Nat.le_of_ble_eq_true rfl, Nat.le_of_ble_eq_true rfl⟩ ⟨Nat.le_of_ble_eq_true rfl, Nat.le_of_ble_eq_true rfl⟩ (Nat.le_of_ble_eq_true rfl) dX7_init_42 (fun ad8 H locs B8 h => ?_)
  have A8 : ∀ j, j < 1 → ad8 j = ad j := fun j hj => (B8 j (by omega)).trans (A7 j hj)
  rw [← B8 76 (by omega)]
  refine rk_putF X hin h in0_X7 tyX7 tyX7_ok nmX7 rfl 3 (by decide) mw_15 rfl rfl 0 (by omega) (A8 0 (by omega)) ((Tn_lo (by omega)).trans To_k) (Nat.le_of_ble_eq_true rfl) rfl rfl dX7_init_45 (fun H locs h => ?_)
  have h : HS J z ad8 101 (To fe 0 7 (fun a => [.ref (a 1), .ref (a 26), .ref (a 51), .ref (a 76), .int 0, .null, .null, .int 0, .int 0]) (E0 J) ad8) s H locs := To_sub h (by omega) (fun j h1 h2 => E05 isB_76 h1 h2) rfl
  refine lv_aload_n hx hb dX7_init_48 rfl (lv_at hl 0 rfl) ?_
  have hL9 : LocF (To fe 0 7 (fun a => [.ref (a 1), .ref (a 26), .ref (a 51), .ref (a 76), .int 0, .null, .null, .int 0, .int 0]) (E0 J)) 101 := LocF_To hL (by omega) (fun a a1 h => by simp only [h 1 (by omega), h 26 (by omega), h 51 (by omega), h 76 (by omega)]) (fun a a1 h j g1 g2 => E0_loc (n := 101) h g1 g2 (by omega))
  refine rk_new (n := 101) (ci := 0) (fe := To fe 0 7 (fun a => [.ref (a 1), .ref (a 26), .ref (a 51), .ref (a 76), .int 0, .null, .null, .int 0, .int 0]) (E0 J)) X hL9 h in0_X0 tyX0 tyX0_ok mw_16 mw_17 mw_18 rfl (fs := [.null, .int 0, .int 0]) (fun j hj => by rcases (show j = 0 ∨ j = 1 ∨ j = 2 by omega) with rfl | rfl | rfl <;> rfl) (Nat.le_of_ble_eq_true rfl) (Nat.le_of_ble_eq_true rfl) dX7_init_49 (fun ad9 H B9 h => ?_)
  have A9 : ∀ j, j < 1 → ad9 j = ad j := fun j hj => (B9 j (by omega)).trans (A8 j hj)
  have hT : HS J z ad9 (101 + 1) (To (To fe 0 7 (fun a => [.ref (a 1), .ref (a 26), .ref (a 51), .ref (a 76), .int 0, .null, .null, .int 0, .int 0]) (E0 J)) 101 0 (fun _ => [.null, .int 0, .int 0]) (E0 J) ad9) s H _ := To_new h
  refine lv_dup hx hb dX7_init_52 rfl ?_
  refine rk_ci (rest := [.ref (ad9 101), .ref (ad 0)]) X hl.1 hAO hT (c_X0_init l J z ad9 (To fe 0 7 (fun a => [.ref (a 1), .ref (a 26), .ref (a 51), .ref (a 76), .int 0, .null, .null, .int 0, .int 0]) (E0 J)) hL9) mw_81 mw_82 mw_18 mw_83 rfl pdX0_init.2 ⟨Nat.le_of_ble_eq_true rfl, Nat.le_of_ble_eq_true rfl⟩ ⟨Nat.le_of_ble_eq_true rfl, Nat.le_of_ble_eq_true rfl⟩ (Nat.le_of_ble_eq_true rfl) dX7_init_53 (fun ad10 H locs B10 h => ?_)
  have A10 : ∀ j, j < 1 → ad10 j = ad j := fun j hj => (B10 j (by omega)).trans (A9 j hj)
  rw [← B10 101 (by omega)]
  refine rk_putF X hin h in0_X7 tyX7 tyX7_ok nmX7 rfl 5 (by decide) mw_19 rfl rfl 0 (by omega) (A10 0 (by omega)) ((Tn_lo (by omega)).trans To_k) (Nat.le_of_ble_eq_true rfl) rfl rfl dX7_init_56 (fun H locs h => ?_)
  have h : HS J z ad10 203 (To fe 0 7 (fun a => [.ref (a 1), .ref (a 26), .ref (a 51), .ref (a 76), .int 0, .ref (a 101), .null, .int 0, .int 0]) (E0 J) ad10) s H locs := To_sub h (by omega) (fun _ _ _ => rfl) rfl
  refine lv_aload_n hx hb dX7_init_59 rfl (lv_at hl 0 rfl) ?_
  have hL11 : LocF (To fe 0 7 (fun a => [.ref (a 1), .ref (a 26), .ref (a 51), .ref (a 76), .int 0, .ref (a 101), .null, .int 0, .int 0]) (E0 J)) 203 := LocF_To hL (by omega) (fun a a1 h => by simp only [h 1 (by omega), h 26 (by omega), h 51 (by omega), h 76 (by omega), h 101 (by omega)]) (fun a a1 h j g1 g2 => E0_loc (n := 203) h g1 g2 (by omega))
  refine rk_new (n := 203) (ci := 2) (fe := To fe 0 7 (fun a => [.ref (a 1), .ref (a 26), .ref (a 51), .ref (a 76), .int 0, .ref (a 101), .null, .int 0, .int 0]) (E0 J)) X hL11 h in0_X2 tyX2 tyX2_ok mw_20 mw_21 mw_22 rfl (fs := [.null, .int 0, .int 0, .int 0, .null, .null, .null, .null, .null]) (fun j hj => by rcases (show j = 0 ∨ j = 1 ∨ j = 2 ∨ j = 3 ∨ j = 4 ∨ j = 5 ∨ j = 6 ∨ j = 7 ∨ j = 8 by omega) with rfl | rfl | rfl | rfl | rfl | rfl | rfl | rfl | rfl <;> rfl) (Nat.le_of_ble_eq_true rfl) (Nat.le_of_ble_eq_true rfl) dX7_init_60 (fun ad11 H B11 h => ?_)
  have A11 : ∀ j, j < 1 → ad11 j = ad j := fun j hj => (B11 j (by omega)).trans (A10 j hj)
  have hT : HS J z ad11 (203 + 1) (To (To fe 0 7 (fun a => [.ref (a 1), .ref (a 26), .ref (a 51), .ref (a 76), .int 0, .ref (a 101), .null, .int 0, .int 0]) (E0 J)) 203 2 (fun _ => [.null, .int 0, .int 0, .int 0, .null, .null, .null, .null, .null]) (E0 J) ad11) s H _ := To_new h
  refine lv_dup hx hb dX7_init_63 rfl ?_
  refine rk_ci (rest := [.ref (ad11 203), .ref (ad 0)]) X hl.1 hAO hT (c_X2_init l J z ad11 (To fe 0 7 (fun a => [.ref (a 1), .ref (a 26), .ref (a 51), .ref (a 76), .int 0, .ref (a 101), .null, .int 0, .int 0]) (E0 J)) hL11) mw_88 mw_89 mw_22 mw_90 rfl pdX2_init.2 ⟨Nat.le_of_ble_eq_true rfl, Nat.le_of_ble_eq_true rfl⟩ ⟨Nat.le_of_ble_eq_true rfl, Nat.le_of_ble_eq_true rfl⟩ (Nat.le_of_ble_eq_true rfl) dX7_init_64 (fun ad12 H locs B12 h => ?_)
  have A12 : ∀ j, j < 1 → ad12 j = ad j := fun j hj => (B12 j (by omega)).trans (A11 j hj)
  rw [← B12 203 (by omega)]
  refine rk_putF X hin h in0_X7 tyX7 tyX7_ok nmX7 rfl 6 (by decide) mw_23 rfl rfl 0 (by omega) (A12 0 (by omega)) ((Tn_lo (by omega)).trans To_k) (Nat.le_of_ble_eq_true rfl) rfl rfl dX7_init_67 (fun H locs h => ?_)
  have h : HS J z ad12 210 (To fe 0 7 (fun a => [.ref (a 1), .ref (a 26), .ref (a 51), .ref (a 76), .int 0, .ref (a 101), .ref (a 203), .int 0, .int 0]) (E0 J) ad12) s H locs := To_sub h (by omega) (fun _ _ _ => rfl) rfl
  exact hret ad12 _ _ _ _ A12 (To_fin h rfl) dX7_init_70
