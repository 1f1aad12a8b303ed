
/-! what the reference tells of its row 0; counting the bylaws; the first of a kind -/
theorem rwS_0 (S : Nat → Int32) : rwS S 0 = S := by
  funext k
  simp [rwS]
theorem cnt_t {P : Nat → Prop} {n : Nat} (h : P n) : cnt P (n + 1) = cnt P n + 1 := by
  show cnt P n + _ = _
  rw [if_pos h]
theorem cnt_f {P : Nat → Prop} {n : Nat} (h : ¬ P n) : cnt P (n + 1) = cnt P n := by
  show cnt P n + _ = _
  rw [if_neg h]
  rfl
theorem cnt_le (P : Nat → Prop) (n : Nat) : cnt P n ≤ n := by
  induction n with
  | zero => exact Nat.le_refl _
  | succ n ih =>
    by_cases h : P n
    · rw [cnt_t h]; omega
    · rw [cnt_f h]; omega
theorem sw_out {x : Int32} {n : Nat} {m : Int} (hm : m = (n : Int) - 1) (h : ¬ isN x n) : x.toInt < 0 ∨ m < x.toInt := by
  by_cases g : x.toInt < 0
  · exact Or.inl g
  · refine Or.inr ?_
    have hb := Int32.toInt_lt x
    by_cases g2 : x.toInt < n
    · exact absurd ⟨x.toInt.toNat, by omega, i32_of (by omega) (by omega)⟩ h
    · omega
noncomputable def fst (P : Nat → Prop) : Nat → Option Nat
  | 0 => none
  | n + 1 => match fst P n with
    | some j => some j
    | none => cif (P n) (some n) none
theorem fst_n {P : Nat → Prop} {n : Nat} (h : ∀ j, j < n → ¬ P j) : fst P n = none := by
  induction n with
  | zero => rfl
  | succ n ih =>
    unfold fst
    rw [ih (fun j hj => h j (by omega))]
    exact cif_f (h n (by omega))
theorem fst_s {P : Nat → Prop} {i : Nat} (hi : P i) (h : ∀ j, j < i → ¬ P j) : ∀ {n : Nat}, i < n → fst P n = some i := by
  intro n
  induction n with
  | zero => intro q; omega
  | succ n ih =>
    intro q
    unfold fst
    by_cases e : i = n
    · subst e
      rw [fst_n h]
      exact cif_t hi
    · rw [ih (by omega)]
/-- a number, or NONE -/
def opI (o : Option Nat) : Int32 := match o with
  | some k => nI k
  | none => -5
theorem opI_n {o : Option Nat} (h : ∀ k, o = some k → k < 2 ^ 31) : opI o = (-5) ↔ o = none := by
  cases o with
  | none => exact iff_of_true rfl rfl
  | some k =>
    refine iff_of_false (fun q => ?_) (fun q => by cases q)
    have q2 : (nI k).toInt = (-5 : Int32).toInt := congrArg Int32.toInt q
    rw [nI_toInt (h k rfl)] at q2
    have : (-5 : Int32).toInt = -5 := by decide
    omega
def LW (r : Nat → Int32) (k : Nat) : Prop := r (3 * k + 192) ≠ (-5)
noncomputable def rkd (r : Nat → Int32) (x : Int32) : Option Nat := fst (fun k => LW r k ∧ nI (cnt (LW r) k) = x) 140
def rulO (r : Nat → Int32) (c g : Nat) : Option Nat :=
  if r (60 * c + 3 * g + 192) = (-5) ∨ r (3 * g + 552) = (-5) then (if r (60 * c + 3 * g + 192) = (-5) then (if r (3 * g + 552) = (-5) then none else some 6) else some c)
  else if r (60 * c + 3 * g + 193) < r (3 * g + 553) then some 6 else some c
theorem rulO_lt {r : Nat → Int32} {c g k : Nat} (h : rulO r c g = some k) : k = c ∨ k = 6 := by
  unfold rulO at h
  split at h
  · split at h
    · split at h
      · cases h
      · cases h; exact Or.inr rfl
    · cases h; exact Or.inl rfl
  · split at h
    · cases h; exact Or.inr rfl
    · cases h; exact Or.inl rfl
def alw (r : Nat → Int32) (c g : Nat) : Prop := rulO r c g = none ∨ ∃ k, rulO r c g = some k ∧ r (60 * k + 3 * g + 192) = nI 1
def oldS (r : Nat → Int32) (c k : Nat) (o : Option Nat) : Prop := rulO r c (k % 20) = some (k / 20) ∧ (o = none ∨ ∃ j, o = some j ∧ r (3 * k + 194) < r (3 * j + 194))
noncomputable def oldI (r : Nat → Int32) (c n : Nat) : Option Nat := itr (fun k o => cif (oldS r c k o) (some k) o) none n
theorem oldI_lt {r : Nat → Int32} {c : Nat} : ∀ {n k : Nat}, oldI r c n = some k → k < n := by
  intro n
  induction n with
  | zero => intro k h; cases h
  | succ n ih =>
    intro k h
    by_cases g : oldS r c n (oldI r c n)
    · have e : oldI r c (n + 1) = some n := cif_t g
      rw [e] at h
      cases h
      omega
    · have e : oldI r c (n + 1) = oldI r c n := cif_f g
      rw [e] at h
      have := ih h
      omega
def sc2 (r : Nat → Int32) (d : Int32) : Int32 := itr (fun q a => a ||| (((r (5 * q + 88) >>> (d &&& 31)) &&& nI 1) <<< (nI q &&& 31))) (nI 0) (mn r)
noncomputable def freeS (r : Nat → Int32) : Int32 := itr (fun d a => a ||| (b2 (r (6 * d + 14) = (-5)) <<< (nI d &&& 31))) (nI 0) (kn r)
noncomputable def lackO (r : Nat → Int32) (q : Nat) : Option Nat := fst (fun m => refu r q (supp r q + nI m) = 0) 121
set_option maxHeartbeats 4000000 in
set_option maxRecDepth 100000 in
theorem c_X8_bylaws0 (l : Launch) (J : JJ) (z : Nat) (ad : Nat → Nat) (G : GG) (r : Nat → Int32) (hrow : rwS (G 211) 0 = r) (hW : WR r)  : MI l J z ad yX8_bylaws cX8_bylaws 5 .int 1 [.ref (ad 210), .int (nI 0)] G (fun ans uG => ans = (nI (cnt (LW r) 140)) ∧ uG = (G)) := by
  refine MI.go (by decide) (Nat.le_of_ble_eq_true rfl) ?_
  intro pr e s m args below meth c ls Q X h hl hret
  have hx := X.1
  have hb := X.2.1
  have hown := X.2.2.2.1
  have hts := X.2.2.2.2
  have hl : lv_has ls 5 [(0, .ref (ad 210)), (1, .int (nI 0))] := hl
  have hW0 := hW
  obtain ⟨⟨w1, w2⟩, ⟨w3, w4⟩, ⟨w5, w6⟩, w7, w8⟩ := hW
  refine lv_iconst (v := nI 0) hx hb dX8_bylaws_0 (by decide) ?_
  refine lv_istore_n (lv' := [(2, .int (nI 0)), (0, .ref (ad 210)), (1, .int (nI 0))]) hx hb dX8_bylaws_1 rfl hl (by decide) rfl (fun ls hl => ?_)
  refine lv_iconst (v := nI 0) hx hb dX8_bylaws_2 (by decide) ?_
  refine lv_istore_n (lv' := [(3, .int (nI 0)), (2, .int (nI 0)), (0, .ref (ad 210)), (1, .int (nI 0))]) hx hb dX8_bylaws_3 rfl hl (by decide) rfl (fun ls hl => ?_)
  have LP_4 : ∀ (k_4 i_4 : Nat), 140 + 1 ≤ i_4 + k_4 → i_4 ≤ 140 → ∀ (H : Heap) (locs : List Loc) (ls : Array Slot), HG J z ad s G H locs → lv_has ls 5 [(0, .ref (ad 210)), (1, .int (nI 0)), (2, .int (nI ((cnt (LW r) i_4)))), (3, .int (nI i_4))] → W pr l e (rmD 1 0 0) s m args below meth c H locs 0 0 Q (F0 m 4 ls []) := by
    intro k_4
    induction k_4 with
    | zero =>
      intro i_4 g1 g2
      exact absurd g1 (by omega)
    | succ k_4 ih_4 =>
      intro i_4 g1_4 g2_4  H locs ls h hl
      refine lv_iload_n hx hb dX8_bylaws_4 rfl (lv_at hl 3 rfl) ?_
      refine lv_sipush (v := nI 140) hx hb dX8_bylaws_5 (by decide) ?_
      refine lv_icmp_ge (tgt := 66) hx hb dX8_bylaws_8 (by decide) (fun c_8 => ?_) (fun c_8 => ?_)
      · rw [nI_leI (by omega) (by omega)] at c_8
        refine lv_iload_n hx hb dX8_bylaws_66 rfl (lv_at hl 2 rfl) ?_
        exact hret (nI ((cnt (LW r) i_4))) G _ _ 67 _ (⟨by rw [show i_4 = 140 by omega], rfl⟩) h dX8_bylaws_67
      · rw [nI_leI (by omega) (by omega)] at c_8
        refine lv_aload_n hx hb dX8_bylaws_11 rfl (lv_at hl 0 rfl) ?_
        refine fg_X8_7 X h dX8_bylaws_12 ?_
        refine lv_sipush (v := nI 192) hx hb dX8_bylaws_15 (by decide) ?_
        refine lv_iconst (v := nI 3) hx hb dX8_bylaws_18 (by decide) ?_
        refine lv_iload_n hx hb dX8_bylaws_19 rfl (lv_at hl 3 rfl) ?_
        refine lv_imul hx hb dX8_bylaws_20 ?_
        refine lv_as (y := nI (3 * i_4)) (nI_mulc (by omega)) ?_
        refine lv_iadd hx hb dX8_bylaws_21 ?_
        refine lv_as (y := nI (3 * i_4 + 192)) (nI_addc (by omega)) ?_
        refine rs_ld X h 0 (3 * i_4 + 192) (congrArg nI (by omega)) (by omega) dX8_bylaws_22 ?_
        refine lv_as (y := r (3 * i_4 + 192)) (congrFun hrow _) ?_
        refine lv_istore (lv' := [(4, .int (r (3 * i_4 + 192))), (0, .ref (ad 210)), (1, .int (nI 0)), (2, .int (nI ((cnt (LW r) i_4)))), (3, .int (nI i_4))]) hx hb dX8_bylaws_23 hl (by decide) rfl (fun ls hl => ?_)
        refine lv_iload_n hx hb dX8_bylaws_25 rfl (lv_at hl 3 rfl) ?_
        refine lv_iload_n hx hb dX8_bylaws_26 rfl (lv_at hl 2 rfl) ?_
        refine lv_if_eq (tgt := 43) hx hb dX8_bylaws_27 (by decide) (fun c_27 => ?_) (fun c_27 => absurd (by decide) c_27)
        refine lv_iload hx hb dX8_bylaws_43 (lv_at hl 0 rfl) ?_
        refine lv_bipush (v := (-5)) hx hb dX8_bylaws_45 (by decide) ?_
        refine lv_icmp_eq (tgt := 54) hx hb dX8_bylaws_47 (by decide) (fun c_47 => ?_) (fun c_47 => ?_)
        · refine lv_iconst (v := nI 0) hx hb dX8_bylaws_54 (by decide) ?_
          refine rg_cisd (As := [.int (nI 0)]) (rest := [.int (nI ((cnt (LW r) i_4)))]) X hl.1 h (c_X8_flag0 l J z ad G) mw_401 mw_402 mw_5 mw_403 pdX8_flag ⟨Nat.le_of_ble_eq_true rfl, Nat.le_of_ble_eq_true rfl⟩ ⟨Nat.le_of_ble_eq_true rfl, Nat.le_of_ble_eq_true rfl⟩ rfl (Nat.le_of_ble_eq_true rfl) dX8_bylaws_55 (fun H locs h => ?_)
          refine lv_iadd hx hb dX8_bylaws_58 ?_
          refine lv_as (y := nI ((cnt (LW r) i_4))) (nI_addc (by omega)) ?_
          refine lv_as (y := nI (cnt (LW r) (i_4 + 1))) (congrArg nI (cnt_f (fun q => q c_47)).symm) ?_
          refine lv_istore_n (lv' := [(2, .int (nI ((cnt (LW r) (i_4 + 1))))), (4, .int (r (3 * i_4 + 192))), (0, .ref (ad 210)), (1, .int (nI 0)), (3, .int (nI i_4))]) hx hb dX8_bylaws_59 rfl hl (by decide) rfl (fun ls hl => ?_)
          refine lv_iinc (v := nI (i_4 + 1)) (lv' := [(3, .int (nI (i_4 + 1))), (2, .int (nI ((cnt (LW r) (i_4 + 1))))), (4, .int (r (3 * i_4 + 192))), (0, .ref (ad 210)), (1, .int (nI 0))]) hx hb dX8_bylaws_60 hl (k := 4) rfl (nI_addc (b := 1) (by omega)) (by decide) rfl (fun ls hl => ?_)
          refine lv_goto (tgt := 4) hx hb dX8_bylaws_63 (by decide) ?_
          exact ih_4 (i_4 + 1) (by omega) (by omega) _ _ _ h (lv_sub hl [3, 4, 1, 0] rfl)
        · refine lv_iconst (v := nI 1) hx hb dX8_bylaws_50 (by decide) ?_
          refine lv_goto (tgt := 55) hx hb dX8_bylaws_51 (by decide) ?_
          refine rg_cisd (As := [.int (nI 1)]) (rest := [.int (nI ((cnt (LW r) i_4)))]) X hl.1 h (c_X8_flag1 l J z ad G) mw_401 mw_402 mw_5 mw_403 pdX8_flag ⟨Nat.le_of_ble_eq_true rfl, Nat.le_of_ble_eq_true rfl⟩ ⟨Nat.le_of_ble_eq_true rfl, Nat.le_of_ble_eq_true rfl⟩ rfl (Nat.le_of_ble_eq_true rfl) dX8_bylaws_55 (fun H locs h => ?_)
          refine lv_iadd hx hb dX8_bylaws_58 ?_
          refine lv_as (y := nI ((cnt (LW r) i_4) + 1)) (nI_addc (by omega)) ?_
          refine lv_as (y := nI (cnt (LW r) (i_4 + 1))) (congrArg nI (cnt_t (c_47)).symm) ?_
          refine lv_istore_n (lv' := [(2, .int (nI ((cnt (LW r) (i_4 + 1))))), (4, .int (r (3 * i_4 + 192))), (0, .ref (ad 210)), (1, .int (nI 0)), (3, .int (nI i_4))]) hx hb dX8_bylaws_59 rfl hl (by decide) rfl (fun ls hl => ?_)
          refine lv_iinc (v := nI (i_4 + 1)) (lv' := [(3, .int (nI (i_4 + 1))), (2, .int (nI ((cnt (LW r) (i_4 + 1))))), (4, .int (r (3 * i_4 + 192))), (0, .ref (ad 210)), (1, .int (nI 0))]) hx hb dX8_bylaws_60 hl (k := 4) rfl (nI_addc (b := 1) (by omega)) (by decide) rfl (fun ls hl => ?_)
          refine lv_goto (tgt := 4) hx hb dX8_bylaws_63 (by decide) ?_
          exact ih_4 (i_4 + 1) (by omega) (by omega) _ _ _ h (lv_sub hl [3, 4, 1, 0] rfl)
  exact LP_4 (140 + 1) 0 (by omega) (by omega) _ _ _ h (lv_sub hl [2, 3, 1, 0] rfl)
set_option maxHeartbeats 4000000 in
set_option maxRecDepth 100000 in
theorem c_X8_bylaws1 (l : Launch) (J : JJ) (z : Nat) (ad : Nat → Nat) (G : GG) (r : Nat → Int32) (hrow : rwS (G 211) 0 = r) (hW : WR r)  : MI l J z ad yX8_bylaws cX8_bylaws 5 .int 1 [.ref (ad 210), .int (nI 1)] G (fun ans uG => ans = (nI (cnt (fun k => r (3 * k + 192) = nI 0) 140)) ∧ uG = (G)) := by
  refine MI.go (by decide) (Nat.le_of_ble_eq_true rfl) ?_
  intro pr e s m args below meth c ls Q X h hl hret
  have hx := X.1
  have hb := X.2.1
  have hown := X.2.2.2.1
  have hts := X.2.2.2.2
  have hl : lv_has ls 5 [(0, .ref (ad 210)), (1, .int (nI 1))] := hl
  have hW0 := hW
  obtain ⟨⟨w1, w2⟩, ⟨w3, w4⟩, ⟨w5, w6⟩, w7, w8⟩ := hW
  refine lv_iconst (v := nI 0) hx hb dX8_bylaws_0 (by decide) ?_
  refine lv_istore_n (lv' := [(2, .int (nI 0)), (0, .ref (ad 210)), (1, .int (nI 1))]) hx hb dX8_bylaws_1 rfl hl (by decide) rfl (fun ls hl => ?_)
  refine lv_iconst (v := nI 0) hx hb dX8_bylaws_2 (by decide) ?_
  refine lv_istore_n (lv' := [(3, .int (nI 0)), (2, .int (nI 0)), (0, .ref (ad 210)), (1, .int (nI 1))]) hx hb dX8_bylaws_3 rfl hl (by decide) rfl (fun ls hl => ?_)
  have LP_4 : ∀ (k_4 i_4 : Nat), 140 + 1 ≤ i_4 + k_4 → i_4 ≤ 140 → ∀ (H : Heap) (locs : List Loc) (ls : Array Slot), HG J z ad s G H locs → lv_has ls 5 [(0, .ref (ad 210)), (1, .int (nI 1)), (2, .int (nI ((cnt (fun k => r (3 * k + 192) = nI 0) i_4)))), (3, .int (nI i_4))] → W pr l e (rmD 1 0 0) s m args below meth c H locs 0 0 Q (F0 m 4 ls []) := by
    intro k_4
    induction k_4 with
    | zero =>
      intro i_4 g1 g2
      exact absurd g1 (by omega)
    | succ k_4 ih_4 =>
      intro i_4 g1_4 g2_4  H locs ls h hl
      refine lv_iload_n hx hb dX8_bylaws_4 rfl (lv_at hl 3 rfl) ?_
      refine lv_sipush (v := nI 140) hx hb dX8_bylaws_5 (by decide) ?_
      refine lv_icmp_ge (tgt := 66) hx hb dX8_bylaws_8 (by decide) (fun c_8 => ?_) (fun c_8 => ?_)
      · rw [nI_leI (by omega) (by omega)] at c_8
        refine lv_iload_n hx hb dX8_bylaws_66 rfl (lv_at hl 2 rfl) ?_
        exact hret (nI ((cnt (fun k => r (3 * k + 192) = nI 0) i_4))) G _ _ 67 _ (⟨by rw [show i_4 = 140 by omega], rfl⟩) h dX8_bylaws_67
      · rw [nI_leI (by omega) (by omega)] at c_8
        refine lv_aload_n hx hb dX8_bylaws_11 rfl (lv_at hl 0 rfl) ?_
        refine fg_X8_7 X h dX8_bylaws_12 ?_
        refine lv_sipush (v := nI 192) hx hb dX8_bylaws_15 (by decide) ?_
        refine lv_iconst (v := nI 3) hx hb dX8_bylaws_18 (by decide) ?_
        refine lv_iload_n hx hb dX8_bylaws_19 rfl (lv_at hl 3 rfl) ?_
        refine lv_imul hx hb dX8_bylaws_20 ?_
        refine lv_as (y := nI (3 * i_4)) (nI_mulc (by omega)) ?_
        refine lv_iadd hx hb dX8_bylaws_21 ?_
        refine lv_as (y := nI (3 * i_4 + 192)) (nI_addc (by omega)) ?_
        refine rs_ld X h 0 (3 * i_4 + 192) (congrArg nI (by omega)) (by omega) dX8_bylaws_22 ?_
        refine lv_as (y := r (3 * i_4 + 192)) (congrFun hrow _) ?_
        refine lv_istore (lv' := [(4, .int (r (3 * i_4 + 192))), (0, .ref (ad 210)), (1, .int (nI 1)), (2, .int (nI ((cnt (fun k => r (3 * k + 192) = nI 0) i_4)))), (3, .int (nI i_4))]) hx hb dX8_bylaws_23 hl (by decide) rfl (fun ls hl => ?_)
        refine lv_iload_n hx hb dX8_bylaws_25 rfl (lv_at hl 3 rfl) ?_
        refine lv_iload_n hx hb dX8_bylaws_26 rfl (lv_at hl 2 rfl) ?_
        refine lv_if_eq (tgt := 43) hx hb dX8_bylaws_27 (by decide) (fun c_27 => absurd c_27 (by decide)) (fun c_27 => ?_)
        refine lv_iload hx hb dX8_bylaws_30 (lv_at hl 0 rfl) ?_
        refine lv_if_ne (tgt := 39) hx hb dX8_bylaws_32 (by decide) (fun c_32 => ?_) (fun c_32 => ?_)
        · refine lv_iconst (v := nI 0) hx hb dX8_bylaws_39 (by decide) ?_
          refine lv_goto (tgt := 55) hx hb dX8_bylaws_40 (by decide) ?_
          refine rg_cisd (As := [.int (nI 0)]) (rest := [.int (nI ((cnt (fun k => r (3 * k + 192) = nI 0) i_4)))]) X hl.1 h (c_X8_flag0 l J z ad G) mw_401 mw_402 mw_5 mw_403 pdX8_flag ⟨Nat.le_of_ble_eq_true rfl, Nat.le_of_ble_eq_true rfl⟩ ⟨Nat.le_of_ble_eq_true rfl, Nat.le_of_ble_eq_true rfl⟩ rfl (Nat.le_of_ble_eq_true rfl) dX8_bylaws_55 (fun H locs h => ?_)
          refine lv_iadd hx hb dX8_bylaws_58 ?_
          refine lv_as (y := nI ((cnt (fun k => r (3 * k + 192) = nI 0) i_4))) (nI_addc (by omega)) ?_
          refine lv_as (y := nI (cnt (fun k => r (3 * k + 192) = nI 0) (i_4 + 1))) (congrArg nI (cnt_f (c_32)).symm) ?_
          refine lv_istore_n (lv' := [(2, .int (nI ((cnt (fun k => r (3 * k + 192) = nI 0) (i_4 + 1))))), (4, .int (r (3 * i_4 + 192))), (0, .ref (ad 210)), (1, .int (nI 1)), (3, .int (nI i_4))]) hx hb dX8_bylaws_59 rfl hl (by decide) rfl (fun ls hl => ?_)
          refine lv_iinc (v := nI (i_4 + 1)) (lv' := [(3, .int (nI (i_4 + 1))), (2, .int (nI ((cnt (fun k => r (3 * k + 192) = nI 0) (i_4 + 1))))), (4, .int (r (3 * i_4 + 192))), (0, .ref (ad 210)), (1, .int (nI 1))]) hx hb dX8_bylaws_60 hl (k := 4) rfl (nI_addc (b := 1) (by omega)) (by decide) rfl (fun ls hl => ?_)
          refine lv_goto (tgt := 4) hx hb dX8_bylaws_63 (by decide) ?_
          exact ih_4 (i_4 + 1) (by omega) (by omega) _ _ _ h (lv_sub hl [3, 4, 1, 0] rfl)
        · refine lv_iconst (v := nI 1) hx hb dX8_bylaws_35 (by decide) ?_
          refine lv_goto (tgt := 55) hx hb dX8_bylaws_36 (by decide) ?_
          refine rg_cisd (As := [.int (nI 1)]) (rest := [.int (nI ((cnt (fun k => r (3 * k + 192) = nI 0) i_4)))]) X hl.1 h (c_X8_flag1 l J z ad G) mw_401 mw_402 mw_5 mw_403 pdX8_flag ⟨Nat.le_of_ble_eq_true rfl, Nat.le_of_ble_eq_true rfl⟩ ⟨Nat.le_of_ble_eq_true rfl, Nat.le_of_ble_eq_true rfl⟩ rfl (Nat.le_of_ble_eq_true rfl) dX8_bylaws_55 (fun H locs h => ?_)
          refine lv_iadd hx hb dX8_bylaws_58 ?_
          refine lv_as (y := nI ((cnt (fun k => r (3 * k + 192) = nI 0) i_4) + 1)) (nI_addc (by omega)) ?_
          refine lv_as (y := nI (cnt (fun k => r (3 * k + 192) = nI 0) (i_4 + 1))) (congrArg nI (cnt_t (c_32)).symm) ?_
          refine lv_istore_n (lv' := [(2, .int (nI ((cnt (fun k => r (3 * k + 192) = nI 0) (i_4 + 1))))), (4, .int (r (3 * i_4 + 192))), (0, .ref (ad 210)), (1, .int (nI 1)), (3, .int (nI i_4))]) hx hb dX8_bylaws_59 rfl hl (by decide) rfl (fun ls hl => ?_)
          refine lv_iinc (v := nI (i_4 + 1)) (lv' := [(3, .int (nI (i_4 + 1))), (2, .int (nI ((cnt (fun k => r (3 * k + 192) = nI 0) (i_4 + 1))))), (4, .int (r (3 * i_4 + 192))), (0, .ref (ad 210)), (1, .int (nI 1))]) hx hb dX8_bylaws_60 hl (k := 4) rfl (nI_addc (b := 1) (by omega)) (by decide) rfl (fun ls hl => ?_)
          refine lv_goto (tgt := 4) hx hb dX8_bylaws_63 (by decide) ?_
          exact ih_4 (i_4 + 1) (by omega) (by omega) _ _ _ h (lv_sub hl [3, 4, 1, 0] rfl)
  exact LP_4 (140 + 1) 0 (by omega) (by omega) _ _ _ h (lv_sub hl [2, 3, 1, 0] rfl)
set_option maxHeartbeats 4000000 in
set_option maxRecDepth 100000 in
theorem c_X8_secondedBy (l : Launch) (J : JJ) (z : Nat) (ad : Nat → Nat) (G : GG) (r : Nat → Int32) (hrow : rwS (G 211) 0 = r) (hW : WR r) (d : Int32) : MI l J z ad yX8_secondedBy cX8_secondedBy 4 .int 1 [.ref (ad 210), .int d] G (fun ans uG => ans = (sc2 r d) ∧ uG = (G)) := by
  refine MI.go (by decide) (Nat.le_of_ble_eq_true rfl) ?_
  intro pr e s m args below meth c ls Q X h hl hret
  have hx := X.1
  have hb := X.2.1
  have hown := X.2.2.2.1
  have hts := X.2.2.2.2
  have hl : lv_has ls 4 [(0, .ref (ad 210)), (1, .int d)] := hl
  have hW0 := hW
  obtain ⟨⟨w1, w2⟩, ⟨w3, w4⟩, ⟨w5, w6⟩, w7, w8⟩ := hW
  refine lv_iconst (v := nI 0) hx hb dX8_secondedBy_0 (by decide) ?_
  refine lv_istore_n (lv' := [(2, .int (nI 0)), (0, .ref (ad 210)), (1, .int d)]) hx hb dX8_secondedBy_1 rfl hl (by decide) rfl (fun ls hl => ?_)
  refine lv_iconst (v := nI 0) hx hb dX8_secondedBy_2 (by decide) ?_
  refine lv_istore_n (lv' := [(3, .int (nI 0)), (2, .int (nI 0)), (0, .ref (ad 210)), (1, .int d)]) hx hb dX8_secondedBy_3 rfl hl (by decide) rfl (fun ls hl => ?_)
  have LP_4 : ∀ (k_4 i_4 : Nat), mn r + 1 ≤ i_4 + k_4 → i_4 ≤ mn r → ∀ (H : Heap) (locs : List Loc) (ls : Array Slot), HG J z ad s G H locs → lv_has ls 4 [(0, .ref (ad 210)), (1, .int d), (2, .int (itr (fun q a => a ||| (((r (5 * q + 88) >>> (d &&& 31)) &&& nI 1) <<< (nI q &&& 31))) (nI 0) i_4)), (3, .int (nI i_4))] → W pr l e (rmD 1 0 0) s m args below meth c H locs 0 0 Q (F0 m 4 ls []) := by
    intro k_4
    induction k_4 with
    | zero =>
      intro i_4 g1 g2
      exact absurd g1 (by omega)
    | succ k_4 ih_4 =>
      intro i_4 g1_4 g2_4  H locs ls h hl
      refine lv_iload_n hx hb dX8_secondedBy_4 rfl (lv_at hl 3 rfl) ?_
      refine lv_aload_n hx hb dX8_secondedBy_5 rfl (lv_at hl 0 rfl) ?_
      refine fg_X8_7 X h dX8_secondedBy_6 ?_
      refine lv_bipush (v := nI 6) hx hb dX8_secondedBy_9 (by decide) ?_
      refine rs_ld X h 0 (6) (congrArg nI (by omega)) (by omega) dX8_secondedBy_11 ?_
      refine lv_as (y := nI ((mn r))) ((congrFun hrow _).trans (w3)) ?_
      refine lv_icmp_ge (tgt := 42) hx hb dX8_secondedBy_12 (by decide) (fun c_12 => ?_) (fun c_12 => ?_)
      · rw [nI_leI (by omega) (by omega)] at c_12
        refine lv_iload_n hx hb dX8_secondedBy_42 rfl (lv_at hl 2 rfl) ?_
        exact hret (itr (fun q a => a ||| (((r (5 * q + 88) >>> (d &&& 31)) &&& nI 1) <<< (nI q &&& 31))) (nI 0) i_4) G _ _ 43 _ (⟨by rw [show i_4 = mn r by omega]; rfl, rfl⟩) h dX8_secondedBy_43
      · rw [nI_leI (by omega) (by omega)] at c_12
        refine lv_iload_n hx hb dX8_secondedBy_15 rfl (lv_at hl 2 rfl) ?_
        refine lv_aload_n hx hb dX8_secondedBy_16 rfl (lv_at hl 0 rfl) ?_
        refine fg_X8_7 X h dX8_secondedBy_17 ?_
        refine lv_iconst (v := nI 0) hx hb dX8_secondedBy_20 (by decide) ?_
        refine lv_iload_n hx hb dX8_secondedBy_21 rfl (lv_at hl 3 rfl) ?_
        refine rg_cisd (As := [.int (nI 0), .int (nI i_4)]) (rest := [.ref (ad 211), .int (itr (fun q a => a ||| (((r (5 * q + 88) >>> (d &&& 31)) &&& nI 1) <<< (nI q &&& 31))) (nI 0) i_4)]) X hl.1 h (c_X8_petitionAt l J z ad G 0 i_4) mw_261 mw_262 mw_5 mw_263 pdX8_petitionAt ⟨Nat.le_of_ble_eq_true rfl, Nat.le_of_ble_eq_true rfl⟩ ⟨Nat.le_of_ble_eq_true rfl, Nat.le_of_ble_eq_true rfl⟩ rfl (Nat.le_of_ble_eq_true rfl) dX8_secondedBy_22 (fun H locs h => ?_)
        refine lv_as (y := nI (5 * i_4 + 84)) (congrArg nI (by omega)) ?_
        refine lv_iconst (v := nI 4) hx hb dX8_secondedBy_25 (by decide) ?_
        refine lv_iadd hx hb dX8_secondedBy_26 ?_
        refine lv_as (y := nI (5 * i_4 + 88)) (nI_addc (by omega)) ?_
        refine rs_ld X h 0 (5 * i_4 + 88) (congrArg nI (by omega)) (by omega) dX8_secondedBy_27 ?_
        refine lv_as (y := r (5 * i_4 + 88)) (congrFun hrow _) ?_
        refine lv_iload_n hx hb dX8_secondedBy_28 rfl (lv_at hl 1 rfl) ?_
        refine lv_ishr hx hb dX8_secondedBy_29 ?_
        refine lv_iconst (v := nI 1) hx hb dX8_secondedBy_30 (by decide) ?_
        refine lv_iand hx hb dX8_secondedBy_31 ?_
        refine lv_iload_n hx hb dX8_secondedBy_32 rfl (lv_at hl 3 rfl) ?_
        refine lv_ishl hx hb dX8_secondedBy_33 ?_
        refine lv_ior hx hb dX8_secondedBy_34 ?_
        refine lv_istore_n (lv' := [(2, .int ((itr (fun q a => a ||| (((r (5 * q + 88) >>> (d &&& 31)) &&& nI 1) <<< (nI q &&& 31))) (nI 0) i_4) ||| ((((r (5 * i_4 + 88)) >>> (d &&& 31)) &&& (nI 1)) <<< ((nI i_4) &&& 31)))), (0, .ref (ad 210)), (1, .int d), (3, .int (nI i_4))]) hx hb dX8_secondedBy_35 rfl hl (by decide) rfl (fun ls hl => ?_)
        refine lv_iinc (v := nI (i_4 + 1)) (lv' := [(3, .int (nI (i_4 + 1))), (2, .int ((itr (fun q a => a ||| (((r (5 * q + 88) >>> (d &&& 31)) &&& nI 1) <<< (nI q &&& 31))) (nI 0) i_4) ||| ((((r (5 * i_4 + 88)) >>> (d &&& 31)) &&& (nI 1)) <<< ((nI i_4) &&& 31)))), (0, .ref (ad 210)), (1, .int d)]) hx hb dX8_secondedBy_36 hl (k := 3) rfl (nI_addc (b := 1) (by omega)) (by decide) rfl (fun ls hl => ?_)
        refine lv_goto (tgt := 4) hx hb dX8_secondedBy_39 (by decide) ?_
        exact ih_4 (i_4 + 1) (by omega) (by omega) _ _ _ h (lv_sub hl [2, 3, 1, 0] rfl)
  exact LP_4 (mn r + 1) 0 (by omega) (by omega) _ _ _ h (lv_sub hl [2, 3, 1, 0] rfl)
set_option maxHeartbeats 4000000 in
set_option maxRecDepth 100000 in
theorem c_X8_ranked (l : Launch) (J : JJ) (z : Nat) (ad : Nat → Nat) (G : GG) (r : Nat → Int32) (hrow : rwS (G 211) 0 = r) (hW : WR r) (x : Int32) : MI l J z ad yX8_ranked cX8_ranked 4 .int 0 [.ref (ad 210), .int x] G (fun ans uG => ans = (opI (rkd r x)) ∧ uG = (G)) := by
  refine MI.go (by decide) (Nat.le_of_ble_eq_true rfl) ?_
  intro pr e s m args below meth c ls Q X h hl hret
  have hx := X.1
  have hb := X.2.1
  have hown := X.2.2.2.1
  have hts := X.2.2.2.2
  have hl : lv_has ls 4 [(0, .ref (ad 210)), (1, .int x)] := hl
  have hW0 := hW
  obtain ⟨⟨w1, w2⟩, ⟨w3, w4⟩, ⟨w5, w6⟩, w7, w8⟩ := hW
  refine lv_iconst (v := nI 0) hx hb dX8_ranked_0 (by decide) ?_
  refine lv_istore_n (lv' := [(2, .int (nI 0)), (0, .ref (ad 210)), (1, .int x)]) hx hb dX8_ranked_1 rfl hl (by decide) rfl (fun ls hl => ?_)
  refine lv_iconst (v := nI 0) hx hb dX8_ranked_2 (by decide) ?_
  refine lv_istore_n (lv' := [(3, .int (nI 0)), (2, .int (nI 0)), (0, .ref (ad 210)), (1, .int x)]) hx hb dX8_ranked_3 rfl hl (by decide) rfl (fun ls hl => ?_)
  have LP_4 : ∀ (k_4 i_4 : Nat), 140 + 1 ≤ i_4 + k_4 → i_4 ≤ 140 → ∀ (hn : ∀ j, j < i_4 → ¬ (LW r j ∧ nI (cnt (LW r) j) = x)) (H : Heap) (locs : List Loc) (ls : Array Slot), HG J z ad s G H locs → lv_has ls 4 [(0, .ref (ad 210)), (1, .int x), (2, .int (nI ((cnt (LW r) i_4)))), (3, .int (nI i_4))] → W pr l e (rmD 0 0 0) s m args below meth c H locs 0 0 Q (F0 m 4 ls []) := by
    intro k_4
    induction k_4 with
    | zero =>
      intro i_4 g1 g2
      exact absurd g1 (by omega)
    | succ k_4 ih_4 =>
      intro i_4 g1_4 g2_4 hn H locs ls h hl
      refine lv_iload_n hx hb dX8_ranked_4 rfl (lv_at hl 3 rfl) ?_
      refine lv_sipush (v := nI 140) hx hb dX8_ranked_5 (by decide) ?_
      refine lv_icmp_ge (tgt := 44) hx hb dX8_ranked_8 (by decide) (fun c_8 => ?_) (fun c_8 => ?_)
      · rw [nI_leI (by omega) (by omega)] at c_8
        refine lv_bipush (v := (-5)) hx hb dX8_ranked_44 (by decide) ?_
        exact hret (-5) G _ _ 46 _ (⟨by unfold rkd; rw [fst_n (P := fun k => LW r k ∧ nI (cnt (LW r) k) = x) (fun j hj => hn j (by omega))]; rfl, rfl⟩) h dX8_ranked_46
      · rw [nI_leI (by omega) (by omega)] at c_8
        refine lv_aload_n hx hb dX8_ranked_11 rfl (lv_at hl 0 rfl) ?_
        refine fg_X8_7 X h dX8_ranked_12 ?_
        refine lv_sipush (v := nI 192) hx hb dX8_ranked_15 (by decide) ?_
        refine lv_iconst (v := nI 3) hx hb dX8_ranked_18 (by decide) ?_
        refine lv_iload_n hx hb dX8_ranked_19 rfl (lv_at hl 3 rfl) ?_
        refine lv_imul hx hb dX8_ranked_20 ?_
        refine lv_as (y := nI (3 * i_4)) (nI_mulc (by omega)) ?_
        refine lv_iadd hx hb dX8_ranked_21 ?_
        refine lv_as (y := nI (3 * i_4 + 192)) (nI_addc (by omega)) ?_
        refine rs_ld X h 0 (3 * i_4 + 192) (congrArg nI (by omega)) (by omega) dX8_ranked_22 ?_
        refine lv_as (y := r (3 * i_4 + 192)) (congrFun hrow _) ?_
        refine lv_bipush (v := (-5)) hx hb dX8_ranked_23 (by decide) ?_
        refine lv_icmp_eq (tgt := 38) hx hb dX8_ranked_25 (by decide) (fun c_25 => ?_) (fun c_25 => ?_)
        · have hn2 : ∀ j, j < i_4 + 1 → ¬ (LW r j ∧ nI (cnt (LW r) j) = x) := by
            intro j hj q
            by_cases e : j = i_4
            · subst e
              exact q.1 c_25
            · exact hn j (by omega) q
          rw [show (cnt (LW r) i_4) = cnt (LW r) (i_4 + 1) from (cnt_f (fun q => q c_25)).symm] at hl
          refine lv_iinc (v := nI (i_4 + 1)) (lv' := [(3, .int (nI (i_4 + 1))), (0, .ref (ad 210)), (1, .int x), (2, .int (nI ((cnt (LW r) (i_4 + 1)))))]) hx hb dX8_ranked_38 hl (k := 3) rfl (nI_addc (b := 1) (by omega)) (by decide) rfl (fun ls hl => ?_)
          refine lv_goto (tgt := 4) hx hb dX8_ranked_41 (by decide) ?_
          exact ih_4 (i_4 + 1) (by omega) (by omega) hn2 _ _ _ h (lv_sub hl [1, 2, 3, 0] rfl)
        · refine lv_iload_n hx hb dX8_ranked_28 rfl (lv_at hl 2 rfl) ?_
          refine lv_iload_n hx hb dX8_ranked_29 rfl (lv_at hl 1 rfl) ?_
          refine lv_icmp_ne (tgt := 35) hx hb dX8_ranked_30 (by decide) (fun c_30 => ?_) (fun c_30 => ?_)
          · refine lv_iinc (v := nI ((cnt (LW r) i_4) + 1)) (lv' := [(2, .int (nI ((cnt (LW r) i_4) + 1))), (0, .ref (ad 210)), (1, .int x), (3, .int (nI i_4))]) hx hb dX8_ranked_35 hl (k := 2) rfl (nI_addc (b := 1) (by omega)) (by decide) rfl (fun ls hl => ?_)
            have hn2 : ∀ j, j < i_4 + 1 → ¬ (LW r j ∧ nI (cnt (LW r) j) = x) := by
              intro j hj q
              by_cases e : j = i_4
              · subst e
                exact c_30 q.2
              · exact hn j (by omega) q
            rw [show (cnt (LW r) i_4) + 1 = cnt (LW r) (i_4 + 1) from (cnt_t c_25).symm] at hl
            refine lv_iinc (v := nI (i_4 + 1)) (lv' := [(3, .int (nI (i_4 + 1))), (2, .int (nI ((cnt (LW r) (i_4 + 1))))), (0, .ref (ad 210)), (1, .int x)]) hx hb dX8_ranked_38 hl (k := 3) rfl (nI_addc (b := 1) (by omega)) (by decide) rfl (fun ls hl => ?_)
            refine lv_goto (tgt := 4) hx hb dX8_ranked_41 (by decide) ?_
            exact ih_4 (i_4 + 1) (by omega) (by omega) hn2 _ _ _ h (lv_sub hl [2, 3, 1, 0] rfl)
          · refine lv_iload_n hx hb dX8_ranked_33 rfl (lv_at hl 3 rfl) ?_
            exact hret (nI i_4) G _ _ 34 _ (⟨by unfold rkd; rw [fst_s (P := fun k => LW r k ∧ nI (cnt (LW r) k) = x) ⟨c_25, c_30⟩ hn (by omega)]; rfl, rfl⟩) h dX8_ranked_34
  exact LP_4 (140 + 1) 0 (by omega) (by omega) (fun j hj => by omega) _ _ _ h (lv_sub hl [2, 3, 1, 0] rfl)
set_option maxHeartbeats 4000000 in
set_option maxRecDepth 100000 in
theorem c_X8_rankOf (l : Launch) (J : JJ) (z : Nat) (ad : Nat → Nat) (G : GG) (r : Nat → Int32) (hrow : rwS (G 211) 0 = r) (hW : WR r) (n : Nat) (hn : n < 140) : MI l J z ad yX8_rankOf cX8_rankOf 4 .int 1 [.ref (ad 210), .int (nI n)] G (fun ans uG => ans = (nI (cnt (LW r) n)) ∧ uG = (G)) := by
  refine MI.go (by decide) (Nat.le_of_ble_eq_true rfl) ?_
  intro pr e s m args below meth c ls Q X h hl hret
  have hx := X.1
  have hb := X.2.1
  have hown := X.2.2.2.1
  have hts := X.2.2.2.2
  have hl : lv_has ls 4 [(0, .ref (ad 210)), (1, .int (nI n))] := hl
  have hW0 := hW
  obtain ⟨⟨w1, w2⟩, ⟨w3, w4⟩, ⟨w5, w6⟩, w7, w8⟩ := hW
  refine lv_iconst (v := nI 0) hx hb dX8_rankOf_0 (by decide) ?_
  refine lv_istore_n (lv' := [(2, .int (nI 0)), (0, .ref (ad 210)), (1, .int (nI n))]) hx hb dX8_rankOf_1 rfl hl (by decide) rfl (fun ls hl => ?_)
  refine lv_iconst (v := nI 0) hx hb dX8_rankOf_2 (by decide) ?_
  refine lv_istore_n (lv' := [(3, .int (nI 0)), (2, .int (nI 0)), (0, .ref (ad 210)), (1, .int (nI n))]) hx hb dX8_rankOf_3 rfl hl (by decide) rfl (fun ls hl => ?_)
  have LP_4 : ∀ (k_4 i_4 : Nat), n + 1 ≤ i_4 + k_4 → i_4 ≤ n → ∀ (H : Heap) (locs : List Loc) (ls : Array Slot), HG J z ad s G H locs → lv_has ls 4 [(0, .ref (ad 210)), (1, .int (nI n)), (2, .int (nI ((cnt (LW r) i_4)))), (3, .int (nI i_4))] → W pr l e (rmD 1 0 0) s m args below meth c H locs 0 0 Q (F0 m 4 ls []) := by
    intro k_4
    induction k_4 with
    | zero =>
      intro i_4 g1 g2
      exact absurd g1 (by omega)
    | succ k_4 ih_4 =>
      intro i_4 g1_4 g2_4  H locs ls h hl
      refine lv_iload_n hx hb dX8_rankOf_4 rfl (lv_at hl 3 rfl) ?_
      refine lv_iload_n hx hb dX8_rankOf_5 rfl (lv_at hl 1 rfl) ?_
      refine lv_icmp_ge (tgt := 43) hx hb dX8_rankOf_6 (by decide) (fun c_6 => ?_) (fun c_6 => ?_)
      · rw [nI_leI (by omega) (by omega)] at c_6
        refine lv_iload_n hx hb dX8_rankOf_43 rfl (lv_at hl 2 rfl) ?_
        exact hret (nI ((cnt (LW r) i_4))) G _ _ 44 _ (⟨by rw [show i_4 = n by omega], rfl⟩) h dX8_rankOf_44
      · rw [nI_leI (by omega) (by omega)] at c_6
        refine lv_iload_n hx hb dX8_rankOf_9 rfl (lv_at hl 2 rfl) ?_
        refine lv_aload_n hx hb dX8_rankOf_10 rfl (lv_at hl 0 rfl) ?_
        refine fg_X8_7 X h dX8_rankOf_11 ?_
        refine lv_sipush (v := nI 192) hx hb dX8_rankOf_14 (by decide) ?_
        refine lv_iconst (v := nI 3) hx hb dX8_rankOf_17 (by decide) ?_
        refine lv_iload_n hx hb dX8_rankOf_18 rfl (lv_at hl 3 rfl) ?_
        refine lv_imul hx hb dX8_rankOf_19 ?_
        refine lv_as (y := nI (3 * i_4)) (nI_mulc (by omega)) ?_
        refine lv_iadd hx hb dX8_rankOf_20 ?_
        refine lv_as (y := nI (3 * i_4 + 192)) (nI_addc (by omega)) ?_
        refine rs_ld X h 0 (3 * i_4 + 192) (congrArg nI (by omega)) (by omega) dX8_rankOf_21 ?_
        refine lv_as (y := r (3 * i_4 + 192)) (congrFun hrow _) ?_
        refine lv_bipush (v := (-5)) hx hb dX8_rankOf_22 (by decide) ?_
        refine lv_icmp_eq (tgt := 31) hx hb dX8_rankOf_24 (by decide) (fun c_24 => ?_) (fun c_24 => ?_)
        · refine lv_iconst (v := nI 0) hx hb dX8_rankOf_31 (by decide) ?_
          refine rg_cisd (As := [.int (nI 0)]) (rest := [.int (nI ((cnt (LW r) i_4)))]) X hl.1 h (c_X8_flag0 l J z ad G) mw_401 mw_402 mw_5 mw_403 pdX8_flag ⟨Nat.le_of_ble_eq_true rfl, Nat.le_of_ble_eq_true rfl⟩ ⟨Nat.le_of_ble_eq_true rfl, Nat.le_of_ble_eq_true rfl⟩ rfl (Nat.le_of_ble_eq_true rfl) dX8_rankOf_32 (fun H locs h => ?_)
          refine lv_iadd hx hb dX8_rankOf_35 ?_
          refine lv_as (y := nI ((cnt (LW r) i_4))) (nI_addc (by omega)) ?_
          refine lv_as (y := nI (cnt (LW r) (i_4 + 1))) (congrArg nI (cnt_f (fun q => q c_24)).symm) ?_
          refine lv_istore_n (lv' := [(2, .int (nI ((cnt (LW r) (i_4 + 1))))), (0, .ref (ad 210)), (1, .int (nI n)), (3, .int (nI i_4))]) hx hb dX8_rankOf_36 rfl hl (by decide) rfl (fun ls hl => ?_)
          refine lv_iinc (v := nI (i_4 + 1)) (lv' := [(3, .int (nI (i_4 + 1))), (2, .int (nI ((cnt (LW r) (i_4 + 1))))), (0, .ref (ad 210)), (1, .int (nI n))]) hx hb dX8_rankOf_37 hl (k := 3) rfl (nI_addc (b := 1) (by omega)) (by decide) rfl (fun ls hl => ?_)
          refine lv_goto (tgt := 4) hx hb dX8_rankOf_40 (by decide) ?_
          exact ih_4 (i_4 + 1) (by omega) (by omega) _ _ _ h (lv_sub hl [2, 3, 1, 0] rfl)
        · refine lv_iconst (v := nI 1) hx hb dX8_rankOf_27 (by decide) ?_
          refine lv_goto (tgt := 32) hx hb dX8_rankOf_28 (by decide) ?_
          refine rg_cisd (As := [.int (nI 1)]) (rest := [.int (nI ((cnt (LW r) i_4)))]) X hl.1 h (c_X8_flag1 l J z ad G) mw_401 mw_402 mw_5 mw_403 pdX8_flag ⟨Nat.le_of_ble_eq_true rfl, Nat.le_of_ble_eq_true rfl⟩ ⟨Nat.le_of_ble_eq_true rfl, Nat.le_of_ble_eq_true rfl⟩ rfl (Nat.le_of_ble_eq_true rfl) dX8_rankOf_32 (fun H locs h => ?_)
          refine lv_iadd hx hb dX8_rankOf_35 ?_
          refine lv_as (y := nI ((cnt (LW r) i_4) + 1)) (nI_addc (by omega)) ?_
          refine lv_as (y := nI (cnt (LW r) (i_4 + 1))) (congrArg nI (cnt_t (c_24)).symm) ?_
          refine lv_istore_n (lv' := [(2, .int (nI ((cnt (LW r) (i_4 + 1))))), (0, .ref (ad 210)), (1, .int (nI n)), (3, .int (nI i_4))]) hx hb dX8_rankOf_36 rfl hl (by decide) rfl (fun ls hl => ?_)
          refine lv_iinc (v := nI (i_4 + 1)) (lv' := [(3, .int (nI (i_4 + 1))), (2, .int (nI ((cnt (LW r) (i_4 + 1))))), (0, .ref (ad 210)), (1, .int (nI n))]) hx hb dX8_rankOf_37 hl (k := 3) rfl (nI_addc (b := 1) (by omega)) (by decide) rfl (fun ls hl => ?_)
          refine lv_goto (tgt := 4) hx hb dX8_rankOf_40 (by decide) ?_
          exact ih_4 (i_4 + 1) (by omega) (by omega) _ _ _ h (lv_sub hl [2, 3, 1, 0] rfl)
  exact LP_4 (n + 1) 0 (by omega) (by omega) _ _ _ h (lv_sub hl [2, 3, 1, 0] rfl)
set_option maxHeartbeats 4000000 in
set_option maxRecDepth 100000 in
theorem c_X8_ruling (l : Launch) (J : JJ) (z : Nat) (ad : Nat → Nat) (G : GG) (r : Nat → Int32) (hrow : rwS (G 211) 0 = r) (hW : WR r) (a g : Nat) (ha6 : a < 6) (hg : g < 20) : MI l J z ad yX8_ruling cX8_ruling 5 .int 1 [.ref (ad 210), .int (nI a), .int (nI g)] G (fun ans uG => ans = (opI (rulO r a g)) ∧ uG = (G)) := by
  refine MI.go (by decide) (Nat.le_of_ble_eq_true rfl) ?_
  intro pr e s m args below meth c ls Q X h hl hret
  have hx := X.1
  have hb := X.2.1
  have hown := X.2.2.2.1
  have hts := X.2.2.2.2
  have hl : lv_has ls 5 [(0, .ref (ad 210)), (1, .int (nI a)), (2, .int (nI g))] := hl
  have hW0 := hW
  obtain ⟨⟨w1, w2⟩, ⟨w3, w4⟩, ⟨w5, w6⟩, w7, w8⟩ := hW
  refine lv_iconst (v := nI 0) hx hb dX8_ruling_0 (by decide) ?_
  refine lv_iload_n hx hb dX8_ruling_1 rfl (lv_at hl 1 rfl) ?_
  refine lv_iload_n hx hb dX8_ruling_2 rfl (lv_at hl 2 rfl) ?_
  refine rg_cisd (As := [.int (nI 0), .int (nI a), .int (nI g)]) (rest := []) X hl.1 h (c_X8_bylawAt l J z ad G 0 a g) mw_386 mw_387 mw_5 mw_388 pdX8_bylawAt ⟨Nat.le_of_ble_eq_true rfl, Nat.le_of_ble_eq_true rfl⟩ ⟨Nat.le_of_ble_eq_true rfl, Nat.le_of_ble_eq_true rfl⟩ rfl (Nat.le_of_ble_eq_true rfl) dX8_ruling_3 (fun H locs h => ?_)
  refine lv_as (y := nI (60 * a + 3 * g + 192)) (congrArg nI (by omega)) ?_
  refine lv_istore_n (lv' := [(3, .int (nI (60 * a + 3 * g + 192))), (0, .ref (ad 210)), (1, .int (nI a)), (2, .int (nI g))]) hx hb dX8_ruling_6 rfl hl (by decide) rfl (fun ls hl => ?_)
  refine lv_iconst (v := nI 0) hx hb dX8_ruling_7 (by decide) ?_
  refine lv_bipush (v := nI 6) hx hb dX8_ruling_8 (by decide) ?_
  refine lv_iload_n hx hb dX8_ruling_10 rfl (lv_at hl 3 rfl) ?_
  refine rg_cisd (As := [.int (nI 0), .int (nI 6), .int (nI g)]) (rest := []) X hl.1 h (c_X8_bylawAt l J z ad G 0 6 g) mw_386 mw_387 mw_5 mw_388 pdX8_bylawAt ⟨Nat.le_of_ble_eq_true rfl, Nat.le_of_ble_eq_true rfl⟩ ⟨Nat.le_of_ble_eq_true rfl, Nat.le_of_ble_eq_true rfl⟩ rfl (Nat.le_of_ble_eq_true rfl) dX8_ruling_11 (fun H locs h => ?_)
  refine lv_as (y := nI (3 * g + 552)) (congrArg nI (by omega)) ?_
  refine lv_istore (lv' := [(4, .int (nI (3 * g + 552))), (3, .int (nI (60 * a + 3 * g + 192))), (0, .ref (ad 210)), (1, .int (nI a)), (2, .int (nI g))]) hx hb dX8_ruling_14 hl (by decide) rfl (fun ls hl => ?_)
  refine lv_aload_n hx hb dX8_ruling_16 rfl (lv_at hl 2 rfl) ?_
  refine fg_X8_7 X h dX8_ruling_17 ?_
  refine lv_iload_n hx hb dX8_ruling_20 rfl (lv_at hl 1 rfl) ?_
  refine rs_ld X h 0 (60 * a + 3 * g + 192) (congrArg nI (by omega)) (by omega) dX8_ruling_21 ?_
  refine lv_as (y := r (60 * a + 3 * g + 192)) (congrFun hrow _) ?_
  refine lv_bipush (v := (-5)) hx hb dX8_ruling_22 (by decide) ?_
  refine lv_icmp_eq (tgt := 39) hx hb dX8_ruling_24 (by decide) (fun c_24 => ?_) (fun c_24 => ?_)
  · refine lv_aload_n hx hb dX8_ruling_39 rfl (lv_at hl 2 rfl) ?_
    refine fg_X8_7 X h dX8_ruling_40 ?_
    refine lv_iload_n hx hb dX8_ruling_43 rfl (lv_at hl 1 rfl) ?_
    refine rs_ld X h 0 (60 * a + 3 * g + 192) (congrArg nI (by omega)) (by omega) dX8_ruling_44 ?_
    refine lv_as (y := r (60 * a + 3 * g + 192)) (congrFun hrow _) ?_
    refine lv_bipush (v := (-5)) hx hb dX8_ruling_45 (by decide) ?_
    refine lv_icmp_eq (tgt := 54) hx hb dX8_ruling_47 (by decide) (fun c_47 => ?_) (fun c_47 => ?_)
    · refine lv_aload_n hx hb dX8_ruling_54 rfl (lv_at hl 2 rfl) ?_
      refine fg_X8_7 X h dX8_ruling_55 ?_
      refine lv_iload hx hb dX8_ruling_58 (lv_at hl 0 rfl) ?_
      refine rs_ld X h 0 (3 * g + 552) (congrArg nI (by omega)) (by omega) dX8_ruling_60 ?_
      refine lv_as (y := r (3 * g + 552)) (congrFun hrow _) ?_
      refine lv_bipush (v := (-5)) hx hb dX8_ruling_61 (by decide) ?_
      refine lv_icmp_eq (tgt := 71) hx hb dX8_ruling_63 (by decide) (fun c_63 => ?_) (fun c_63 => ?_)
      · refine lv_bipush (v := (-5)) hx hb dX8_ruling_71 (by decide) ?_
        exact hret (-5) G _ _ 73 _ (⟨by unfold rulO; rw [if_pos (Or.inl c_24), if_pos c_24, if_pos c_63]; rfl, rfl⟩) h dX8_ruling_73
      · refine lv_bipush (v := nI 6) hx hb dX8_ruling_66 (by decide) ?_
        refine lv_goto (tgt := 73) hx hb dX8_ruling_68 (by decide) ?_
        exact hret (nI 6) G _ _ 73 _ (⟨by unfold rulO; rw [if_pos (Or.inl c_24), if_pos c_24, if_neg c_63]; rfl, rfl⟩) h dX8_ruling_73
    · refine lv_iload_n hx hb dX8_ruling_50 rfl (lv_at hl 3 rfl) ?_
      refine lv_goto (tgt := 73) hx hb dX8_ruling_51 (by decide) ?_
      exact hret (nI a) G _ _ 73 _ (⟨absurd c_24 c_47, rfl⟩) h dX8_ruling_73
  · refine lv_aload_n hx hb dX8_ruling_27 rfl (lv_at hl 2 rfl) ?_
    refine fg_X8_7 X h dX8_ruling_28 ?_
    refine lv_iload hx hb dX8_ruling_31 (lv_at hl 0 rfl) ?_
    refine rs_ld X h 0 (3 * g + 552) (congrArg nI (by omega)) (by omega) dX8_ruling_33 ?_
    refine lv_as (y := r (3 * g + 552)) (congrFun hrow _) ?_
    refine lv_bipush (v := (-5)) hx hb dX8_ruling_34 (by decide) ?_
    refine lv_icmp_ne (tgt := 74) hx hb dX8_ruling_36 (by decide) (fun c_36 => ?_) (fun c_36 => ?_)
    · refine lv_aload_n hx hb dX8_ruling_74 rfl (lv_at hl 2 rfl) ?_
      refine fg_X8_7 X h dX8_ruling_75 ?_
      refine lv_iload hx hb dX8_ruling_78 (lv_at hl 0 rfl) ?_
      refine lv_iconst (v := nI 1) hx hb dX8_ruling_80 (by decide) ?_
      refine lv_iadd hx hb dX8_ruling_81 ?_
      refine lv_as (y := nI (3 * g + 553)) (nI_addc (by omega)) ?_
      refine rs_ld X h 0 (3 * g + 553) (congrArg nI (by omega)) (by omega) dX8_ruling_82 ?_
      refine lv_as (y := r (3 * g + 553)) (congrFun hrow _) ?_
      refine lv_aload_n hx hb dX8_ruling_83 rfl (lv_at hl 2 rfl) ?_
      refine fg_X8_7 X h dX8_ruling_84 ?_
      refine lv_iload_n hx hb dX8_ruling_87 rfl (lv_at hl 1 rfl) ?_
      refine lv_iconst (v := nI 1) hx hb dX8_ruling_88 (by decide) ?_
      refine lv_iadd hx hb dX8_ruling_89 ?_
      refine lv_as (y := nI (60 * a + 3 * g + 193)) (nI_addc (by omega)) ?_
      refine rs_ld X h 0 (60 * a + 3 * g + 193) (congrArg nI (by omega)) (by omega) dX8_ruling_90 ?_
      refine lv_as (y := r (60 * a + 3 * g + 193)) (congrFun hrow _) ?_
      refine lv_icmp_le (tgt := 99) hx hb dX8_ruling_91 (by decide) (fun c_91 => ?_) (fun c_91 => ?_)
      · refine lv_iload_n hx hb dX8_ruling_99 rfl (lv_at hl 3 rfl) ?_
        exact hret (nI a) G _ _ 100 _ (⟨by unfold rulO; rw [if_neg (fun q => q.elim c_24 c_36), if_neg (Int32.not_lt.mpr c_91)]; rfl, rfl⟩) h dX8_ruling_100
      · refine lv_bipush (v := nI 6) hx hb dX8_ruling_94 (by decide) ?_
        refine lv_goto (tgt := 100) hx hb dX8_ruling_96 (by decide) ?_
        exact hret (nI 6) G _ _ 100 _ (⟨by unfold rulO; rw [if_neg (fun q => q.elim c_24 c_36), if_pos (Int32.not_le.mp c_91)]; rfl, rfl⟩) h dX8_ruling_100
    · refine lv_aload_n hx hb dX8_ruling_39 rfl (lv_at hl 2 rfl) ?_
      refine fg_X8_7 X h dX8_ruling_40 ?_
      refine lv_iload_n hx hb dX8_ruling_43 rfl (lv_at hl 1 rfl) ?_
      refine rs_ld X h 0 (60 * a + 3 * g + 192) (congrArg nI (by omega)) (by omega) dX8_ruling_44 ?_
      refine lv_as (y := r (60 * a + 3 * g + 192)) (congrFun hrow _) ?_
      refine lv_bipush (v := (-5)) hx hb dX8_ruling_45 (by decide) ?_
      refine lv_icmp_eq (tgt := 54) hx hb dX8_ruling_47 (by decide) (fun c_47 => ?_) (fun c_47 => ?_)
      · refine lv_aload_n hx hb dX8_ruling_54 rfl (lv_at hl 2 rfl) ?_
        refine fg_X8_7 X h dX8_ruling_55 ?_
        refine lv_iload hx hb dX8_ruling_58 (lv_at hl 0 rfl) ?_
        refine rs_ld X h 0 (3 * g + 552) (congrArg nI (by omega)) (by omega) dX8_ruling_60 ?_
        refine lv_as (y := r (3 * g + 552)) (congrFun hrow _) ?_
        refine lv_bipush (v := (-5)) hx hb dX8_ruling_61 (by decide) ?_
        refine lv_icmp_eq (tgt := 71) hx hb dX8_ruling_63 (by decide) (fun c_63 => ?_) (fun c_63 => ?_)
        · refine lv_bipush (v := (-5)) hx hb dX8_ruling_71 (by decide) ?_
          exact hret (-5) G _ _ 73 _ (⟨absurd c_47 c_24, rfl⟩) h dX8_ruling_73
        · refine lv_bipush (v := nI 6) hx hb dX8_ruling_66 (by decide) ?_
          refine lv_goto (tgt := 73) hx hb dX8_ruling_68 (by decide) ?_
          exact hret (nI 6) G _ _ 73 _ (⟨absurd c_47 c_24, rfl⟩) h dX8_ruling_73
      · refine lv_iload_n hx hb dX8_ruling_50 rfl (lv_at hl 3 rfl) ?_
        refine lv_goto (tgt := 73) hx hb dX8_ruling_51 (by decide) ?_
        exact hret (nI a) G _ _ 73 _ (⟨by unfold rulO; rw [if_pos (Or.inr c_36), if_neg c_24]; rfl, rfl⟩) h dX8_ruling_73
set_option maxHeartbeats 4000000 in
set_option maxRecDepth 100000 in
theorem c_X8_isAllowed (l : Launch) (J : JJ) (z : Nat) (ad : Nat → Nat) (G : GG) (r : Nat → Int32) (hrow : rwS (G 211) 0 = r) (hW : WR r) (a g : Nat) (ha6 : a < 6) (hg : g < 20) : MI l J z ad yX8_isAllowed cX8_isAllowed 4 .boolean 2 [.ref (ad 210), .int (nI a), .int (nI g)] G (fun ans uG => ans = (b2 (alw r a g)) ∧ uG = (G)) := by
  refine MZ.go (by decide) (Nat.le_of_ble_eq_true rfl) ?_
  intro pr e s m args below meth c ls Q X h hl hret
  have hx := X.1
  have hb := X.2.1
  have hown := X.2.2.2.1
  have hts := X.2.2.2.2
  have hl : lv_has ls 4 [(0, .ref (ad 210)), (1, .int (nI a)), (2, .int (nI g))] := hl
  have hW0 := hW
  obtain ⟨⟨w1, w2⟩, ⟨w3, w4⟩, ⟨w5, w6⟩, w7, w8⟩ := hW
  refine lv_aload_n hx hb dX8_isAllowed_0 rfl (lv_at hl 0 rfl) ?_
  refine lv_iload_n hx hb dX8_isAllowed_1 rfl (lv_at hl 1 rfl) ?_
  refine lv_iload_n hx hb dX8_isAllowed_2 rfl (lv_at hl 2 rfl) ?_
  refine rg_civd (As := [.int (nI a), .int (nI g)]) (rest := []) X hl.1 h (c_X8_ruling l J z ad G r hrow hW0 a g (by omega) (by omega)) mw_676 mw_677 mw_678 mw_5 mw_679 pdX8_ruling (by decide) (xo_210 J ad _) rfl rfl ⟨Nat.le_of_ble_eq_true rfl, Nat.le_of_ble_eq_true rfl⟩ ⟨Nat.le_of_ble_eq_true rfl, Nat.le_of_ble_eq_true rfl⟩ rfl (Nat.le_of_ble_eq_true rfl) dX8_isAllowed_3 (fun H locs h => ?_)
  refine lv_istore_n (lv' := [(3, .int (opI (rulO r a g))), (0, .ref (ad 210)), (1, .int (nI a)), (2, .int (nI g))]) hx hb dX8_isAllowed_6 rfl hl (by decide) rfl (fun ls hl => ?_)
  refine lv_iload_n hx hb dX8_isAllowed_7 rfl (lv_at hl 0 rfl) ?_
  refine lv_bipush (v := (-5)) hx hb dX8_isAllowed_8 (by decide) ?_
  refine lv_icmp_eq (tgt := 28) hx hb dX8_isAllowed_10 (by decide) (fun c_10 => ?_) (fun c_10 => ?_)
  · rw [opI_n (fun k hk => by have := rulO_lt hk; omega)] at c_10
    refine lv_iconst (v := nI 1) hx hb dX8_isAllowed_28 (by decide) ?_
    refine lv_goto (tgt := 33) hx hb dX8_isAllowed_29 (by decide) ?_
    exact hret (nI 1) G _ _ 33 _ (⟨(b2_t (by first | exact Or.inl c_10 | exact Or.inr ⟨a2, hk, c_25⟩)).symm, rfl⟩) h rfl dX8_isAllowed_33
  · rw [opI_n (fun k hk => by have := rulO_lt hk; omega)] at c_10
    obtain ⟨a2, hk⟩ := Option.ne_none_iff_exists'.mp c_10
    have hk6 := rulO_lt hk
    rw [hk] at hl
    have hl : lv_has ls 4 [(3, .int (nI a2)), (0, .ref (ad 210)), (1, .int (nI a)), (2, .int (nI g))] := hl
    refine lv_aload_n hx hb dX8_isAllowed_13 rfl (lv_at hl 1 rfl) ?_
    refine fg_X8_7 X h dX8_isAllowed_14 ?_
    refine lv_iconst (v := nI 0) hx hb dX8_isAllowed_17 (by decide) ?_
    refine lv_iload_n hx hb dX8_isAllowed_18 rfl (lv_at hl 0 rfl) ?_
    refine lv_iload_n hx hb dX8_isAllowed_19 rfl (lv_at hl 3 rfl) ?_
    refine rg_cisd (As := [.int (nI 0), .int (nI a2), .int (nI g)]) (rest := [.ref (ad 211)]) X hl.1 h (c_X8_bylawAt l J z ad G 0 a2 g) mw_386 mw_387 mw_5 mw_388 pdX8_bylawAt ⟨Nat.le_of_ble_eq_true rfl, Nat.le_of_ble_eq_true rfl⟩ ⟨Nat.le_of_ble_eq_true rfl, Nat.le_of_ble_eq_true rfl⟩ rfl (Nat.le_of_ble_eq_true rfl) dX8_isAllowed_20 (fun H locs h => ?_)
    refine lv_as (y := nI (60 * a2 + 3 * g + 192)) (congrArg nI (by omega)) ?_
    refine rs_ld X h 0 (60 * a2 + 3 * g + 192) (congrArg nI (by omega)) (by omega) dX8_isAllowed_23 ?_
    refine lv_as (y := r (60 * a2 + 3 * g + 192)) (congrFun hrow _) ?_
    refine lv_iconst (v := nI 1) hx hb dX8_isAllowed_24 (by decide) ?_
    refine lv_icmp_ne (tgt := 32) hx hb dX8_isAllowed_25 (by decide) (fun c_25 => ?_) (fun c_25 => ?_)
    · refine lv_iconst (v := nI 0) hx hb dX8_isAllowed_32 (by decide) ?_
      exact hret (nI 0) G _ _ 33 _ (⟨(b2_f (fun q => by rcases q with q | ⟨k2, q1, q2⟩; exact c_10 q; rw [hk] at q1; cases q1; exact c_25 q2)).symm, rfl⟩) h rfl dX8_isAllowed_33
    · refine lv_iconst (v := nI 1) hx hb dX8_isAllowed_28 (by decide) ?_
      refine lv_goto (tgt := 33) hx hb dX8_isAllowed_29 (by decide) ?_
      exact hret (nI 1) G _ _ 33 _ (⟨(b2_t (by first | exact Or.inl c_10 | exact Or.inr ⟨a2, hk, c_25⟩)).symm, rfl⟩) h rfl dX8_isAllowed_33
