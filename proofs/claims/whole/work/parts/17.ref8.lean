
noncomputable def drA (r : Nat → Int32) (d x : Int32) : Int32 := cif (isN d (kn r)) (cif (inN x 0 2) (r (6 * (tn d) + tn x + 12)) (if x = nI 3 then sc2 r d else cif (inN x 4 6) (r (6 * (tn d) + tn x + 11)) (-2))) (-1)
def byB (r : Nat → Int32) (y : Int32) (k : Nat) : Int32 := if y = 0 then nI (k / 20) else if y = nI 1 then nI (k % 20) else if y = nI 5 then wgt r (nI (k / 20)) else r (tn y + 3 * k + 190)
noncomputable def byA (r : Nat → Int32) (x y : Int32) : Int32 := cif (¬ x < 0 ∧ inN y 0 5) (match rkd r x with
  | none => -5
  | some k => byB r y k) (-2)
noncomputable def ptoA (r : Nat → Int32) (q x : Int32) : Int32 := cif (isN q (mn r)) (cif (inN x 0 3) (r (5 * (tn q) + tn x + 84)) (if x = nI 4 then supp r (tn q) else if x = nI 5 then r (5 * (tn q) + 88) else (-2))) (-1)
noncomputable def ruA (r : Nat → Int32) (a g x : Int32) : Int32 := cif (isN a 6 ∧ isN g 20) (if x = nI 0 then b2 (alw r (tn a) (tn g)) else if x = nI 1 then opI (rulO r (tn a) (tn g)) else if x = nI 2 then (match rulO r (tn a) (tn g) with
  | none => -5
  | some k => r (60 * k + 3 * (tn g) + 193)) else (-2)) (-1)
noncomputable def laA (r : Nat → Int32) (q : Int32) : Int32 := cif (isN q (mn r)) (opI (lackO r (tn q))) (-1)
noncomputable def olA (r : Nat → Int32) (d x : Int32) : Int32 := cif (isN d (kn r)) (cif (inN x 0 1) (match oldI r (dc r (tn d)) 140 with
  | none => -5
  | some k => if x = 0 then nI (cnt (LW r) k) else r (3 * k + 194)) (-2)) (-1)

theorem rul_of {r : Nat → Int32} {a g k : Nat} (h : rulO r a g = some k) : opI (rulO r a g) = nI k := by rw [h]; rfl
theorem rul_is {r : Nat → Int32} {a k : Nat} (h : opI (rulO r a (k % 20)) = nI (k / 20)) (ha : a < 6 := by omega) (hk : k < 140 := by omega) : rulO r a (k % 20) = some (k / 20) := by
  cases e : rulO r a (k % 20) with
  | none =>
    rw [e] at h
    have h2 : (-5 : Int32).toInt = (nI (k / 20)).toInt := congrArg Int32.toInt h
    rw [nI_toInt (by omega)] at h2
    have : (-5 : Int32).toInt = -5 := by decide
    omega
  | some j =>
    have hj := rulO_lt e
    rw [e] at h
    rw [(nI_eq (show j < 2 ^ 31 by omega) (show k / 20 < 2 ^ 31 by omega)).mp h]

theorem fst_lt {P : Nat → Prop} : ∀ {n k : Nat}, fst P n = some k → k < n := by
  intro n
  induction n with
  | zero => intro k h; cases h
  | succ n ih =>
    intro k h
    unfold fst at h
    cases e : fst P n with
    | none =>
      rw [e] at h
      by_cases g : P n
      · have h2 : cif (P n) (some n) none = some k := h
        rw [cif_t g] at h2
        cases h2
        omega
      · have h2 : cif (P n) (some n) none = some k := h
        rw [cif_f g] at h2
        cases h2
    | some j =>
      rw [e] at h
      cases h
      have := ih e
      omega
theorem rkd_lt {r : Nat → Int32} {x : Int32} {k : Nat} (h : rkd r x = some k) : k < 140 := fst_lt h
set_option maxHeartbeats 4000000 in
set_option maxRecDepth 100000 in
theorem c_X8_oldestAt (l : Launch) (J : JJ) (z : Nat) (ad : Nat → Nat) (G : GG) (r : Nat → Int32) (hrow : rwS (G 211) 0 = r) (hW : WR r) (a : Nat) (ha6 : a < 6) : MI l J z ad yX8_oldestAt cX8_oldestAt 5 .int 2 [.ref (ad 210), .int (nI a)] G (fun ans uG => ans = (opI (oldI r a 140)) ∧ uG = (G)) := by
  refine MI.go (by decide) (Nat.le_of_ble_eq_true rfl) ?_
  intro pr e s m args below meth c ls Q X h hl hret
  have hx := X.1
  have hb := X.2.1
  have hown := X.2.2.2.1
  have hts := X.2.2.2.2
  have hl : lv_has ls 5 [(0, .ref (ad 210)), (1, .int (nI a))] := hl
  have hW0 := hW
  obtain ⟨⟨w1, w2⟩, ⟨w3, w4⟩, ⟨w5, w6⟩, w7, w8⟩ := hW
  refine lv_bipush (v := (-5)) hx hb dX8_oldestAt_0 (by decide) ?_
  refine lv_istore_n (lv' := [(2, .int ((-5))), (0, .ref (ad 210)), (1, .int (nI a))]) hx hb dX8_oldestAt_2 rfl hl (by decide) rfl (fun ls hl => ?_)
  refine lv_iconst (v := nI 0) hx hb dX8_oldestAt_3 (by decide) ?_
  refine lv_istore_n (lv' := [(3, .int (nI 0)), (2, .int ((-5))), (0, .ref (ad 210)), (1, .int (nI a))]) hx hb dX8_oldestAt_4 rfl hl (by decide) rfl (fun ls hl => ?_)
  have LP_5 : ∀ (k_5 i_5 : Nat), 140 + 1 ≤ i_5 + k_5 → i_5 ≤ 140 → ∀ (H : Heap) (locs : List Loc) (ls : Array Slot), HG J z ad s G H locs → lv_has ls 5 [(0, .ref (ad 210)), (1, .int (nI a)), (2, .int (opI (oldI r a i_5))), (3, .int (nI i_5))] → W pr l e (rmD 2 0 0) s m args below meth c H locs 0 0 Q (F0 m 5 ls []) := by
    intro k_5
    induction k_5 with
    | zero =>
      intro i_5 g1 g2
      exact absurd g1 (by omega)
    | succ k_5 ih_5 =>
      intro i_5 g1_5 g2_5  H locs ls h hl
      refine lv_iload_n hx hb dX8_oldestAt_5 rfl (lv_at hl 3 rfl) ?_
      refine lv_sipush (v := nI 140) hx hb dX8_oldestAt_6 (by decide) ?_
      refine lv_icmp_ge (tgt := 89) hx hb dX8_oldestAt_9 (by decide) (fun c_9 => ?_) (fun c_9 => ?_)
      · rw [nI_leI (by omega) (by omega)] at c_9
        refine lv_iload_n hx hb dX8_oldestAt_89 rfl (lv_at hl 2 rfl) ?_
        exact hret (opI (oldI r a i_5)) G _ _ 90 _ (⟨by rw [show i_5 = 140 by omega], rfl⟩) h dX8_oldestAt_90
      · rw [nI_leI (by omega) (by omega)] at c_9
        refine lv_aload_n hx hb dX8_oldestAt_12 rfl (lv_at hl 0 rfl) ?_
        refine lv_iload_n hx hb dX8_oldestAt_13 rfl (lv_at hl 1 rfl) ?_
        refine lv_iload_n hx hb dX8_oldestAt_14 rfl (lv_at hl 3 rfl) ?_
        refine lv_bipush (v := nI 20) hx hb dX8_oldestAt_15 (by decide) ?_
        refine lv_irem hx hb dX8_oldestAt_17 (by decide) ?_
        refine lv_as (y := nI ((i_5 % 20))) (pk_rem (by omega) (by omega) (by omega)) ?_
        refine rg_civd (As := [.int (nI a), .int (nI ((i_5 % 20)))]) (rest := []) X hl.1 h (c_X8_ruling l J z ad G r hrow hW0 a (i_5 % 20) (by omega) (by omega)) mw_676 mw_677 mw_678 mw_5 mw_679 pdX8_ruling (by decide) (xo_210 J ad _) rfl rfl ⟨Nat.le_of_ble_eq_true rfl, Nat.le_of_ble_eq_true rfl⟩ ⟨Nat.le_of_ble_eq_true rfl, Nat.le_of_ble_eq_true rfl⟩ rfl (Nat.le_of_ble_eq_true rfl) dX8_oldestAt_18 (fun H locs h => ?_)
        refine lv_iload_n hx hb dX8_oldestAt_21 rfl (lv_at hl 3 rfl) ?_
        refine lv_bipush (v := nI 20) hx hb dX8_oldestAt_22 (by decide) ?_
        refine lv_idiv hx hb dX8_oldestAt_24 (by decide) ?_
        refine lv_as (y := nI ((i_5 / 20))) (pk_div (by omega) (by omega) (by omega)) ?_
        refine lv_icmp_ne (tgt := 32) hx hb dX8_oldestAt_25 (by decide) (fun c_25 => ?_) (fun c_25 => ?_)
        · refine lv_iconst (v := nI 0) hx hb dX8_oldestAt_32 (by decide) ?_
          refine lv_istore (lv' := [(4, .int (nI 0)), (0, .ref (ad 210)), (1, .int (nI a)), (2, .int (opI (oldI r a i_5))), (3, .int (nI i_5))]) hx hb dX8_oldestAt_33 hl (by decide) rfl (fun ls hl => ?_)
          refine lv_iload hx hb dX8_oldestAt_35 (lv_at hl 0 rfl) ?_
          refine lv_if_eq (tgt := 81) hx hb dX8_oldestAt_37 (by decide) (fun c_37 => ?_) (fun c_37 => absurd (by decide) c_37)
          refine lv_iload_n hx hb dX8_oldestAt_81 rfl (lv_at hl 3 rfl) ?_
          refine lv_as (y := opI (oldI r a (i_5 + 1))) (by show _ = opI (cif _ _ _); rw [cif_f (fun q => c_25 (rul_of q.1))]; rfl) ?_
          refine lv_istore_n (lv' := [(2, .int (opI (oldI r a (i_5 + 1)))), (4, .int (nI 0)), (0, .ref (ad 210)), (1, .int (nI a)), (3, .int (nI i_5))]) hx hb dX8_oldestAt_82 rfl hl (by decide) rfl (fun ls hl => ?_)
          refine lv_iinc (v := nI (i_5 + 1)) (lv' := [(3, .int (nI (i_5 + 1))), (2, .int (opI (oldI r a (i_5 + 1)))), (4, .int (nI 0)), (0, .ref (ad 210)), (1, .int (nI a))]) hx hb dX8_oldestAt_83 hl (k := 4) rfl (nI_addc (b := 1) (by omega)) (by decide) rfl (fun ls hl => ?_)
          refine lv_goto (tgt := 5) hx hb dX8_oldestAt_86 (by decide) ?_
          exact ih_5 (i_5 + 1) (by omega) (by omega) _ _ _ h (lv_sub hl [3, 4, 1, 0] rfl)
        · refine lv_iconst (v := nI 1) hx hb dX8_oldestAt_28 (by decide) ?_
          refine lv_goto (tgt := 33) hx hb dX8_oldestAt_29 (by decide) ?_
          refine lv_istore (lv' := [(4, .int (nI 1)), (0, .ref (ad 210)), (1, .int (nI a)), (2, .int (opI (oldI r a i_5))), (3, .int (nI i_5))]) hx hb dX8_oldestAt_33 hl (by decide) rfl (fun ls hl => ?_)
          refine lv_iload hx hb dX8_oldestAt_35 (lv_at hl 0 rfl) ?_
          refine lv_if_eq (tgt := 81) hx hb dX8_oldestAt_37 (by decide) (fun c_37 => absurd c_37 (by decide)) (fun c_37 => ?_)
          refine lv_iload_n hx hb dX8_oldestAt_40 rfl (lv_at hl 3 rfl) ?_
          refine lv_bipush (v := (-5)) hx hb dX8_oldestAt_41 (by decide) ?_
          refine lv_icmp_eq (tgt := 77) hx hb dX8_oldestAt_43 (by decide) (fun c_43 => ?_) (fun c_43 => ?_)
          · rw [opI_n (fun k hk => by have := oldI_lt hk; omega)] at c_43
            refine lv_iload_n hx hb dX8_oldestAt_77 rfl (lv_at hl 4 rfl) ?_
            refine lv_goto (tgt := 82) hx hb dX8_oldestAt_78 (by decide) ?_
            refine lv_as (y := opI (oldI r a (i_5 + 1))) (by show _ = opI (cif _ _ _); rw [cif_t ⟨rul_is c_25, by first | exact Or.inl c_43 | exact Or.inr ⟨j, hj, Int32.not_le.mp c_74⟩⟩]; rfl) ?_
            refine lv_istore_n (lv' := [(2, .int (opI (oldI r a (i_5 + 1)))), (4, .int (nI 1)), (0, .ref (ad 210)), (1, .int (nI a)), (3, .int (nI i_5))]) hx hb dX8_oldestAt_82 rfl hl (by decide) rfl (fun ls hl => ?_)
            refine lv_iinc (v := nI (i_5 + 1)) (lv' := [(3, .int (nI (i_5 + 1))), (2, .int (opI (oldI r a (i_5 + 1)))), (4, .int (nI 1)), (0, .ref (ad 210)), (1, .int (nI a))]) hx hb dX8_oldestAt_83 hl (k := 4) rfl (nI_addc (b := 1) (by omega)) (by decide) rfl (fun ls hl => ?_)
            refine lv_goto (tgt := 5) hx hb dX8_oldestAt_86 (by decide) ?_
            exact ih_5 (i_5 + 1) (by omega) (by omega) _ _ _ h (lv_sub hl [3, 4, 1, 0] rfl)
          · rw [opI_n (fun k hk => by have := oldI_lt hk; omega)] at c_43
            obtain ⟨j, hj⟩ := Option.ne_none_iff_exists'.mp c_43
            have hj2 := oldI_lt hj
            rw [hj] at hl
            have hl : lv_has ls 5 [(4, .int (nI 1)), (0, .ref (ad 210)), (1, .int (nI a)), (2, .int (nI j)), (3, .int (nI i_5))] := hl
            refine lv_aload_n hx hb dX8_oldestAt_46 rfl (lv_at hl 1 rfl) ?_
            refine fg_X8_7 X h dX8_oldestAt_47 ?_
            refine lv_sipush (v := nI 192) hx hb dX8_oldestAt_50 (by decide) ?_
            refine lv_iconst (v := nI 3) hx hb dX8_oldestAt_53 (by decide) ?_
            refine lv_iload_n hx hb dX8_oldestAt_54 rfl (lv_at hl 4 rfl) ?_
            refine lv_imul hx hb dX8_oldestAt_55 ?_
            refine lv_as (y := nI (3 * i_5)) (nI_mulc (by omega)) ?_
            refine lv_iadd hx hb dX8_oldestAt_56 ?_
            refine lv_as (y := nI (3 * i_5 + 192)) (nI_addc (by omega)) ?_
            refine lv_iconst (v := nI 2) hx hb dX8_oldestAt_57 (by decide) ?_
            refine lv_iadd hx hb dX8_oldestAt_58 ?_
            refine lv_as (y := nI (3 * i_5 + 194)) (nI_addc (by omega)) ?_
            refine rs_ld X h 0 (3 * i_5 + 194) (congrArg nI (by omega)) (by omega) dX8_oldestAt_59 ?_
            refine lv_as (y := r (3 * i_5 + 194)) (congrFun hrow _) ?_
            refine lv_aload_n hx hb dX8_oldestAt_60 rfl (lv_at hl 1 rfl) ?_
            refine fg_X8_7 X h dX8_oldestAt_61 ?_
            refine lv_sipush (v := nI 192) hx hb dX8_oldestAt_64 (by decide) ?_
            refine lv_iconst (v := nI 3) hx hb dX8_oldestAt_67 (by decide) ?_
            refine lv_iload_n hx hb dX8_oldestAt_68 rfl (lv_at hl 3 rfl) ?_
            refine lv_imul hx hb dX8_oldestAt_69 ?_
            refine lv_as (y := nI (3 * j)) (nI_mulc (by omega)) ?_
            refine lv_iadd hx hb dX8_oldestAt_70 ?_
            refine lv_as (y := nI (3 * j + 192)) (nI_addc (by omega)) ?_
            refine lv_iconst (v := nI 2) hx hb dX8_oldestAt_71 (by decide) ?_
            refine lv_iadd hx hb dX8_oldestAt_72 ?_
            refine lv_as (y := nI (3 * j + 194)) (nI_addc (by omega)) ?_
            refine rs_ld X h 0 (3 * j + 194) (congrArg nI (by omega)) (by omega) dX8_oldestAt_73 ?_
            refine lv_as (y := r (3 * j + 194)) (congrFun hrow _) ?_
            refine lv_icmp_ge (tgt := 81) hx hb dX8_oldestAt_74 (by decide) (fun c_74 => ?_) (fun c_74 => ?_)
            · refine lv_iload_n hx hb dX8_oldestAt_81 rfl (lv_at hl 3 rfl) ?_
              refine lv_as (y := opI (oldI r a (i_5 + 1))) (by show _ = opI (cif _ _ _); rw [cif_f (fun q => by rcases q.2 with q2 | ⟨j2, q2, q3⟩; exact c_43 q2; have q4 : some j = some j2 := hj.symm.trans q2; cases q4; exact absurd q3 (Int32.not_lt.mpr c_74))]; exact (congrArg opI hj).symm) ?_
              refine lv_istore_n (lv' := [(2, .int (opI (oldI r a (i_5 + 1)))), (4, .int (nI 1)), (0, .ref (ad 210)), (1, .int (nI a)), (3, .int (nI i_5))]) hx hb dX8_oldestAt_82 rfl hl (by decide) rfl (fun ls hl => ?_)
              refine lv_iinc (v := nI (i_5 + 1)) (lv' := [(3, .int (nI (i_5 + 1))), (2, .int (opI (oldI r a (i_5 + 1)))), (4, .int (nI 1)), (0, .ref (ad 210)), (1, .int (nI a))]) hx hb dX8_oldestAt_83 hl (k := 4) rfl (nI_addc (b := 1) (by omega)) (by decide) rfl (fun ls hl => ?_)
              refine lv_goto (tgt := 5) hx hb dX8_oldestAt_86 (by decide) ?_
              exact ih_5 (i_5 + 1) (by omega) (by omega) _ _ _ h (lv_sub hl [3, 4, 1, 0] rfl)
            · refine lv_iload_n hx hb dX8_oldestAt_77 rfl (lv_at hl 4 rfl) ?_
              refine lv_goto (tgt := 82) hx hb dX8_oldestAt_78 (by decide) ?_
              refine lv_as (y := opI (oldI r a (i_5 + 1))) (by show _ = opI (cif _ _ _); rw [cif_t ⟨rul_is c_25, by first | exact Or.inl c_43 | exact Or.inr ⟨j, hj, Int32.not_le.mp c_74⟩⟩]; rfl) ?_
              refine lv_istore_n (lv' := [(2, .int (opI (oldI r a (i_5 + 1)))), (4, .int (nI 1)), (0, .ref (ad 210)), (1, .int (nI a)), (3, .int (nI i_5))]) hx hb dX8_oldestAt_82 rfl hl (by decide) rfl (fun ls hl => ?_)
              refine lv_iinc (v := nI (i_5 + 1)) (lv' := [(3, .int (nI (i_5 + 1))), (2, .int (opI (oldI r a (i_5 + 1)))), (4, .int (nI 1)), (0, .ref (ad 210)), (1, .int (nI a))]) hx hb dX8_oldestAt_83 hl (k := 4) rfl (nI_addc (b := 1) (by omega)) (by decide) rfl (fun ls hl => ?_)
              refine lv_goto (tgt := 5) hx hb dX8_oldestAt_86 (by decide) ?_
              exact ih_5 (i_5 + 1) (by omega) (by omega) _ _ _ h (lv_sub hl [3, 4, 1, 0] rfl)
  exact LP_5 (140 + 1) 0 (by omega) (by omega) _ _ _ h (lv_sub hl [2, 3, 1, 0] rfl)
set_option maxHeartbeats 4000000 in
set_option maxRecDepth 100000 in
theorem c_X8_forbiddenAtCombs (l : Launch) (J : JJ) (z : Nat) (ad : Nat → Nat) (G : GG) (r : Nat → Int32) (hrow : rwS (G 211) 0 = r) (hW : WR r)  : MI l J z ad yX8_forbiddenAtCombs cX8_forbiddenAtCombs 3 .int 3 [.ref (ad 210)] G (fun ans uG => ans = (nI (cnt (fun k => ¬ alw r (k / 20) (k % 20)) 120)) ∧ uG = (G)) := by
  refine MI.go (by decide) (Nat.le_of_ble_eq_true rfl) ?_
  intro pr e s m args below meth c ls Q X h hl hret
  have hx := X.1
  have hb := X.2.1
  have hown := X.2.2.2.1
  have hts := X.2.2.2.2
  have hl : lv_has ls 3 [(0, .ref (ad 210))] := hl
  have hW0 := hW
  obtain ⟨⟨w1, w2⟩, ⟨w3, w4⟩, ⟨w5, w6⟩, w7, w8⟩ := hW
  refine lv_iconst (v := nI 0) hx hb dX8_forbiddenAtCombs_0 (by decide) ?_
  refine lv_istore_n (lv' := [(1, .int (nI 0)), (0, .ref (ad 210))]) hx hb dX8_forbiddenAtCombs_1 rfl hl (by decide) rfl (fun ls hl => ?_)
  refine lv_iconst (v := nI 0) hx hb dX8_forbiddenAtCombs_2 (by decide) ?_
  refine lv_istore_n (lv' := [(2, .int (nI 0)), (1, .int (nI 0)), (0, .ref (ad 210))]) hx hb dX8_forbiddenAtCombs_3 rfl hl (by decide) rfl (fun ls hl => ?_)
  have LP_4 : ∀ (k_4 i_4 : Nat), 120 + 1 ≤ i_4 + k_4 → i_4 ≤ 120 → ∀ (H : Heap) (locs : List Loc) (ls : Array Slot), HG J z ad s G H locs → lv_has ls 3 [(0, .ref (ad 210)), (1, .int (nI ((cnt (fun k => ¬ alw r (k / 20) (k % 20)) i_4)))), (2, .int (nI i_4))] → W pr l e (rmD 3 0 0) s m args below meth c H locs 0 0 Q (F0 m 4 ls []) := by
    intro k_4
    induction k_4 with
    | zero =>
      intro i_4 g1 g2
      exact absurd g1 (by omega)
    | succ k_4 ih_4 =>
      intro i_4 g1_4 g2_4  H locs ls h hl
      refine lv_iload_n hx hb dX8_forbiddenAtCombs_4 rfl (lv_at hl 2 rfl) ?_
      refine lv_bipush (v := nI 120) hx hb dX8_forbiddenAtCombs_5 (by decide) ?_
      refine lv_icmp_ge (tgt := 42) hx hb dX8_forbiddenAtCombs_7 (by decide) (fun c_7 => ?_) (fun c_7 => ?_)
      · rw [nI_leI (by omega) (by omega)] at c_7
        refine lv_iload_n hx hb dX8_forbiddenAtCombs_42 rfl (lv_at hl 1 rfl) ?_
        exact hret (nI ((cnt (fun k => ¬ alw r (k / 20) (k % 20)) i_4))) G _ _ 43 _ (⟨by rw [show i_4 = 120 by omega], rfl⟩) h dX8_forbiddenAtCombs_43
      · rw [nI_leI (by omega) (by omega)] at c_7
        refine lv_iload_n hx hb dX8_forbiddenAtCombs_10 rfl (lv_at hl 1 rfl) ?_
        refine lv_aload_n hx hb dX8_forbiddenAtCombs_11 rfl (lv_at hl 0 rfl) ?_
        refine lv_iload_n hx hb dX8_forbiddenAtCombs_12 rfl (lv_at hl 2 rfl) ?_
        refine lv_bipush (v := nI 20) hx hb dX8_forbiddenAtCombs_13 (by decide) ?_
        refine lv_idiv hx hb dX8_forbiddenAtCombs_15 (by decide) ?_
        refine lv_as (y := nI ((i_4 / 20))) (pk_div (by omega) (by omega) (by omega)) ?_
        refine lv_iload_n hx hb dX8_forbiddenAtCombs_16 rfl (lv_at hl 2 rfl) ?_
        refine lv_bipush (v := nI 20) hx hb dX8_forbiddenAtCombs_17 (by decide) ?_
        refine lv_irem hx hb dX8_forbiddenAtCombs_19 (by decide) ?_
        refine lv_as (y := nI ((i_4 % 20))) (pk_rem (by omega) (by omega) (by omega)) ?_
        refine rg_civd (As := [.int (nI ((i_4 / 20))), .int (nI ((i_4 % 20)))]) (rest := [.int (nI ((cnt (fun k => ¬ alw r (k / 20) (k % 20)) i_4)))]) X hl.1 h (c_X8_isAllowed l J z ad G r hrow hW0 (i_4 / 20) (i_4 % 20) (by omega) (by omega)) mw_680 mw_681 mw_682 mw_5 mw_683 pdX8_isAllowed (by decide) (xo_210 J ad _) rfl rfl ⟨Nat.le_of_ble_eq_true rfl, Nat.le_of_ble_eq_true rfl⟩ ⟨Nat.le_of_ble_eq_true rfl, Nat.le_of_ble_eq_true rfl⟩ rfl (Nat.le_of_ble_eq_true rfl) dX8_forbiddenAtCombs_20 (fun H locs h => ?_)
        refine lv_if_ne (tgt := 30) hx hb dX8_forbiddenAtCombs_23 (by decide) (fun c_23 => ?_) (fun c_23 => ?_)
        · rw [b2_z] at c_23
          refine lv_iconst (v := nI 0) hx hb dX8_forbiddenAtCombs_30 (by decide) ?_
          refine rg_cisd (As := [.int (nI 0)]) (rest := [.int (nI ((cnt (fun k => ¬ alw r (k / 20) (k % 20)) i_4)))]) X hl.1 h (c_X8_flag0 l J z ad G) mw_401 mw_402 mw_5 mw_403 pdX8_flag ⟨Nat.le_of_ble_eq_true rfl, Nat.le_of_ble_eq_true rfl⟩ ⟨Nat.le_of_ble_eq_true rfl, Nat.le_of_ble_eq_true rfl⟩ rfl (Nat.le_of_ble_eq_true rfl) dX8_forbiddenAtCombs_31 (fun H locs h => ?_)
          refine lv_iadd hx hb dX8_forbiddenAtCombs_34 ?_
          refine lv_as (y := nI ((cnt (fun k => ¬ alw r (k / 20) (k % 20)) i_4))) (nI_addc (by omega)) ?_
          refine lv_as (y := nI (cnt (fun k => ¬ alw r (k / 20) (k % 20)) (i_4 + 1))) (congrArg nI (cnt_f (fun q => q (Classical.not_not.mp c_23))).symm) ?_
          refine lv_istore_n (lv' := [(1, .int (nI ((cnt (fun k => ¬ alw r (k / 20) (k % 20)) (i_4 + 1))))), (0, .ref (ad 210)), (2, .int (nI i_4))]) hx hb dX8_forbiddenAtCombs_35 rfl hl (by decide) rfl (fun ls hl => ?_)
          refine lv_iinc (v := nI (i_4 + 1)) (lv' := [(2, .int (nI (i_4 + 1))), (1, .int (nI ((cnt (fun k => ¬ alw r (k / 20) (k % 20)) (i_4 + 1))))), (0, .ref (ad 210))]) hx hb dX8_forbiddenAtCombs_36 hl (k := 2) rfl (nI_addc (b := 1) (by omega)) (by decide) rfl (fun ls hl => ?_)
          refine lv_goto (tgt := 4) hx hb dX8_forbiddenAtCombs_39 (by decide) ?_
          exact ih_4 (i_4 + 1) (by omega) (by omega) _ _ _ h (lv_sub hl [2, 1, 0] rfl)
        · rw [b2_z] at c_23
          refine lv_iconst (v := nI 1) hx hb dX8_forbiddenAtCombs_26 (by decide) ?_
          refine lv_goto (tgt := 31) hx hb dX8_forbiddenAtCombs_27 (by decide) ?_
          refine rg_cisd (As := [.int (nI 1)]) (rest := [.int (nI ((cnt (fun k => ¬ alw r (k / 20) (k % 20)) i_4)))]) X hl.1 h (c_X8_flag1 l J z ad G) mw_401 mw_402 mw_5 mw_403 pdX8_flag ⟨Nat.le_of_ble_eq_true rfl, Nat.le_of_ble_eq_true rfl⟩ ⟨Nat.le_of_ble_eq_true rfl, Nat.le_of_ble_eq_true rfl⟩ rfl (Nat.le_of_ble_eq_true rfl) dX8_forbiddenAtCombs_31 (fun H locs h => ?_)
          refine lv_iadd hx hb dX8_forbiddenAtCombs_34 ?_
          refine lv_as (y := nI ((cnt (fun k => ¬ alw r (k / 20) (k % 20)) i_4) + 1)) (nI_addc (by omega)) ?_
          refine lv_as (y := nI (cnt (fun k => ¬ alw r (k / 20) (k % 20)) (i_4 + 1))) (congrArg nI (cnt_t (c_23)).symm) ?_
          refine lv_istore_n (lv' := [(1, .int (nI ((cnt (fun k => ¬ alw r (k / 20) (k % 20)) (i_4 + 1))))), (0, .ref (ad 210)), (2, .int (nI i_4))]) hx hb dX8_forbiddenAtCombs_35 rfl hl (by decide) rfl (fun ls hl => ?_)
          refine lv_iinc (v := nI (i_4 + 1)) (lv' := [(2, .int (nI (i_4 + 1))), (1, .int (nI ((cnt (fun k => ¬ alw r (k / 20) (k % 20)) (i_4 + 1))))), (0, .ref (ad 210))]) hx hb dX8_forbiddenAtCombs_36 hl (k := 2) rfl (nI_addc (b := 1) (by omega)) (by decide) rfl (fun ls hl => ?_)
          refine lv_goto (tgt := 4) hx hb dX8_forbiddenAtCombs_39 (by decide) ?_
          exact ih_4 (i_4 + 1) (by omega) (by omega) _ _ _ h (lv_sub hl [2, 1, 0] rfl)
  exact LP_4 (120 + 1) 0 (by omega) (by omega) _ _ _ h (lv_sub hl [2, 1, 0] rfl)
set_option maxHeartbeats 4000000 in
set_option maxRecDepth 100000 in
theorem c_X8_drone (l : Launch) (J : JJ) (z : Nat) (ad : Nat → Nat) (G : GG) (r : Nat → Int32) (hrow : rwS (G 211) 0 = r) (hW : WR r) (d x : Int32) : MI l J z ad yX8_drone cX8_drone 3 .int 2 [.ref (ad 210), .int d, .int x] G (fun ans uG => ans = (drA r d x) ∧ uG = (G)) := by
  refine MI.go (by decide) (Nat.le_of_ble_eq_true rfl) ?_
  intro pr e s m args below meth c ls Q X h hl hret
  have hx := X.1
  have hb := X.2.1
  have hown := X.2.2.2.1
  have hts := X.2.2.2.2
  have hl : lv_has ls 3 [(0, .ref (ad 210)), (1, .int d), (2, .int x)] := hl
  have hW0 := hW
  obtain ⟨⟨w1, w2⟩, ⟨w3, w4⟩, ⟨w5, w6⟩, w7, w8⟩ := hW
  refine lv_aload_n hx hb dX8_drone_0 rfl (lv_at hl 0 rfl) ?_
  refine lv_iload_n hx hb dX8_drone_1 rfl (lv_at hl 1 rfl) ?_
  refine rg_civd (As := [.int d]) (rest := []) X hl.1 h (c_X8_isDrone l J z ad G r hrow w1 w2 d) mw_223 mw_224 mw_225 mw_5 mw_226 pdX8_isDrone (by decide) (xo_210 J ad _) rfl rfl ⟨Nat.le_of_ble_eq_true rfl, Nat.le_of_ble_eq_true rfl⟩ ⟨Nat.le_of_ble_eq_true rfl, Nat.le_of_ble_eq_true rfl⟩ rfl (Nat.le_of_ble_eq_true rfl) dX8_drone_2 (fun H locs h => ?_)
  refine lv_if_ne (tgt := 10) hx hb dX8_drone_5 (by decide) (fun c_5 => ?_) (fun c_5 => ?_)
  · rw [b2_z] at c_5
    obtain ⟨D, hD, rfl⟩ := Classical.not_not.mp c_5
    have TD : tn (nI D) = D := tn_nI (by omega)
    refine lv_iload_n hx hb dX8_drone_10 rfl (lv_at hl 2 rfl) ?_
    refine lv_iconst (v := nI 0) hx hb dX8_drone_11 (by decide) ?_
    refine lv_iconst (v := nI 2) hx hb dX8_drone_12 (by decide) ?_
    refine rg_cisd (As := [.int x, .int (nI 0), .int (nI 2)]) (rest := []) X hl.1 h (c_X8_inN l J z ad G x 0 2 (by omega) (by omega)) mw_187 mw_188 mw_5 mw_189 pdX8_in ⟨Nat.le_of_ble_eq_true rfl, Nat.le_of_ble_eq_true rfl⟩ ⟨Nat.le_of_ble_eq_true rfl, Nat.le_of_ble_eq_true rfl⟩ rfl (Nat.le_of_ble_eq_true rfl) dX8_drone_13 (fun H locs h => ?_)
    refine lv_if_eq (tgt := 34) hx hb dX8_drone_16 (by decide) (fun c_16 => ?_) (fun c_16 => ?_)
    · rw [b2_z] at c_16
      refine lv_iload_n hx hb dX8_drone_34 rfl (lv_at hl 2 rfl) ?_
      refine lv_iconst (v := nI 3) hx hb dX8_drone_35 (by decide) ?_
      refine lv_icmp_ne (tgt := 47) hx hb dX8_drone_36 (by decide) (fun c_36 => ?_) (fun c_36 => ?_)
      · refine lv_iload_n hx hb dX8_drone_47 rfl (lv_at hl 2 rfl) ?_
        refine lv_iconst (v := nI 4) hx hb dX8_drone_48 (by decide) ?_
        refine lv_bipush (v := nI 6) hx hb dX8_drone_49 (by decide) ?_
        refine rg_cisd (As := [.int x, .int (nI 4), .int (nI 6)]) (rest := []) X hl.1 h (c_X8_inN l J z ad G x 4 6 (by omega) (by omega)) mw_187 mw_188 mw_5 mw_189 pdX8_in ⟨Nat.le_of_ble_eq_true rfl, Nat.le_of_ble_eq_true rfl⟩ ⟨Nat.le_of_ble_eq_true rfl, Nat.le_of_ble_eq_true rfl⟩ rfl (Nat.le_of_ble_eq_true rfl) dX8_drone_51 (fun H locs h => ?_)
        refine lv_if_eq (tgt := 74) hx hb dX8_drone_54 (by decide) (fun c_54 => ?_) (fun c_54 => ?_)
        · rw [b2_z] at c_54
          refine lv_bipush (v := (-2)) hx hb dX8_drone_74 (by decide) ?_
          exact hret (-2) G _ _ 76 _ (⟨by unfold drA; rw [cif_t ⟨D, hD, rfl⟩, cif_f c_16, if_neg c_36, cif_f c_54], rfl⟩) h dX8_drone_76
        · rw [b2_z] at c_54
          obtain ⟨Y, hY1, hY2, eY⟩ := Classical.not_not.mp c_54
          have TY : tn x = Y := by rw [eY]; exact tn_nI (by omega)
          rw [eY] at hl
          refine lv_aload_n hx hb dX8_drone_57 rfl (lv_at hl 0 rfl) ?_
          refine fg_X8_7 X h dX8_drone_58 ?_
          refine lv_iconst (v := nI 0) hx hb dX8_drone_61 (by decide) ?_
          refine lv_iload_n hx hb dX8_drone_62 rfl (lv_at hl 1 rfl) ?_
          refine rg_cisd (As := [.int (nI 0), .int (nI D)]) (rest := [.ref (ad 211)]) X hl.1 h (c_X8_droneAt l J z ad G 0 D) mw_190 mw_191 mw_5 mw_192 pdX8_droneAt ⟨Nat.le_of_ble_eq_true rfl, Nat.le_of_ble_eq_true rfl⟩ ⟨Nat.le_of_ble_eq_true rfl, Nat.le_of_ble_eq_true rfl⟩ rfl (Nat.le_of_ble_eq_true rfl) dX8_drone_63 (fun H locs h => ?_)
          refine lv_as (y := nI (6 * D + 12)) (congrArg nI (by omega)) ?_
          refine lv_iload_n hx hb dX8_drone_66 rfl (lv_at hl 2 rfl) ?_
          refine lv_iadd hx hb dX8_drone_67 ?_
          refine lv_as (y := nI (6 * D + Y + 12)) (nI_addc (by omega)) ?_
          refine lv_iconst (v := nI 1) hx hb dX8_drone_68 (by decide) ?_
          refine lv_isub hx hb dX8_drone_69 ?_
          refine lv_as (y := nI (6 * D + Y + 11)) (nI_subc (by omega)) ?_
          refine rs_ld X h 0 (6 * D + Y + 11) (congrArg nI (by omega)) (by omega) dX8_drone_70 ?_
          refine lv_as (y := r (6 * D + Y + 11)) (congrFun hrow _) ?_
          refine lv_goto (tgt := 76) hx hb dX8_drone_71 (by decide) ?_
          exact hret (r (6 * D + Y + 11)) G _ _ 76 _ (⟨by unfold drA; rw [cif_t ⟨D, hD, rfl⟩, cif_f c_16, if_neg c_36, cif_t ⟨Y, hY1, hY2, eY⟩, TD, TY], rfl⟩) h dX8_drone_76
      · refine lv_aload_n hx hb dX8_drone_39 rfl (lv_at hl 0 rfl) ?_
        refine lv_iload_n hx hb dX8_drone_40 rfl (lv_at hl 1 rfl) ?_
        refine rg_civd (As := [.int (nI D)]) (rest := []) X hl.1 h (c_X8_secondedBy l J z ad G r hrow hW0 (nI D)) mw_606 mw_607 mw_608 mw_5 mw_609 pdX8_secondedBy (by decide) (xo_210 J ad _) rfl rfl ⟨Nat.le_of_ble_eq_true rfl, Nat.le_of_ble_eq_true rfl⟩ ⟨Nat.le_of_ble_eq_true rfl, Nat.le_of_ble_eq_true rfl⟩ rfl (Nat.le_of_ble_eq_true rfl) dX8_drone_41 (fun H locs h => ?_)
        refine lv_goto (tgt := 76) hx hb dX8_drone_44 (by decide) ?_
        exact hret (sc2 r (nI D)) G _ _ 76 _ (⟨by unfold drA; rw [cif_t ⟨D, hD, rfl⟩, cif_f c_16, if_pos c_36], rfl⟩) h dX8_drone_76
    · rw [b2_z] at c_16
      obtain ⟨Y, hY1, hY2, eY⟩ := Classical.not_not.mp c_16
      have TY : tn x = Y := by rw [eY]; exact tn_nI (by omega)
      rw [eY] at hl
      refine lv_aload_n hx hb dX8_drone_19 rfl (lv_at hl 0 rfl) ?_
      refine fg_X8_7 X h dX8_drone_20 ?_
      refine lv_iconst (v := nI 0) hx hb dX8_drone_23 (by decide) ?_
      refine lv_iload_n hx hb dX8_drone_24 rfl (lv_at hl 1 rfl) ?_
      refine rg_cisd (As := [.int (nI 0), .int (nI D)]) (rest := [.ref (ad 211)]) X hl.1 h (c_X8_droneAt l J z ad G 0 D) mw_190 mw_191 mw_5 mw_192 pdX8_droneAt ⟨Nat.le_of_ble_eq_true rfl, Nat.le_of_ble_eq_true rfl⟩ ⟨Nat.le_of_ble_eq_true rfl, Nat.le_of_ble_eq_true rfl⟩ rfl (Nat.le_of_ble_eq_true rfl) dX8_drone_25 (fun H locs h => ?_)
      refine lv_as (y := nI (6 * D + 12)) (congrArg nI (by omega)) ?_
      refine lv_iload_n hx hb dX8_drone_28 rfl (lv_at hl 2 rfl) ?_
      refine lv_iadd hx hb dX8_drone_29 ?_
      refine lv_as (y := nI (6 * D + Y + 12)) (nI_addc (by omega)) ?_
      refine rs_ld X h 0 (6 * D + Y + 12) (congrArg nI (by omega)) (by omega) dX8_drone_30 ?_
      refine lv_as (y := r (6 * D + Y + 12)) (congrFun hrow _) ?_
      refine lv_goto (tgt := 76) hx hb dX8_drone_31 (by decide) ?_
      exact hret (r (6 * D + Y + 12)) G _ _ 76 _ (⟨by unfold drA; rw [cif_t ⟨D, hD, rfl⟩, cif_t ⟨Y, hY1, hY2, eY⟩, TD, TY], rfl⟩) h dX8_drone_76
  · rw [b2_z] at c_5
    refine lv_iconst (v := (-1)) hx hb dX8_drone_8 (by decide) ?_
    exact hret (-1) G _ _ 9 _ (⟨by unfold drA; rw [cif_f c_5], rfl⟩) h dX8_drone_9
set_option maxHeartbeats 4000000 in
set_option maxRecDepth 100000 in
theorem c_X8_bylaw (l : Launch) (J : JJ) (z : Nat) (ad : Nat → Nat) (G : GG) (r : Nat → Int32) (hrow : rwS (G 211) 0 = r) (hW : WR r) (x y : Int32) : MI l J z ad yX8_bylaw cX8_bylaw 4 .int 2 [.ref (ad 210), .int x, .int y] G (fun ans uG => ans = (byA r x y) ∧ uG = (G)) := by
  refine MI.go (by decide) (Nat.le_of_ble_eq_true rfl) ?_
  intro pr e s m args below meth c ls Q X h hl hret
  have hx := X.1
  have hb := X.2.1
  have hown := X.2.2.2.1
  have hts := X.2.2.2.2
  have hl : lv_has ls 4 [(0, .ref (ad 210)), (1, .int x), (2, .int y)] := hl
  have hW0 := hW
  obtain ⟨⟨w1, w2⟩, ⟨w3, w4⟩, ⟨w5, w6⟩, w7, w8⟩ := hW
  refine lv_iload_n hx hb dX8_bylaw_0 rfl (lv_at hl 1 rfl) ?_
  refine lv_if_lt (tgt := 13) hx hb dX8_bylaw_1 (by decide) (fun c_1 => ?_) (fun c_1 => ?_)
  · refine lv_bipush (v := (-2)) hx hb dX8_bylaw_13 (by decide) ?_
    exact hret (-2) G _ _ 15 _ (⟨by unfold byA; rw [cif_f (fun q => by first | exact q.1 c_1 | exact c_10 q.2)], rfl⟩) h dX8_bylaw_15
  · refine lv_iload_n hx hb dX8_bylaw_4 rfl (lv_at hl 2 rfl) ?_
    refine lv_iconst (v := nI 0) hx hb dX8_bylaw_5 (by decide) ?_
    refine lv_iconst (v := nI 5) hx hb dX8_bylaw_6 (by decide) ?_
    refine rg_cisd (As := [.int y, .int (nI 0), .int (nI 5)]) (rest := []) X hl.1 h (c_X8_inN l J z ad G y 0 5 (by omega) (by omega)) mw_187 mw_188 mw_5 mw_189 pdX8_in ⟨Nat.le_of_ble_eq_true rfl, Nat.le_of_ble_eq_true rfl⟩ ⟨Nat.le_of_ble_eq_true rfl, Nat.le_of_ble_eq_true rfl⟩ rfl (Nat.le_of_ble_eq_true rfl) dX8_bylaw_7 (fun H locs h => ?_)
    refine lv_if_ne (tgt := 16) hx hb dX8_bylaw_10 (by decide) (fun c_10 => ?_) (fun c_10 => ?_)
    · rw [b2_z] at c_10
      obtain ⟨Y, hY1, hY2, eY⟩ := Classical.not_not.mp c_10
      have TY : tn y = Y := by rw [eY]; exact tn_nI (by omega)
      rw [eY] at hl
      refine lv_aload_n hx hb dX8_bylaw_16 rfl (lv_at hl 0 rfl) ?_
      refine lv_iload_n hx hb dX8_bylaw_17 rfl (lv_at hl 1 rfl) ?_
      refine rg_civd (As := [.int x]) (rest := []) X hl.1 h (c_X8_ranked l J z ad G r hrow hW0 x) mw_626 mw_627 mw_628 mw_5 mw_629 pdX8_ranked (by decide) (xo_210 J ad _) rfl rfl ⟨Nat.le_of_ble_eq_true rfl, Nat.le_of_ble_eq_true rfl⟩ ⟨Nat.le_of_ble_eq_true rfl, Nat.le_of_ble_eq_true rfl⟩ rfl (Nat.le_of_ble_eq_true rfl) dX8_bylaw_18 (fun H locs h => ?_)
      refine lv_istore_n (lv' := [(3, .int (opI (rkd r x))), (0, .ref (ad 210)), (1, .int x), (2, .int (nI Y))]) hx hb dX8_bylaw_21 rfl hl (by decide) rfl (fun ls hl => ?_)
      refine lv_iload_n hx hb dX8_bylaw_22 rfl (lv_at hl 0 rfl) ?_
      refine lv_bipush (v := (-5)) hx hb dX8_bylaw_23 (by decide) ?_
      refine lv_icmp_ne (tgt := 31) hx hb dX8_bylaw_25 (by decide) (fun c_25 => ?_) (fun c_25 => ?_)
      · rw [opI_n (fun k hk => by have := rkd_lt hk; omega)] at c_25
        obtain ⟨k, hk⟩ := Option.ne_none_iff_exists'.mp c_25
        have hk2 := rkd_lt hk
        rw [hk] at hl
        have hl : lv_has ls 4 [(3, .int (nI k)), (0, .ref (ad 210)), (1, .int x), (2, .int (nI Y))] := hl
        refine lv_iload_n hx hb dX8_bylaw_31 rfl (lv_at hl 3 rfl) ?_
        refine lv_if_ne (tgt := 42) hx hb dX8_bylaw_32 (by decide) (fun c_32 => ?_) (fun c_32 => ?_)
        · rw [nz_eq (by omega)] at c_32
          refine lv_iload_n hx hb dX8_bylaw_42 rfl (lv_at hl 3 rfl) ?_
          refine lv_iconst (v := nI 1) hx hb dX8_bylaw_43 (by decide) ?_
          refine lv_icmp_ne (tgt := 54) hx hb dX8_bylaw_44 (by decide) (fun c_44 => ?_) (fun c_44 => ?_)
          · rw [nI_eq (by omega) (by omega)] at c_44
            refine lv_iload_n hx hb dX8_bylaw_54 rfl (lv_at hl 3 rfl) ?_
            refine lv_iconst (v := nI 5) hx hb dX8_bylaw_55 (by decide) ?_
            refine lv_icmp_ne (tgt := 71) hx hb dX8_bylaw_56 (by decide) (fun c_56 => ?_) (fun c_56 => ?_)
            · rw [nI_eq (by omega) (by omega)] at c_56
              refine lv_aload_n hx hb dX8_bylaw_71 rfl (lv_at hl 1 rfl) ?_
              refine fg_X8_7 X h dX8_bylaw_72 ?_
              refine lv_sipush (v := nI 192) hx hb dX8_bylaw_75 (by decide) ?_
              refine lv_iconst (v := nI 3) hx hb dX8_bylaw_78 (by decide) ?_
              refine lv_iload_n hx hb dX8_bylaw_79 rfl (lv_at hl 0 rfl) ?_
              refine lv_imul hx hb dX8_bylaw_80 ?_
              refine lv_as (y := nI (3 * k)) (nI_mulc (by omega)) ?_
              refine lv_iadd hx hb dX8_bylaw_81 ?_
              refine lv_as (y := nI (3 * k + 192)) (nI_addc (by omega)) ?_
              refine lv_iload_n hx hb dX8_bylaw_82 rfl (lv_at hl 3 rfl) ?_
              refine lv_iadd hx hb dX8_bylaw_83 ?_
              refine lv_as (y := nI (Y + 3 * k + 192)) (nI_addc (by omega)) ?_
              refine lv_iconst (v := nI 2) hx hb dX8_bylaw_84 (by decide) ?_
              refine lv_isub hx hb dX8_bylaw_85 ?_
              refine lv_as (y := nI (Y + 3 * k + 190)) (nI_subc (by omega)) ?_
              refine rs_ld X h 0 (Y + 3 * k + 190) (congrArg nI (by omega)) (by omega) dX8_bylaw_86 ?_
              refine lv_as (y := r (Y + 3 * k + 190)) (congrFun hrow _) ?_
              exact hret (r (Y + 3 * k + 190)) G _ _ 87 _ (⟨by have n0 : ¬ y = 0 := (by rw [eY]; exact fun q => c_32 ((nz_eq (by omega)).mp q)); have n1 : ¬ y = nI 1 := (by rw [eY]; exact fun q => c_44 ((nI_eq (by omega) (by omega)).mp q)); have n5 : ¬ y = nI 5 := (by rw [eY]; exact fun q => c_56 ((nI_eq (by omega) (by omega)).mp q)); unfold byA; rw [cif_t ⟨c_1, ⟨Y, hY1, hY2, eY⟩⟩, hk]; show _ = byB r y k; unfold byB; rw [if_neg n0, if_neg n1, if_neg n5, TY], rfl⟩) h dX8_bylaw_87
            · rw [nI_eq (by omega) (by omega)] at c_56
              refine lv_aload_n hx hb dX8_bylaw_59 rfl (lv_at hl 1 rfl) ?_
              refine lv_iconst (v := nI 0) hx hb dX8_bylaw_60 (by decide) ?_
              refine lv_iload_n hx hb dX8_bylaw_61 rfl (lv_at hl 0 rfl) ?_
              refine lv_bipush (v := nI 20) hx hb dX8_bylaw_62 (by decide) ?_
              refine lv_idiv hx hb dX8_bylaw_64 (by decide) ?_
              refine lv_as (y := nI ((k / 20))) (pk_div (by omega) (by omega) (by omega)) ?_
              refine rg_civd (As := [.int (nI 0), .int (nI ((k / 20)))]) (rest := []) X hl.1 h (c_X8_weightAt l J z ad G r 0 (by omega) hrow hW0 (nI ((k / 20)))) mw_393 mw_394 mw_395 mw_5 mw_396 pdX8_weightAt (by decide) (xo_210 J ad _) rfl rfl ⟨Nat.le_of_ble_eq_true rfl, Nat.le_of_ble_eq_true rfl⟩ ⟨Nat.le_of_ble_eq_true rfl, Nat.le_of_ble_eq_true rfl⟩ rfl (Nat.le_of_ble_eq_true rfl) dX8_bylaw_65 (fun H locs h => ?_)
              refine lv_goto (tgt := 87) hx hb dX8_bylaw_68 (by decide) ?_
              exact hret (wgt r (nI ((k / 20)))) G _ _ 87 _ (⟨by have n0 : ¬ y = 0 := (by rw [eY]; exact fun q => c_32 ((nz_eq (by omega)).mp q)); have n1 : ¬ y = nI 1 := (by rw [eY]; exact fun q => c_44 ((nI_eq (by omega) (by omega)).mp q)); unfold byA; rw [cif_t ⟨c_1, ⟨Y, hY1, hY2, eY⟩⟩, hk]; show _ = byB r y k; unfold byB; rw [if_neg n0, if_neg n1, if_pos (by rw [eY, c_56])], rfl⟩) h dX8_bylaw_87
          · rw [nI_eq (by omega) (by omega)] at c_44
            refine lv_iload_n hx hb dX8_bylaw_47 rfl (lv_at hl 0 rfl) ?_
            refine lv_bipush (v := nI 20) hx hb dX8_bylaw_48 (by decide) ?_
            refine lv_irem hx hb dX8_bylaw_50 (by decide) ?_
            refine lv_as (y := nI ((k % 20))) (pk_rem (by omega) (by omega) (by omega)) ?_
            refine lv_goto (tgt := 87) hx hb dX8_bylaw_51 (by decide) ?_
            exact hret (nI ((k % 20))) G _ _ 87 _ (⟨by have n0 : ¬ y = 0 := (by rw [eY]; exact fun q => c_32 ((nz_eq (by omega)).mp q)); unfold byA; rw [cif_t ⟨c_1, ⟨Y, hY1, hY2, eY⟩⟩, hk]; show _ = byB r y k; unfold byB; rw [if_neg n0, if_pos (by rw [eY, c_44])], rfl⟩) h dX8_bylaw_87
        · rw [nz_eq (by omega)] at c_32
          refine lv_iload_n hx hb dX8_bylaw_35 rfl (lv_at hl 0 rfl) ?_
          refine lv_bipush (v := nI 20) hx hb dX8_bylaw_36 (by decide) ?_
          refine lv_idiv hx hb dX8_bylaw_38 (by decide) ?_
          refine lv_as (y := nI ((k / 20))) (pk_div (by omega) (by omega) (by omega)) ?_
          refine lv_goto (tgt := 87) hx hb dX8_bylaw_39 (by decide) ?_
          exact hret (nI ((k / 20))) G _ _ 87 _ (⟨by unfold byA; rw [cif_t ⟨c_1, ⟨Y, hY1, hY2, eY⟩⟩, hk]; show _ = byB r y k; unfold byB; rw [if_pos (by rw [eY, c_32]; rfl)], rfl⟩) h dX8_bylaw_87
      · rw [opI_n (fun k hk => by have := rkd_lt hk; omega)] at c_25
        refine lv_bipush (v := (-5)) hx hb dX8_bylaw_28 (by decide) ?_
        exact hret (-5) G _ _ 30 _ (⟨by unfold byA; rw [cif_t ⟨c_1, ⟨Y, hY1, hY2, eY⟩⟩, c_25], rfl⟩) h dX8_bylaw_30
    · rw [b2_z] at c_10
      refine lv_bipush (v := (-2)) hx hb dX8_bylaw_13 (by decide) ?_
      exact hret (-2) G _ _ 15 _ (⟨by unfold byA; rw [cif_f (fun q => by first | exact q.1 c_1 | exact c_10 q.2)], rfl⟩) h dX8_bylaw_15
set_option maxHeartbeats 4000000 in
set_option maxRecDepth 100000 in
theorem c_X8_petitionOf (l : Launch) (J : JJ) (z : Nat) (ad : Nat → Nat) (G : GG) (r : Nat → Int32) (hrow : rwS (G 211) 0 = r) (hW : WR r) (q x : Int32) : MI l J z ad yX8_petitionOf cX8_petitionOf 4 .int 2 [.ref (ad 210), .int q, .int x] G (fun ans uG => ans = (ptoA r q x) ∧ uG = (G)) := by
  refine MI.go (by decide) (Nat.le_of_ble_eq_true rfl) ?_
  intro pr e s m args below meth c ls Q X h hl hret
  have hx := X.1
  have hb := X.2.1
  have hown := X.2.2.2.1
  have hts := X.2.2.2.2
  have hl : lv_has ls 4 [(0, .ref (ad 210)), (1, .int q), (2, .int x)] := hl
  have hW0 := hW
  obtain ⟨⟨w1, w2⟩, ⟨w3, w4⟩, ⟨w5, w6⟩, w7, w8⟩ := hW
  refine lv_aload_n hx hb dX8_petitionOf_0 rfl (lv_at hl 0 rfl) ?_
  refine lv_iload_n hx hb dX8_petitionOf_1 rfl (lv_at hl 1 rfl) ?_
  refine rg_civd (As := [.int q]) (rest := []) X hl.1 h (c_X8_isPetition l J z ad G r hrow w3 w4 q) mw_287 mw_288 mw_289 mw_5 mw_290 pdX8_isPetition (by decide) (xo_210 J ad _) rfl rfl ⟨Nat.le_of_ble_eq_true rfl, Nat.le_of_ble_eq_true rfl⟩ ⟨Nat.le_of_ble_eq_true rfl, Nat.le_of_ble_eq_true rfl⟩ rfl (Nat.le_of_ble_eq_true rfl) dX8_petitionOf_2 (fun H locs h => ?_)
  refine lv_if_ne (tgt := 10) hx hb dX8_petitionOf_5 (by decide) (fun c_5 => ?_) (fun c_5 => ?_)
  · rw [b2_z] at c_5
    obtain ⟨D, hD, rfl⟩ := Classical.not_not.mp c_5
    have TD : tn (nI D) = D := tn_nI (by omega)
    refine lv_iconst (v := nI 0) hx hb dX8_petitionOf_10 (by decide) ?_
    refine lv_iload_n hx hb dX8_petitionOf_11 rfl (lv_at hl 1 rfl) ?_
    refine rg_cisd (As := [.int (nI 0), .int (nI D)]) (rest := []) X hl.1 h (c_X8_petitionAt l J z ad G 0 D) mw_261 mw_262 mw_5 mw_263 pdX8_petitionAt ⟨Nat.le_of_ble_eq_true rfl, Nat.le_of_ble_eq_true rfl⟩ ⟨Nat.le_of_ble_eq_true rfl, Nat.le_of_ble_eq_true rfl⟩ rfl (Nat.le_of_ble_eq_true rfl) dX8_petitionOf_12 (fun H locs h => ?_)
    refine lv_as (y := nI (5 * D + 84)) (congrArg nI (by omega)) ?_
    refine lv_istore_n (lv' := [(3, .int (nI (5 * D + 84))), (0, .ref (ad 210)), (1, .int (nI D)), (2, .int x)]) hx hb dX8_petitionOf_15 rfl hl (by decide) rfl (fun ls hl => ?_)
    refine lv_iload_n hx hb dX8_petitionOf_16 rfl (lv_at hl 3 rfl) ?_
    refine lv_iconst (v := nI 0) hx hb dX8_petitionOf_17 (by decide) ?_
    refine lv_iconst (v := nI 3) hx hb dX8_petitionOf_18 (by decide) ?_
    refine rg_cisd (As := [.int x, .int (nI 0), .int (nI 3)]) (rest := []) X hl.1 h (c_X8_inN l J z ad G x 0 3 (by omega) (by omega)) mw_187 mw_188 mw_5 mw_189 pdX8_in ⟨Nat.le_of_ble_eq_true rfl, Nat.le_of_ble_eq_true rfl⟩ ⟨Nat.le_of_ble_eq_true rfl, Nat.le_of_ble_eq_true rfl⟩ rfl (Nat.le_of_ble_eq_true rfl) dX8_petitionOf_19 (fun H locs h => ?_)
    refine lv_if_eq (tgt := 36) hx hb dX8_petitionOf_22 (by decide) (fun c_22 => ?_) (fun c_22 => ?_)
    · rw [b2_z] at c_22
      refine lv_iload_n hx hb dX8_petitionOf_36 rfl (lv_at hl 3 rfl) ?_
      refine lv_iconst (v := nI 4) hx hb dX8_petitionOf_37 (by decide) ?_
      refine lv_icmp_ne (tgt := 50) hx hb dX8_petitionOf_38 (by decide) (fun c_38 => ?_) (fun c_38 => ?_)
      · refine lv_iload_n hx hb dX8_petitionOf_50 rfl (lv_at hl 3 rfl) ?_
        refine lv_iconst (v := nI 5) hx hb dX8_petitionOf_51 (by decide) ?_
        refine lv_icmp_ne (tgt := 66) hx hb dX8_petitionOf_52 (by decide) (fun c_52 => ?_) (fun c_52 => ?_)
        · refine lv_bipush (v := (-2)) hx hb dX8_petitionOf_66 (by decide) ?_
          exact hret (-2) G _ _ 68 _ (⟨by unfold ptoA; rw [cif_t ⟨D, hD, rfl⟩, cif_f c_22, if_neg c_38, if_neg c_52], rfl⟩) h dX8_petitionOf_68
        · refine lv_aload_n hx hb dX8_petitionOf_55 rfl (lv_at hl 1 rfl) ?_
          refine fg_X8_7 X h dX8_petitionOf_56 ?_
          refine lv_iload_n hx hb dX8_petitionOf_59 rfl (lv_at hl 0 rfl) ?_
          refine lv_iconst (v := nI 4) hx hb dX8_petitionOf_60 (by decide) ?_
          refine lv_iadd hx hb dX8_petitionOf_61 ?_
          refine lv_as (y := nI (5 * D + 88)) (nI_addc (by omega)) ?_
          refine rs_ld X h 0 (5 * D + 88) (congrArg nI (by omega)) (by omega) dX8_petitionOf_62 ?_
          refine lv_as (y := r (5 * D + 88)) (congrFun hrow _) ?_
          refine lv_goto (tgt := 68) hx hb dX8_petitionOf_63 (by decide) ?_
          exact hret (r (5 * D + 88)) G _ _ 68 _ (⟨by unfold ptoA; rw [cif_t ⟨D, hD, rfl⟩, cif_f c_22, if_neg c_38, if_pos c_52, TD], rfl⟩) h dX8_petitionOf_68
      · refine lv_aload_n hx hb dX8_petitionOf_41 rfl (lv_at hl 1 rfl) ?_
        refine lv_iconst (v := nI 0) hx hb dX8_petitionOf_42 (by decide) ?_
        refine lv_iload_n hx hb dX8_petitionOf_43 rfl (lv_at hl 2 rfl) ?_
        refine rg_civd (As := [.int (nI 0), .int (nI D)]) (rest := []) X hl.1 h (c_X8_support l J z ad G r 0 (by omega) hrow hW0 D (by omega)) mw_291 mw_292 mw_293 mw_5 mw_294 pdX8_support (by decide) (xo_210 J ad _) rfl rfl ⟨Nat.le_of_ble_eq_true rfl, Nat.le_of_ble_eq_true rfl⟩ ⟨Nat.le_of_ble_eq_true rfl, Nat.le_of_ble_eq_true rfl⟩ rfl (Nat.le_of_ble_eq_true rfl) dX8_petitionOf_44 (fun H locs h => ?_)
        refine lv_goto (tgt := 68) hx hb dX8_petitionOf_47 (by decide) ?_
        exact hret (supp r D) G _ _ 68 _ (⟨by unfold ptoA; rw [cif_t ⟨D, hD, rfl⟩, cif_f c_22, if_pos c_38, TD], rfl⟩) h dX8_petitionOf_68
    · rw [b2_z] at c_22
      obtain ⟨Y, hY1, hY2, eY⟩ := Classical.not_not.mp c_22
      have TY : tn x = Y := by rw [eY]; exact tn_nI (by omega)
      rw [eY] at hl
      refine lv_aload_n hx hb dX8_petitionOf_25 rfl (lv_at hl 1 rfl) ?_
      refine fg_X8_7 X h dX8_petitionOf_26 ?_
      refine lv_iload_n hx hb dX8_petitionOf_29 rfl (lv_at hl 0 rfl) ?_
      refine lv_iload_n hx hb dX8_petitionOf_30 rfl (lv_at hl 3 rfl) ?_
      refine lv_iadd hx hb dX8_petitionOf_31 ?_
      refine lv_as (y := nI (5 * D + Y + 84)) (nI_addc (by omega)) ?_
      refine rs_ld X h 0 (5 * D + Y + 84) (congrArg nI (by omega)) (by omega) dX8_petitionOf_32 ?_
      refine lv_as (y := r (5 * D + Y + 84)) (congrFun hrow _) ?_
      refine lv_goto (tgt := 68) hx hb dX8_petitionOf_33 (by decide) ?_
      exact hret (r (5 * D + Y + 84)) G _ _ 68 _ (⟨by unfold ptoA; rw [cif_t ⟨D, hD, rfl⟩, cif_t ⟨Y, hY1, hY2, eY⟩, TD, TY], rfl⟩) h dX8_petitionOf_68
  · rw [b2_z] at c_5
    refine lv_iconst (v := (-1)) hx hb dX8_petitionOf_8 (by decide) ?_
    exact hret (-1) G _ _ 9 _ (⟨by unfold ptoA; rw [cif_f c_5], rfl⟩) h dX8_petitionOf_9
set_option maxHeartbeats 4000000 in
set_option maxRecDepth 100000 in
theorem c_X8_rule (l : Launch) (J : JJ) (z : Nat) (ad : Nat → Nat) (G : GG) (r : Nat → Int32) (hrow : rwS (G 211) 0 = r) (hW : WR r) (a g x : Int32) : MI l J z ad yX8_rule cX8_rule 5 .int 3 [.ref (ad 210), .int a, .int g, .int x] G (fun ans uG => ans = (ruA r a g x) ∧ uG = (G)) := by
  refine MI.go (by decide) (Nat.le_of_ble_eq_true rfl) ?_
  intro pr e s m args below meth c ls Q X h hl hret
  have hx := X.1
  have hb := X.2.1
  have hown := X.2.2.2.1
  have hts := X.2.2.2.2
  have hl : lv_has ls 5 [(0, .ref (ad 210)), (1, .int a), (2, .int g), (3, .int x)] := hl
  have hW0 := hW
  obtain ⟨⟨w1, w2⟩, ⟨w3, w4⟩, ⟨w5, w6⟩, w7, w8⟩ := hW
  refine lv_iload_n hx hb dX8_rule_0 rfl (lv_at hl 1 rfl) ?_
  refine rg_cisd (As := [.int a]) (rest := []) X hl.1 h (c_X8_isComb l J z ad G a) mw_184 mw_185 mw_5 mw_186 pdX8_isComb ⟨Nat.le_of_ble_eq_true rfl, Nat.le_of_ble_eq_true rfl⟩ ⟨Nat.le_of_ble_eq_true rfl, Nat.le_of_ble_eq_true rfl⟩ rfl (Nat.le_of_ble_eq_true rfl) dX8_rule_1 (fun H locs h => ?_)
  refine lv_if_eq (tgt := 14) hx hb dX8_rule_4 (by decide) (fun c_4 => ?_) (fun c_4 => ?_)
  · rw [b2_z] at c_4
    refine lv_iconst (v := (-1)) hx hb dX8_rule_14 (by decide) ?_
    exact hret (-1) G _ _ 15 _ (⟨by unfold ruA; rw [cif_f (fun q => by first | exact c_4 q.1 | exact c_11 q.2)], rfl⟩) h dX8_rule_15
  · rw [b2_z] at c_4
    obtain ⟨A, hA, rfl⟩ := Classical.not_not.mp c_4
    have TA : tn (nI A) = A := tn_nI (by omega)
    refine lv_iload_n hx hb dX8_rule_7 rfl (lv_at hl 2 rfl) ?_
    refine rg_cisd (As := [.int g]) (rest := []) X hl.1 h (c_X8_isDoing l J z ad G g) mw_258 mw_259 mw_5 mw_260 pdX8_isDoing ⟨Nat.le_of_ble_eq_true rfl, Nat.le_of_ble_eq_true rfl⟩ ⟨Nat.le_of_ble_eq_true rfl, Nat.le_of_ble_eq_true rfl⟩ rfl (Nat.le_of_ble_eq_true rfl) dX8_rule_8 (fun H locs h => ?_)
    refine lv_if_ne (tgt := 16) hx hb dX8_rule_11 (by decide) (fun c_11 => ?_) (fun c_11 => ?_)
    · rw [b2_z] at c_11
      obtain ⟨D, hD, rfl⟩ := Classical.not_not.mp c_11
      have TD : tn (nI D) = D := tn_nI (by omega)
      refine lv_aload_n hx hb dX8_rule_16 rfl (lv_at hl 0 rfl) ?_
      refine lv_iload_n hx hb dX8_rule_17 rfl (lv_at hl 1 rfl) ?_
      refine lv_iload_n hx hb dX8_rule_18 rfl (lv_at hl 2 rfl) ?_
      refine rg_civd (As := [.int (nI A), .int (nI D)]) (rest := []) X hl.1 h (c_X8_ruling l J z ad G r hrow hW0 A D (by omega) (by omega)) mw_676 mw_677 mw_678 mw_5 mw_679 pdX8_ruling (by decide) (xo_210 J ad _) rfl rfl ⟨Nat.le_of_ble_eq_true rfl, Nat.le_of_ble_eq_true rfl⟩ ⟨Nat.le_of_ble_eq_true rfl, Nat.le_of_ble_eq_true rfl⟩ rfl (Nat.le_of_ble_eq_true rfl) dX8_rule_19 (fun H locs h => ?_)
      refine lv_istore (lv' := [(4, .int (opI (rulO r A D))), (0, .ref (ad 210)), (1, .int (nI A)), (2, .int (nI D)), (3, .int x)]) hx hb dX8_rule_22 hl (by decide) rfl (fun ls hl => ?_)
      refine lv_iload_n hx hb dX8_rule_24 rfl (lv_at hl 4 rfl) ?_
      rcases Classical.em (isN x 3) with c_25 | c_25
      · obtain ⟨w_25, hw_25, e_25⟩ := c_25
        rcases (show w_25 = 0 ∨ w_25 = 1 ∨ w_25 = 2 by omega) with rfl | rfl | rfl
        · refine lv_as (y := nI 0) e_25 ?_
          refine lv_tableIn (off := 27) (tgt := 52) hx hb dX8_rule_25 (by decide) (by decide) rfl (by decide) ?_
          rw [e_25] at hl
          refine lv_aload_n hx hb dX8_rule_52 rfl (lv_at hl 1 rfl) ?_
          refine lv_iload_n hx hb dX8_rule_53 rfl (lv_at hl 2 rfl) ?_
          refine lv_iload_n hx hb dX8_rule_54 rfl (lv_at hl 3 rfl) ?_
          refine rg_civd (As := [.int (nI A), .int (nI D)]) (rest := []) X hl.1 h (c_X8_isAllowed l J z ad G r hrow hW0 A D (by omega) (by omega)) mw_680 mw_681 mw_682 mw_5 mw_683 pdX8_isAllowed (by decide) (xo_210 J ad _) rfl rfl ⟨Nat.le_of_ble_eq_true rfl, Nat.le_of_ble_eq_true rfl⟩ ⟨Nat.le_of_ble_eq_true rfl, Nat.le_of_ble_eq_true rfl⟩ rfl (Nat.le_of_ble_eq_true rfl) dX8_rule_55 (fun H locs h => ?_)
          refine rg_cisd (As := [.int (b2 (alw r A D))]) (rest := []) X hl.1 h (c_X8_flag l J z ad G (alw r A D)) mw_401 mw_402 mw_5 mw_403 pdX8_flag ⟨Nat.le_of_ble_eq_true rfl, Nat.le_of_ble_eq_true rfl⟩ ⟨Nat.le_of_ble_eq_true rfl, Nat.le_of_ble_eq_true rfl⟩ rfl (Nat.le_of_ble_eq_true rfl) dX8_rule_58 (fun H locs h => ?_)
          exact hret (b2 (alw r A D)) G _ _ 61 _ (⟨by unfold ruA; rw [cif_t ⟨⟨A, hA, rfl⟩, ⟨D, hD, rfl⟩⟩, if_pos e_25, TA, TD], rfl⟩) h dX8_rule_61
        · refine lv_as (y := nI 1) e_25 ?_
          refine lv_tableIn (off := 37) (tgt := 62) hx hb dX8_rule_25 (by decide) (by decide) rfl (by decide) ?_
          rw [e_25] at hl
          refine lv_iload hx hb dX8_rule_62 (lv_at hl 0 rfl) ?_
          exact hret (opI (rulO r A D)) G _ _ 64 _ (⟨by unfold ruA; rw [cif_t ⟨⟨A, hA, rfl⟩, ⟨D, hD, rfl⟩⟩, if_neg (by rw [e_25]; decide), if_pos e_25, TA, TD], rfl⟩) h dX8_rule_64
        · refine lv_as (y := nI 2) e_25 ?_
          refine lv_tableIn (off := 40) (tgt := 65) hx hb dX8_rule_25 (by decide) (by decide) rfl (by decide) ?_
          rw [e_25] at hl
          refine lv_iload hx hb dX8_rule_65 (lv_at hl 0 rfl) ?_
          refine lv_bipush (v := (-5)) hx hb dX8_rule_67 (by decide) ?_
          refine lv_icmp_ne (tgt := 77) hx hb dX8_rule_69 (by decide) (fun c_69 => ?_) (fun c_69 => ?_)
          · rw [opI_n (fun k hk => by have := rulO_lt hk; omega)] at c_69
            obtain ⟨B2, hk⟩ := Option.ne_none_iff_exists'.mp c_69
            have hk6 := rulO_lt hk
            rw [hk] at hl
            have hl : lv_has ls 5 [(4, .int (nI B2)), (0, .ref (ad 210)), (1, .int (nI A)), (2, .int (nI D)), (3, .int (nI 2))] := hl
            refine lv_aload_n hx hb dX8_rule_77 rfl (lv_at hl 1 rfl) ?_
            refine fg_X8_7 X h dX8_rule_78 ?_
            refine lv_iconst (v := nI 0) hx hb dX8_rule_81 (by decide) ?_
            refine lv_iload hx hb dX8_rule_82 (lv_at hl 0 rfl) ?_
            refine lv_iload_n hx hb dX8_rule_84 rfl (lv_at hl 3 rfl) ?_
            refine rg_cisd (As := [.int (nI 0), .int (nI B2), .int (nI D)]) (rest := [.ref (ad 211)]) X hl.1 h (c_X8_bylawAt l J z ad G 0 B2 D) mw_386 mw_387 mw_5 mw_388 pdX8_bylawAt ⟨Nat.le_of_ble_eq_true rfl, Nat.le_of_ble_eq_true rfl⟩ ⟨Nat.le_of_ble_eq_true rfl, Nat.le_of_ble_eq_true rfl⟩ rfl (Nat.le_of_ble_eq_true rfl) dX8_rule_85 (fun H locs h => ?_)
            refine lv_as (y := nI (60 * B2 + 3 * D + 192)) (congrArg nI (by omega)) ?_
            refine lv_iconst (v := nI 1) hx hb dX8_rule_88 (by decide) ?_
            refine lv_iadd hx hb dX8_rule_89 ?_
            refine lv_as (y := nI (60 * B2 + 3 * D + 193)) (nI_addc (by omega)) ?_
            refine rs_ld X h 0 (60 * B2 + 3 * D + 193) (congrArg nI (by omega)) (by omega) dX8_rule_90 ?_
            refine lv_as (y := r (60 * B2 + 3 * D + 193)) (congrFun hrow _) ?_
            exact hret (r (60 * B2 + 3 * D + 193)) G _ _ 91 _ (⟨by unfold ruA; rw [cif_t ⟨⟨A, hA, rfl⟩, ⟨D, hD, rfl⟩⟩, if_neg (by rw [e_25]; decide), if_neg (by rw [e_25]; decide), if_pos e_25, TA, TD, hk], rfl⟩) h dX8_rule_91
          · rw [opI_n (fun k hk => by have := rulO_lt hk; omega)] at c_69
            refine lv_bipush (v := (-5)) hx hb dX8_rule_72 (by decide) ?_
            refine lv_goto (tgt := 91) hx hb dX8_rule_74 (by decide) ?_
            exact hret (-5) G _ _ 91 _ (⟨by unfold ruA; rw [cif_t ⟨⟨A, hA, rfl⟩, ⟨D, hD, rfl⟩⟩, if_neg (by rw [e_25]; decide), if_neg (by rw [e_25]; decide), if_pos e_25, TA, TD, c_69], rfl⟩) h dX8_rule_91
      · refine lv_tableOut (tgt := 92) hx hb dX8_rule_25 (sw_out (by decide) c_25) (by decide) ?_
        refine lv_bipush (v := (-2)) hx hb dX8_rule_92 (by decide) ?_
        exact hret (-2) G _ _ 94 _ (⟨by unfold ruA; rw [cif_t ⟨⟨A, hA, rfl⟩, ⟨D, hD, rfl⟩⟩, if_neg (fun q => c_25 ⟨0, by omega, q⟩), if_neg (fun q => c_25 ⟨1, by omega, q⟩), if_neg (fun q => c_25 ⟨2, by omega, q⟩)], rfl⟩) h dX8_rule_94
    · rw [b2_z] at c_11
      refine lv_iconst (v := (-1)) hx hb dX8_rule_14 (by decide) ?_
      exact hret (-1) G _ _ 15 _ (⟨by unfold ruA; rw [cif_f (fun q => by first | exact c_4 q.1 | exact c_11 q.2)], rfl⟩) h dX8_rule_15
set_option maxHeartbeats 4000000 in
set_option maxRecDepth 100000 in
theorem c_X8_lacks (l : Launch) (J : JJ) (z : Nat) (ad : Nat → Nat) (G : GG) (r : Nat → Int32) (hrow : rwS (G 211) 0 = r) (hW : WR r) (q : Int32) : MI l J z ad yX8_lacks cX8_lacks 4 .int 3 [.ref (ad 210), .int q] G (fun ans uG => ans = (laA r q) ∧ uG = (G)) := by
  refine MI.go (by decide) (Nat.le_of_ble_eq_true rfl) ?_
  intro pr e s m args below meth c ls Q X h hl hret
  have hx := X.1
  have hb := X.2.1
  have hown := X.2.2.2.1
  have hts := X.2.2.2.2
  have hl : lv_has ls 4 [(0, .ref (ad 210)), (1, .int q)] := hl
  have hW0 := hW
  obtain ⟨⟨w1, w2⟩, ⟨w3, w4⟩, ⟨w5, w6⟩, w7, w8⟩ := hW
  refine lv_aload_n hx hb dX8_lacks_0 rfl (lv_at hl 0 rfl) ?_
  refine lv_iload_n hx hb dX8_lacks_1 rfl (lv_at hl 1 rfl) ?_
  refine rg_civd (As := [.int q]) (rest := []) X hl.1 h (c_X8_isPetition l J z ad G r hrow w3 w4 q) mw_287 mw_288 mw_289 mw_5 mw_290 pdX8_isPetition (by decide) (xo_210 J ad _) rfl rfl ⟨Nat.le_of_ble_eq_true rfl, Nat.le_of_ble_eq_true rfl⟩ ⟨Nat.le_of_ble_eq_true rfl, Nat.le_of_ble_eq_true rfl⟩ rfl (Nat.le_of_ble_eq_true rfl) dX8_lacks_2 (fun H locs h => ?_)
  refine lv_if_ne (tgt := 10) hx hb dX8_lacks_5 (by decide) (fun c_5 => ?_) (fun c_5 => ?_)
  · rw [b2_z] at c_5
    obtain ⟨D, hD, rfl⟩ := Classical.not_not.mp c_5
    have TD : tn (nI D) = D := tn_nI (by omega)
    refine lv_aload_n hx hb dX8_lacks_10 rfl (lv_at hl 0 rfl) ?_
    refine lv_iconst (v := nI 0) hx hb dX8_lacks_11 (by decide) ?_
    refine lv_iload_n hx hb dX8_lacks_12 rfl (lv_at hl 1 rfl) ?_
    refine rg_civd (As := [.int (nI 0), .int (nI D)]) (rest := []) X hl.1 h (c_X8_support l J z ad G r 0 (by omega) hrow hW0 D (by omega)) mw_291 mw_292 mw_293 mw_5 mw_294 pdX8_support (by decide) (xo_210 J ad _) rfl rfl ⟨Nat.le_of_ble_eq_true rfl, Nat.le_of_ble_eq_true rfl⟩ ⟨Nat.le_of_ble_eq_true rfl, Nat.le_of_ble_eq_true rfl⟩ rfl (Nat.le_of_ble_eq_true rfl) dX8_lacks_13 (fun H locs h => ?_)
    refine lv_istore_n (lv' := [(2, .int (supp r D)), (0, .ref (ad 210)), (1, .int (nI D))]) hx hb dX8_lacks_16 rfl hl (by decide) rfl (fun ls hl => ?_)
    refine lv_iconst (v := nI 0) hx hb dX8_lacks_17 (by decide) ?_
    refine lv_istore_n (lv' := [(3, .int (nI 0)), (2, .int (supp r D)), (0, .ref (ad 210)), (1, .int (nI D))]) hx hb dX8_lacks_18 rfl hl (by decide) rfl (fun ls hl => ?_)
    have LP_19 : ∀ (k_19 i_19 : Nat), 121 + 1 ≤ i_19 + k_19 → i_19 ≤ 121 → ∀ (hn : ∀ j, j < i_19 → ¬ refu r D (supp r D + nI j) = 0) (H : Heap) (locs : List Loc) (ls : Array Slot), HG J z ad s G H locs → lv_has ls 4 [(0, .ref (ad 210)), (1, .int (nI D)), (2, .int (supp r D)), (3, .int (nI i_19))] → W pr l e (rmD 3 0 0) s m args below meth c H locs 0 0 Q (F0 m 19 ls []) := by
      intro k_19
      induction k_19 with
      | zero =>
        intro i_19 g1 g2
        exact absurd g1 (by omega)
      | succ k_19 ih_19 =>
        intro i_19 g1_19 g2_19 hn H locs ls h hl
        refine lv_iload_n hx hb dX8_lacks_19 rfl (lv_at hl 3 rfl) ?_
        refine lv_bipush (v := nI 120) hx hb dX8_lacks_20 (by decide) ?_
        refine lv_icmp_gt (tgt := 45) hx hb dX8_lacks_22 (by decide) (fun c_22 => ?_) (fun c_22 => ?_)
        · rw [nI_ltI (by omega) (by omega)] at c_22
          refine lv_bipush (v := (-5)) hx hb dX8_lacks_45 (by decide) ?_
          exact hret (-5) G _ _ 47 _ (⟨by unfold laA lackO; rw [cif_t ⟨D, hD, rfl⟩, TD, fst_n (P := fun m => refu r D (supp r D + nI m) = 0) (fun j hj => hn j (by omega))]; rfl, rfl⟩) h dX8_lacks_47
        · rw [nI_ltI (by omega) (by omega)] at c_22
          refine lv_aload_n hx hb dX8_lacks_25 rfl (lv_at hl 0 rfl) ?_
          refine lv_iconst (v := nI 0) hx hb dX8_lacks_26 (by decide) ?_
          refine lv_iload_n hx hb dX8_lacks_27 rfl (lv_at hl 1 rfl) ?_
          refine lv_iload_n hx hb dX8_lacks_28 rfl (lv_at hl 2 rfl) ?_
          refine lv_iload_n hx hb dX8_lacks_29 rfl (lv_at hl 3 rfl) ?_
          refine lv_iadd hx hb dX8_lacks_30 ?_
          refine rg_civd (As := [.int (nI 0), .int (nI D), .int ((supp r D) + (nI i_19))]) (rest := []) X hl.1 h (c_X8_refusal l J z ad G r 0 (by omega) hrow hW0 D (by omega) ((supp r D) + (nI i_19))) mw_382 mw_383 mw_384 mw_5 mw_385 pdX8_refusal (by decide) (xo_210 J ad _) rfl rfl ⟨Nat.le_of_ble_eq_true rfl, Nat.le_of_ble_eq_true rfl⟩ ⟨Nat.le_of_ble_eq_true rfl, Nat.le_of_ble_eq_true rfl⟩ rfl (Nat.le_of_ble_eq_true rfl) dX8_lacks_31 (fun H locs h => ?_)
          refine lv_if_ne (tgt := 39) hx hb dX8_lacks_34 (by decide) (fun c_34 => ?_) (fun c_34 => ?_)
          · have hn2 : ∀ j, j < i_19 + 1 → ¬ refu r D (supp r D + nI j) = 0 := by
              intro j hj q
              by_cases e : j = i_19
              · subst e
                exact c_34 q
              · exact hn j (by omega) q
            refine lv_iinc (v := nI (i_19 + 1)) (lv' := [(3, .int (nI (i_19 + 1))), (0, .ref (ad 210)), (1, .int (nI D)), (2, .int (supp r D))]) hx hb dX8_lacks_39 hl (k := 3) rfl (nI_addc (b := 1) (by omega)) (by decide) rfl (fun ls hl => ?_)
            refine lv_goto (tgt := 19) hx hb dX8_lacks_42 (by decide) ?_
            exact ih_19 (i_19 + 1) (by omega) (by omega) hn2 _ _ _ h (lv_sub hl [1, 2, 3, 0] rfl)
          · refine lv_iload_n hx hb dX8_lacks_37 rfl (lv_at hl 3 rfl) ?_
            exact hret (nI i_19) G _ _ 38 _ (⟨by unfold laA lackO; rw [cif_t ⟨D, hD, rfl⟩, TD, fst_s (P := fun m => refu r D (supp r D + nI m) = 0) c_34 hn (by omega)]; rfl, rfl⟩) h dX8_lacks_38
    exact LP_19 (121 + 1) 0 (by omega) (by omega) (fun j hj => by omega) _ _ _ h (lv_sub hl [2, 3, 1, 0] rfl)
  · rw [b2_z] at c_5
    refine lv_iconst (v := (-1)) hx hb dX8_lacks_8 (by decide) ?_
    exact hret (-1) G _ _ 9 _ (⟨by unfold laA; rw [cif_f c_5], rfl⟩) h dX8_lacks_9
set_option maxHeartbeats 4000000 in
set_option maxRecDepth 100000 in
theorem c_X8_free (l : Launch) (J : JJ) (z : Nat) (ad : Nat → Nat) (G : GG) (r : Nat → Int32) (hrow : rwS (G 211) 0 = r) (hW : WR r)  : MI l J z ad yX8_free cX8_free 3 .int 1 [.ref (ad 210)] G (fun ans uG => ans = (freeS r) ∧ uG = (G)) := by
  refine MI.go (by decide) (Nat.le_of_ble_eq_true rfl) ?_
  intro pr e s m args below meth c ls Q X h hl hret
  have hx := X.1
  have hb := X.2.1
  have hown := X.2.2.2.1
  have hts := X.2.2.2.2
  have hl : lv_has ls 3 [(0, .ref (ad 210))] := hl
  have hW0 := hW
  obtain ⟨⟨w1, w2⟩, ⟨w3, w4⟩, ⟨w5, w6⟩, w7, w8⟩ := hW
  refine lv_iconst (v := nI 0) hx hb dX8_free_0 (by decide) ?_
  refine lv_istore_n (lv' := [(1, .int (nI 0)), (0, .ref (ad 210))]) hx hb dX8_free_1 rfl hl (by decide) rfl (fun ls hl => ?_)
  refine lv_iconst (v := nI 0) hx hb dX8_free_2 (by decide) ?_
  refine lv_istore_n (lv' := [(2, .int (nI 0)), (1, .int (nI 0)), (0, .ref (ad 210))]) hx hb dX8_free_3 rfl hl (by decide) rfl (fun ls hl => ?_)
  have LP_4 : ∀ (k_4 i_4 : Nat), kn r + 1 ≤ i_4 + k_4 → i_4 ≤ kn r → ∀ (H : Heap) (locs : List Loc) (ls : Array Slot), HG J z ad s G H locs → lv_has ls 3 [(0, .ref (ad 210)), (1, .int (itr (fun d a => a ||| (b2 (r (6 * d + 14) = (-5)) <<< (nI d &&& 31))) (nI 0) i_4)), (2, .int (nI i_4))] → W pr l e (rmD 1 0 0) s m args below meth c H locs 0 0 Q (F0 m 4 ls []) := by
    intro k_4
    induction k_4 with
    | zero =>
      intro i_4 g1 g2
      exact absurd g1 (by omega)
    | succ k_4 ih_4 =>
      intro i_4 g1_4 g2_4  H locs ls h hl
      refine lv_iload_n hx hb dX8_free_4 rfl (lv_at hl 2 rfl) ?_
      refine lv_aload_n hx hb dX8_free_5 rfl (lv_at hl 0 rfl) ?_
      refine fg_X8_7 X h dX8_free_6 ?_
      refine lv_iconst (v := nI 5) hx hb dX8_free_9 (by decide) ?_
      refine rs_ld X h 0 (5) (congrArg nI (by omega)) (by omega) dX8_free_10 ?_
      refine lv_as (y := nI ((kn r))) ((congrFun hrow _).trans (w1)) ?_
      refine lv_icmp_ge (tgt := 50) hx hb dX8_free_11 (by decide) (fun c_11 => ?_) (fun c_11 => ?_)
      · rw [nI_leI (by omega) (by omega)] at c_11
        refine lv_iload_n hx hb dX8_free_50 rfl (lv_at hl 1 rfl) ?_
        exact hret (itr (fun d a => a ||| (b2 (r (6 * d + 14) = (-5)) <<< (nI d &&& 31))) (nI 0) i_4) G _ _ 51 _ (⟨by rw [show i_4 = kn r by omega]; rfl, rfl⟩) h dX8_free_51
      · rw [nI_leI (by omega) (by omega)] at c_11
        refine lv_iload_n hx hb dX8_free_14 rfl (lv_at hl 1 rfl) ?_
        refine lv_aload_n hx hb dX8_free_15 rfl (lv_at hl 0 rfl) ?_
        refine fg_X8_7 X h dX8_free_16 ?_
        refine lv_iconst (v := nI 0) hx hb dX8_free_19 (by decide) ?_
        refine lv_iload_n hx hb dX8_free_20 rfl (lv_at hl 2 rfl) ?_
        refine rg_cisd (As := [.int (nI 0), .int (nI i_4)]) (rest := [.ref (ad 211), .int (itr (fun d a => a ||| (b2 (r (6 * d + 14) = (-5)) <<< (nI d &&& 31))) (nI 0) i_4)]) X hl.1 h (c_X8_droneAt l J z ad G 0 i_4) mw_190 mw_191 mw_5 mw_192 pdX8_droneAt ⟨Nat.le_of_ble_eq_true rfl, Nat.le_of_ble_eq_true rfl⟩ ⟨Nat.le_of_ble_eq_true rfl, Nat.le_of_ble_eq_true rfl⟩ rfl (Nat.le_of_ble_eq_true rfl) dX8_free_21 (fun H locs h => ?_)
        refine lv_as (y := nI (6 * i_4 + 12)) (congrArg nI (by omega)) ?_
        refine lv_iconst (v := nI 2) hx hb dX8_free_24 (by decide) ?_
        refine lv_iadd hx hb dX8_free_25 ?_
        refine lv_as (y := nI (6 * i_4 + 14)) (nI_addc (by omega)) ?_
        refine rs_ld X h 0 (6 * i_4 + 14) (congrArg nI (by omega)) (by omega) dX8_free_26 ?_
        refine lv_as (y := r (6 * i_4 + 14)) (congrFun hrow _) ?_
        refine lv_bipush (v := (-5)) hx hb dX8_free_27 (by decide) ?_
        refine lv_icmp_ne (tgt := 36) hx hb dX8_free_29 (by decide) (fun c_29 => ?_) (fun c_29 => ?_)
        · refine lv_iconst (v := nI 0) hx hb dX8_free_36 (by decide) ?_
          refine rg_cisd (As := [.int (nI 0)]) (rest := [.int (itr (fun d a => a ||| (b2 (r (6 * d + 14) = (-5)) <<< (nI d &&& 31))) (nI 0) i_4)]) X hl.1 h (c_X8_flag0 l J z ad G) mw_401 mw_402 mw_5 mw_403 pdX8_flag ⟨Nat.le_of_ble_eq_true rfl, Nat.le_of_ble_eq_true rfl⟩ ⟨Nat.le_of_ble_eq_true rfl, Nat.le_of_ble_eq_true rfl⟩ rfl (Nat.le_of_ble_eq_true rfl) dX8_free_37 (fun H locs h => ?_)
          refine lv_iload_n hx hb dX8_free_40 rfl (lv_at hl 2 rfl) ?_
          refine lv_ishl hx hb dX8_free_41 ?_
          refine lv_as (y := b2 (r (6 * i_4 + 14) = (-5)) <<< (nI i_4 &&& 31)) (congrArg (fun t => t <<< (nI i_4 &&& 31)) (b2_f c_29).symm) ?_
          refine lv_ior hx hb dX8_free_42 ?_
          refine lv_istore_n (lv' := [(1, .int ((itr (fun d a => a ||| (b2 (r (6 * d + 14) = (-5)) <<< (nI d &&& 31))) (nI 0) i_4) ||| (b2 (r (6 * i_4 + 14) = (-5)) <<< (nI i_4 &&& 31)))), (0, .ref (ad 210)), (2, .int (nI i_4))]) hx hb dX8_free_43 rfl hl (by decide) rfl (fun ls hl => ?_)
          refine lv_iinc (v := nI (i_4 + 1)) (lv' := [(2, .int (nI (i_4 + 1))), (1, .int ((itr (fun d a => a ||| (b2 (r (6 * d + 14) = (-5)) <<< (nI d &&& 31))) (nI 0) i_4) ||| (b2 (r (6 * i_4 + 14) = (-5)) <<< (nI i_4 &&& 31)))), (0, .ref (ad 210))]) hx hb dX8_free_44 hl (k := 2) rfl (nI_addc (b := 1) (by omega)) (by decide) rfl (fun ls hl => ?_)
          refine lv_goto (tgt := 4) hx hb dX8_free_47 (by decide) ?_
          exact ih_4 (i_4 + 1) (by omega) (by omega) _ _ _ h (lv_sub hl [2, 1, 0] rfl)
        · refine lv_iconst (v := nI 1) hx hb dX8_free_32 (by decide) ?_
          refine lv_goto (tgt := 37) hx hb dX8_free_33 (by decide) ?_
          refine rg_cisd (As := [.int (nI 1)]) (rest := [.int (itr (fun d a => a ||| (b2 (r (6 * d + 14) = (-5)) <<< (nI d &&& 31))) (nI 0) i_4)]) X hl.1 h (c_X8_flag1 l J z ad G) mw_401 mw_402 mw_5 mw_403 pdX8_flag ⟨Nat.le_of_ble_eq_true rfl, Nat.le_of_ble_eq_true rfl⟩ ⟨Nat.le_of_ble_eq_true rfl, Nat.le_of_ble_eq_true rfl⟩ rfl (Nat.le_of_ble_eq_true rfl) dX8_free_37 (fun H locs h => ?_)
          refine lv_iload_n hx hb dX8_free_40 rfl (lv_at hl 2 rfl) ?_
          refine lv_ishl hx hb dX8_free_41 ?_
          refine lv_as (y := b2 (r (6 * i_4 + 14) = (-5)) <<< (nI i_4 &&& 31)) (congrArg (fun t => t <<< (nI i_4 &&& 31)) (b2_t c_29).symm) ?_
          refine lv_ior hx hb dX8_free_42 ?_
          refine lv_istore_n (lv' := [(1, .int ((itr (fun d a => a ||| (b2 (r (6 * d + 14) = (-5)) <<< (nI d &&& 31))) (nI 0) i_4) ||| (b2 (r (6 * i_4 + 14) = (-5)) <<< (nI i_4 &&& 31)))), (0, .ref (ad 210)), (2, .int (nI i_4))]) hx hb dX8_free_43 rfl hl (by decide) rfl (fun ls hl => ?_)
          refine lv_iinc (v := nI (i_4 + 1)) (lv' := [(2, .int (nI (i_4 + 1))), (1, .int ((itr (fun d a => a ||| (b2 (r (6 * d + 14) = (-5)) <<< (nI d &&& 31))) (nI 0) i_4) ||| (b2 (r (6 * i_4 + 14) = (-5)) <<< (nI i_4 &&& 31)))), (0, .ref (ad 210))]) hx hb dX8_free_44 hl (k := 2) rfl (nI_addc (b := 1) (by omega)) (by decide) rfl (fun ls hl => ?_)
          refine lv_goto (tgt := 4) hx hb dX8_free_47 (by decide) ?_
          exact ih_4 (i_4 + 1) (by omega) (by omega) _ _ _ h (lv_sub hl [2, 1, 0] rfl)
  exact LP_4 (kn r + 1) 0 (by omega) (by omega) _ _ _ h (lv_sub hl [2, 1, 0] rfl)
set_option maxHeartbeats 4000000 in
set_option maxRecDepth 100000 in
theorem c_X8_oldest (l : Launch) (J : JJ) (z : Nat) (ad : Nat → Nat) (G : GG) (r : Nat → Int32) (hrow : rwS (G 211) 0 = r) (hW : WR r) (d x : Int32) : MI l J z ad yX8_oldest cX8_oldest 4 .int 3 [.ref (ad 210), .int d, .int x] G (fun ans uG => ans = (olA r d x) ∧ uG = (G)) := by
  refine MI.go (by decide) (Nat.le_of_ble_eq_true rfl) ?_
  intro pr e s m args below meth c ls Q X h hl hret
  have hx := X.1
  have hb := X.2.1
  have hown := X.2.2.2.1
  have hts := X.2.2.2.2
  have hl : lv_has ls 4 [(0, .ref (ad 210)), (1, .int d), (2, .int x)] := hl
  have hW0 := hW
  obtain ⟨⟨w1, w2⟩, ⟨w3, w4⟩, ⟨w5, w6⟩, w7, w8⟩ := hW
  refine lv_aload_n hx hb dX8_oldest_0 rfl (lv_at hl 0 rfl) ?_
  refine lv_iload_n hx hb dX8_oldest_1 rfl (lv_at hl 1 rfl) ?_
  refine rg_civd (As := [.int d]) (rest := []) X hl.1 h (c_X8_isDrone l J z ad G r hrow w1 w2 d) mw_223 mw_224 mw_225 mw_5 mw_226 pdX8_isDrone (by decide) (xo_210 J ad _) rfl rfl ⟨Nat.le_of_ble_eq_true rfl, Nat.le_of_ble_eq_true rfl⟩ ⟨Nat.le_of_ble_eq_true rfl, Nat.le_of_ble_eq_true rfl⟩ rfl (Nat.le_of_ble_eq_true rfl) dX8_oldest_2 (fun H locs h => ?_)
  refine lv_if_ne (tgt := 10) hx hb dX8_oldest_5 (by decide) (fun c_5 => ?_) (fun c_5 => ?_)
  · rw [b2_z] at c_5
    obtain ⟨D, hD, rfl⟩ := Classical.not_not.mp c_5
    have TD : tn (nI D) = D := tn_nI (by omega)
    obtain ⟨u1a, u2a⟩ := w8 D hD
    refine lv_iload_n hx hb dX8_oldest_10 rfl (lv_at hl 2 rfl) ?_
    refine lv_iconst (v := nI 0) hx hb dX8_oldest_11 (by decide) ?_
    refine lv_iconst (v := nI 1) hx hb dX8_oldest_12 (by decide) ?_
    refine rg_cisd (As := [.int x, .int (nI 0), .int (nI 1)]) (rest := []) X hl.1 h (c_X8_inN l J z ad G x 0 1 (by omega) (by omega)) mw_187 mw_188 mw_5 mw_189 pdX8_in ⟨Nat.le_of_ble_eq_true rfl, Nat.le_of_ble_eq_true rfl⟩ ⟨Nat.le_of_ble_eq_true rfl, Nat.le_of_ble_eq_true rfl⟩ rfl (Nat.le_of_ble_eq_true rfl) dX8_oldest_13 (fun H locs h => ?_)
    refine lv_if_ne (tgt := 22) hx hb dX8_oldest_16 (by decide) (fun c_16 => ?_) (fun c_16 => ?_)
    · rw [b2_z] at c_16
      obtain ⟨Y, hY1, hY2, eY⟩ := Classical.not_not.mp c_16
      have TY : tn x = Y := by rw [eY]; exact tn_nI (by omega)
      rw [eY] at hl
      refine lv_aload_n hx hb dX8_oldest_22 rfl (lv_at hl 0 rfl) ?_
      refine lv_aload_n hx hb dX8_oldest_23 rfl (lv_at hl 0 rfl) ?_
      refine fg_X8_7 X h dX8_oldest_24 ?_
      refine lv_iconst (v := nI 0) hx hb dX8_oldest_27 (by decide) ?_
      refine lv_iload_n hx hb dX8_oldest_28 rfl (lv_at hl 1 rfl) ?_
      refine rg_cisd (As := [.int (nI 0), .int (nI D)]) (rest := [.ref (ad 211), .ref (ad 210)]) X hl.1 h (c_X8_droneAt l J z ad G 0 D) mw_190 mw_191 mw_5 mw_192 pdX8_droneAt ⟨Nat.le_of_ble_eq_true rfl, Nat.le_of_ble_eq_true rfl⟩ ⟨Nat.le_of_ble_eq_true rfl, Nat.le_of_ble_eq_true rfl⟩ rfl (Nat.le_of_ble_eq_true rfl) dX8_oldest_29 (fun H locs h => ?_)
      refine lv_as (y := nI (6 * D + 12)) (congrArg nI (by omega)) ?_
      refine rs_ld X h 0 (6 * D + 12) (congrArg nI (by omega)) (by omega) dX8_oldest_32 ?_
      refine lv_as (y := nI ((dc r D))) ((congrFun hrow _).trans (u1a)) ?_
      refine rg_civd (As := [.int (nI ((dc r D)))]) (rest := []) X hl.1 h (c_X8_oldestAt l J z ad G r hrow hW0 (dc r D) (by omega)) mw_742 mw_743 mw_744 mw_5 mw_745 pdX8_oldestAt (by decide) (xo_210 J ad _) rfl rfl ⟨Nat.le_of_ble_eq_true rfl, Nat.le_of_ble_eq_true rfl⟩ ⟨Nat.le_of_ble_eq_true rfl, Nat.le_of_ble_eq_true rfl⟩ rfl (Nat.le_of_ble_eq_true rfl) dX8_oldest_33 (fun H locs h => ?_)
      refine lv_istore_n (lv' := [(3, .int (opI (oldI r (dc r D) 140))), (0, .ref (ad 210)), (1, .int (nI D)), (2, .int (nI Y))]) hx hb dX8_oldest_36 rfl hl (by decide) rfl (fun ls hl => ?_)
      refine lv_iload_n hx hb dX8_oldest_37 rfl (lv_at hl 0 rfl) ?_
      refine lv_bipush (v := (-5)) hx hb dX8_oldest_38 (by decide) ?_
      refine lv_icmp_ne (tgt := 48) hx hb dX8_oldest_40 (by decide) (fun c_40 => ?_) (fun c_40 => ?_)
      · rw [opI_n (fun k hk => by have := oldI_lt hk; omega)] at c_40
        obtain ⟨k, hk⟩ := Option.ne_none_iff_exists'.mp c_40
        have hk2 := oldI_lt hk
        rw [hk] at hl
        have hl : lv_has ls 4 [(3, .int (nI k)), (0, .ref (ad 210)), (1, .int (nI D)), (2, .int (nI Y))] := hl
        refine lv_iload_n hx hb dX8_oldest_48 rfl (lv_at hl 3 rfl) ?_
        refine lv_if_ne (tgt := 60) hx hb dX8_oldest_49 (by decide) (fun c_49 => ?_) (fun c_49 => ?_)
        · rw [nz_eq (by omega)] at c_49
          refine lv_aload_n hx hb dX8_oldest_60 rfl (lv_at hl 1 rfl) ?_
          refine fg_X8_7 X h dX8_oldest_61 ?_
          refine lv_sipush (v := nI 192) hx hb dX8_oldest_64 (by decide) ?_
          refine lv_iconst (v := nI 3) hx hb dX8_oldest_67 (by decide) ?_
          refine lv_iload_n hx hb dX8_oldest_68 rfl (lv_at hl 0 rfl) ?_
          refine lv_imul hx hb dX8_oldest_69 ?_
          refine lv_as (y := nI (3 * k)) (nI_mulc (by omega)) ?_
          refine lv_iadd hx hb dX8_oldest_70 ?_
          refine lv_as (y := nI (3 * k + 192)) (nI_addc (by omega)) ?_
          refine lv_iconst (v := nI 2) hx hb dX8_oldest_71 (by decide) ?_
          refine lv_iadd hx hb dX8_oldest_72 ?_
          refine lv_as (y := nI (3 * k + 194)) (nI_addc (by omega)) ?_
          refine rs_ld X h 0 (3 * k + 194) (congrArg nI (by omega)) (by omega) dX8_oldest_73 ?_
          refine lv_as (y := r (3 * k + 194)) (congrFun hrow _) ?_
          exact hret (r (3 * k + 194)) G _ _ 74 _ (⟨by unfold olA; rw [cif_t ⟨D, hD, rfl⟩, cif_t ⟨Y, hY1, hY2, eY⟩, TD, hk]; exact (if_neg (by rw [eY]; exact fun q => c_49 ((nz_eq (by omega)).mp q))).symm, rfl⟩) h dX8_oldest_74
        · rw [nz_eq (by omega)] at c_49
          refine lv_aload_n hx hb dX8_oldest_52 rfl (lv_at hl 1 rfl) ?_
          refine lv_iload_n hx hb dX8_oldest_53 rfl (lv_at hl 0 rfl) ?_
          refine rg_civd (As := [.int (nI k)]) (rest := []) X hl.1 h (c_X8_rankOf l J z ad G r hrow hW0 k (by omega)) mw_746 mw_747 mw_748 mw_5 mw_749 pdX8_rankOf (by decide) (xo_210 J ad _) rfl rfl ⟨Nat.le_of_ble_eq_true rfl, Nat.le_of_ble_eq_true rfl⟩ ⟨Nat.le_of_ble_eq_true rfl, Nat.le_of_ble_eq_true rfl⟩ rfl (Nat.le_of_ble_eq_true rfl) dX8_oldest_54 (fun H locs h => ?_)
          refine lv_goto (tgt := 74) hx hb dX8_oldest_57 (by decide) ?_
          exact hret (nI ((cnt (LW r) k))) G _ _ 74 _ (⟨by unfold olA; rw [cif_t ⟨D, hD, rfl⟩, cif_t ⟨Y, hY1, hY2, eY⟩, TD, hk]; exact (if_pos (by rw [eY, c_49]; rfl)).symm, rfl⟩) h dX8_oldest_74
      · rw [opI_n (fun k hk => by have := oldI_lt hk; omega)] at c_40
        refine lv_bipush (v := (-5)) hx hb dX8_oldest_43 (by decide) ?_
        refine lv_goto (tgt := 74) hx hb dX8_oldest_45 (by decide) ?_
        exact hret (-5) G _ _ 74 _ (⟨by unfold olA; rw [cif_t ⟨D, hD, rfl⟩, cif_t ⟨Y, hY1, hY2, eY⟩, TD, c_40], rfl⟩) h dX8_oldest_74
    · rw [b2_z] at c_16
      refine lv_bipush (v := (-2)) hx hb dX8_oldest_19 (by decide) ?_
      exact hret (-2) G _ _ 21 _ (⟨by unfold olA; rw [cif_t ⟨D, hD, rfl⟩, cif_f c_16], rfl⟩) h dX8_oldest_21
  · rw [b2_z] at c_5
    refine lv_iconst (v := (-1)) hx hb dX8_oldest_8 (by decide) ?_
    exact hret (-1) G _ _ 9 _ (⟨by unfold olA; rw [cif_f c_5], rfl⟩) h dX8_oldest_9
