/-! THE CLASS: what is told -/
theorem fst_p {P : Nat → Prop} : ∀ {n k : Nat}, fst P n = some k → P k := by
  intro n
  induction n with
  | zero => intro k h; cases h
  | succ n ih =>
    intro k h
    unfold fst at h
    cases e : fst P n with
    | none =>
      rw [e] at h
      by_cases g : P n
      · have h2 : cif (P n) (some n) none = some k := h
        rw [cif_t g] at h2
        cases h2
        exact g
      · have h2 : cif (P n) (some n) none = some k := h
        rw [cif_f g] at h2
        cases h2
    | some j =>
      rw [e] at h
      cases h
      exact ih e
theorem rkd_LW {r : Nat → Int32} {x : Int32} {k : Nat} (h : rkd r x = some k) : LW r k := (fst_p h).1
theorem RepL_at {G : GG} {b : Nat} {r : Nat → Int32} (h : RepL G b r) {k : Nat} (hk : k < 140) (hl : LW r k) : G (b + 8) k = r (3 * k + 192) ∧ G (b + 9) k = r (3 * k + 193) ∧ G (b + 10) k = r (3 * k + 194) := by
  rcases h k hk with ⟨a, -⟩ | ⟨-, a, -, c, -, d⟩
  · exact absurd a hl
  · exact ⟨a, c, d⟩
theorem supp_natR {G : GG} {b : Nat} {r : Nat → Int32} (hR : Rep G b r) {q : Nat} (hq : q < mn r) : ∃ w, w ≤ 117 ∧ supp r q = nI w := by
  obtain ⟨v, -, h2, h3⟩ := supp_nat hR.1.1.1.2 (hR.1.1.2.2.2.1 q hq).2.1 (fun d hd => (hR.2.1.2.1 d hd).2.2.2.2.2)
  exact ⟨v, h2, h3⟩
/-- the drones who can still petition, by bits -/
theorem mk_bit {r : Nat → Int32} {i : Nat} (hi : i < 32) : ∀ m, (∀ q, q < m → pd r q < 32) → (bt (mkI r m) i = true ↔ ∃ q, q < m ∧ pd r q = i) := by
  intro m
  induction m with
  | zero =>
    intro _
    have : bt (mkI r 0) i = false := b_0 i
    rw [this]
    exact ⟨fun h => (by cases h), fun ⟨q, h, _⟩ => by omega⟩
  | succ m ih =>
    intro h
    have e : mkI r (m + 1) = mkI r m ||| (nI 1 <<< (nI (pd r m) &&& 31)) := rfl
    rw [e, bt_set (h m (by omega)) hi, Bool.or_eq_true, ih (fun q hq => h q (by omega)), decide_eq_true_iff]
    constructor
    · rintro (⟨q, h1, h2⟩ | h1)
      · exact ⟨q, by omega, h2⟩
      · exact ⟨m, by omega, h1.symm⟩
    · rintro ⟨q, h1, h2⟩
      by_cases g : q = m
      · subst g
        exact Or.inr h2.symm
      · exact Or.inl ⟨q, by omega, h2⟩
theorem b2_shl (P : Prop) (d : Nat) : b2 P <<< (nI d &&& 31) = cif P (nI 1 <<< (nI d &&& 31)) 0 := by
  rcases Classical.em P with h | h
  · rw [b2_t h, cif_t h]
    rfl
  · rw [b2_f h, cif_f h]
    exact Int32.zero_shiftLeft
theorem fr_bit {r : Nat → Int32} {i : Nat} (hi : i < 32) : ∀ n, n ≤ 32 → (bt (itr (fun d a => a ||| (b2 (r (6 * d + 14) = (-5)) <<< (nI d &&& 31))) (nI 0) n) i = true ↔ i < n ∧ r (6 * i + 14) = (-5)) := by
  intro n
  induction n with
  | zero =>
    intro _
    have : bt (itr (fun d a => a ||| (b2 (r (6 * d + 14) = (-5)) <<< (nI d &&& 31))) (nI 0) 0) i = false := b_0 i
    rw [this]
    exact ⟨fun h => (by cases h), fun ⟨h, _⟩ => by omega⟩
  | succ n ih =>
    intro h
    show bt (itr _ _ n ||| (b2 _ <<< _)) i = true ↔ _
    rw [b_or, Bool.or_eq_true, ih (by omega), b2_shl]
    rcases Classical.em (r (6 * n + 14) = (-5)) with g | g
    · rw [cif_t g, b_one (by omega) hi, decide_eq_true_iff]
      constructor
      · rintro (⟨h1, h2⟩ | h1)
        · exact ⟨by omega, h2⟩
        · subst h1
          exact ⟨by omega, g⟩
      · rintro ⟨h1, h2⟩
        by_cases e : i = n
        · exact Or.inr e
        · exact Or.inl ⟨by omega, h2⟩
    · rw [cif_f g]
      constructor
      · rintro (⟨h1, h2⟩ | h1)
        · exact ⟨by omega, h2⟩
        · rw [b_0] at h1
          cases h1
      · rintro ⟨h1, h2⟩
        refine Or.inl ⟨?_, h2⟩
        have : i ≠ n := fun e => g (by rw [← e]; exact h2)
        omega
theorem ones_bit : ∀ n, n < 13 → ∀ i, i < 32 → bt ((nI 1 <<< (nI n &&& 31)) - nI 1) i = decide (i < n) := by decide +kernel
theorem free_eq {r : Nat → Int32} (hI : RI r) : ((nI 1 <<< (nI (kn r) &&& 31)) - nI 1) &&& (mkI r (mn r) ^^^ (-1)) = freeS r := by
  obtain ⟨⟨⟨w1, w2⟩, ⟨w3, w4⟩, ⟨w5, w6⟩, w7, w8⟩, o1, o2, o3⟩ := hI
  refine b_ext (fun i hi => ?_)
  rw [b_and, ones_bit _ (by omega) i hi, b_xor, b_m1 i hi, Bool.xor_true]
  have h1 := mk_bit (r := r) hi (mn r) (fun q hq => by have := (w7 q hq).2.1; omega)
  have h2 := fr_bit (r := r) hi (kn r) (by omega)
  have h3 : bt (freeS r) i = true ↔ i < kn r ∧ r (6 * i + 14) = (-5) := h2
  rw [Bool.eq_iff_iff, Bool.and_eq_true, decide_eq_true_iff, Bool.not_eq_true', ← Bool.not_eq_true, h1, h3]
  constructor
  · rintro ⟨g1, g2⟩
    refine ⟨g1, ?_⟩
    rcases o2 i g1 with e | ⟨q, q1, q2, q3⟩
    · exact e
    · exact absurd ⟨q, q1, q3⟩ g2
  · rintro ⟨g1, g2⟩
    refine ⟨g1, ?_⟩
    rintro ⟨q, q1, q2⟩
    have := o1 q q1
    rw [q2, g2] at this
    exact nI_n5 (by omega) this.symm
set_option maxHeartbeats 4000000 in
set_option maxRecDepth 100000 in
theorem c_X7_drone (l : Launch) (J : JJ) (z : ZZ) (ad : Nat → Nat) (G : GG) (r : Nat → Int32) (hR : Rep G 1 r) (d x : Int32) : MI l J z ad yX7_drone cX7_drone 4 .int 1 [.ref (ad 0), .int d, .int x] G (fun ans uG => ans = (drA r d x) ∧ uG = (G)) := by
  refine MI.go (by decide) (Nat.le_of_ble_eq_true rfl) ?_
  intro pr e s m args below meth c ls Q X h hl hret
  have hx := X.1
  have hb := X.2.1
  have hown := X.2.2.2.1
  have hts := X.2.2.2.2
  have hl : lv_has ls 4 [(0, .ref (ad 0)), (1, .int d), (2, .int x)] := hl
  have hR0 := hR
  obtain ⟨hI, hS, hL, hP, hQ, hV, hBt⟩ := hR
  have hW := hI.1
  obtain ⟨⟨w1, w2⟩, ⟨w3, w4⟩, ⟨w5, w6⟩, w7, w8⟩ := hI.1
  have k1 : G (1 + 1) 0 = nI (kn r) := hS.1.trans w1
  have k2 : G (1 + 11) 0 = nI (mn r) := hP.1.trans w3
  have k3 : G (1 + 18) 0 = nI (on r) := hQ.1.trans w5
  refine lv_aload_n hx hb dX7_drone_0 rfl (lv_at hl 0 rfl) ?_
  refine fg_X7_12 X h dX7_drone_1 ?_
  refine fg_X7_108 isB_1 X h dX7_drone_4 ?_
  refine lv_astore_n (lv' := [(3, .ref (ad (1 + 1))), (0, .ref (ad 0)), (1, .int d), (2, .int x)]) hx hb dX7_drone_7 rfl hl (by decide) rfl (fun ls hl => ?_)
  refine lv_aload_n hx hb dX7_drone_8 rfl (lv_at hl 0 rfl) ?_
  refine lv_iload_n hx hb dX7_drone_9 rfl (lv_at hl 2 rfl) ?_
  refine rg_civd (As := [.int d]) (rest := []) X hl.1 h (c_X6_knows l J z ad G 1 isB_1 r hR0 d ) mw_182 mw_183 mw_184 mw_30 mw_185 pdX6_knows (isB_1.lt (by decide)) (so_1 isB_1 J ad _) rfl rfl ⟨Nat.le_of_ble_eq_true rfl, Nat.le_of_ble_eq_true rfl⟩ ⟨Nat.le_of_ble_eq_true rfl, Nat.le_of_ble_eq_true rfl⟩ rfl (Nat.le_of_ble_eq_true rfl) dX7_drone_10 (fun H locs h => ?_)
  refine lv_if_ne (tgt := 18) hx hb dX7_drone_13 (by decide) (fun c_13 => ?_) (fun c_13 => ?_)
  · rw [b2_z] at c_13
    obtain ⟨D, hD, rfl⟩ := Classical.not_not.mp c_13
    have TD : tn (nI D) = D := tn_nI (by omega)
    refine lv_iload_n hx hb dX7_drone_18 rfl (lv_at hl 3 rfl) ?_
    rcases Classical.em (isN x 7) with c_19 | c_19
    · obtain ⟨w_19, hw_19, e_19⟩ := c_19
      rcases (show w_19 = 0 ∨ w_19 = 1 ∨ w_19 = 2 ∨ w_19 = 3 ∨ w_19 = 4 ∨ w_19 = 5 ∨ w_19 = 6 by omega) with rfl | rfl | rfl | rfl | rfl | rfl | rfl
      · refine lv_as (y := nI 0) e_19 ?_
        refine lv_tableIn (off := 41) (tgt := 60) hx hb dX7_drone_19 (by decide) (by decide) rfl (by decide) ?_
        rw [e_19] at hl
        refine lv_aload_n hx hb dX7_drone_60 rfl (lv_at hl 0 rfl) ?_
        refine fg_X7_118 isB_1 X h dX7_drone_61 ?_
        refine lv_iload_n hx hb dX7_drone_64 rfl (lv_at hl 2 rfl) ?_
        refine rg_ild X h (1 + 2) (isB_1.lt (by decide)) (sa_2 isB_1 J ad) (D) rfl (by omega) (by decide) dX7_drone_65 ?_
        refine lv_as (y := r (6 * D + 12)) ((hS.2.1 D hD).1) ?_
        exact hret (r (6 * D + 12)) G _ _ 66 _ (⟨by unfold drA; rw [cif_t ⟨D, hD, rfl⟩, e_19, cif_t ⟨0, by omega, by omega, rfl⟩, TD, tn_nI (by omega)] <;> exact congrArg r (by omega), rfl⟩) h dX7_drone_66
      · refine lv_as (y := nI 1) e_19 ?_
        refine lv_tableIn (off := 48) (tgt := 67) hx hb dX7_drone_19 (by decide) (by decide) rfl (by decide) ?_
        rw [e_19] at hl
        refine lv_aload_n hx hb dX7_drone_67 rfl (lv_at hl 0 rfl) ?_
        refine fg_X7_122 isB_1 X h dX7_drone_68 ?_
        refine lv_iload_n hx hb dX7_drone_71 rfl (lv_at hl 2 rfl) ?_
        refine rg_ild X h (1 + 3) (isB_1.lt (by decide)) (sa_3 isB_1 J ad) (D) rfl (by omega) (by decide) dX7_drone_72 ?_
        refine lv_as (y := r (6 * D + 13)) ((hS.2.1 D hD).2.1) ?_
        exact hret (r (6 * D + 13)) G _ _ 73 _ (⟨by unfold drA; rw [cif_t ⟨D, hD, rfl⟩, e_19, cif_t ⟨1, by omega, by omega, rfl⟩, TD, tn_nI (by omega)] <;> exact congrArg r (by omega), rfl⟩) h dX7_drone_73
      · refine lv_as (y := nI 2) e_19 ?_
        refine lv_tableIn (off := 55) (tgt := 74) hx hb dX7_drone_19 (by decide) (by decide) rfl (by decide) ?_
        rw [e_19] at hl
        refine lv_aload_n hx hb dX7_drone_74 rfl (lv_at hl 1 rfl) ?_
        refine fg_X7_12 X h dX7_drone_75 ?_
        refine fg_X7_125 isB_1 X h dX7_drone_78 ?_
        refine lv_iload_n hx hb dX7_drone_81 rfl (lv_at hl 2 rfl) ?_
        refine rg_civd (As := [.int (nI D)]) (rest := []) X hl.1 h (c_X3_madeBy l J z ad G 1 isB_1 r hR0 D (by omega)) mw_186 mw_187 mw_188 mw_38 mw_189 pdX3_madeBy (isB_1.lt (by decide)) (so_11 isB_1 J ad _) rfl rfl ⟨Nat.le_of_ble_eq_true rfl, Nat.le_of_ble_eq_true rfl⟩ ⟨Nat.le_of_ble_eq_true rfl, Nat.le_of_ble_eq_true rfl⟩ rfl (Nat.le_of_ble_eq_true rfl) dX7_drone_82 (fun H locs h => ?_)
        exact hret (r (6 * D + 14)) G _ _ 85 _ (⟨by unfold drA; rw [cif_t ⟨D, hD, rfl⟩, e_19, cif_t ⟨2, by omega, by omega, rfl⟩, TD, tn_nI (by omega)] <;> exact congrArg r (by omega), rfl⟩) h dX7_drone_85
      · refine lv_as (y := nI 3) e_19 ?_
        refine lv_tableIn (off := 67) (tgt := 86) hx hb dX7_drone_19 (by decide) (by decide) rfl (by decide) ?_
        rw [e_19] at hl
        refine lv_aload_n hx hb dX7_drone_86 rfl (lv_at hl 1 rfl) ?_
        refine fg_X7_12 X h dX7_drone_87 ?_
        refine fg_X7_125 isB_1 X h dX7_drone_90 ?_
        refine lv_iload_n hx hb dX7_drone_93 rfl (lv_at hl 2 rfl) ?_
        refine rg_civd (As := [.int (nI D)]) (rest := []) X hl.1 h (c_X3_secondedBy l J z ad G 1 isB_1 r hR0 (nI D) ) mw_191 mw_192 mw_193 mw_38 mw_194 pdX3_secondedBy (isB_1.lt (by decide)) (so_11 isB_1 J ad _) rfl rfl ⟨Nat.le_of_ble_eq_true rfl, Nat.le_of_ble_eq_true rfl⟩ ⟨Nat.le_of_ble_eq_true rfl, Nat.le_of_ble_eq_true rfl⟩ rfl (Nat.le_of_ble_eq_true rfl) dX7_drone_94 (fun H locs h => ?_)
        exact hret (sc2 r (nI D)) G _ _ 97 _ (⟨by unfold drA; rw [cif_t ⟨D, hD, rfl⟩, e_19, cif_f (fun q => by obtain ⟨e, e1, e2, e3⟩ := q; rw [nI_eq (by omega) (by omega)] at e3; omega), if_pos rfl], rfl⟩) h dX7_drone_97
      · refine lv_as (y := nI 4) e_19 ?_
        refine lv_tableIn (off := 79) (tgt := 98) hx hb dX7_drone_19 (by decide) (by decide) rfl (by decide) ?_
        rw [e_19] at hl
        refine lv_aload_n hx hb dX7_drone_98 rfl (lv_at hl 0 rfl) ?_
        refine fg_X7_137 isB_1 X h dX7_drone_99 ?_
        refine lv_iload_n hx hb dX7_drone_102 rfl (lv_at hl 2 rfl) ?_
        refine rg_ild X h (1 + 4) (isB_1.lt (by decide)) (sa_4 isB_1 J ad) (D) rfl (by omega) (by decide) dX7_drone_103 ?_
        refine lv_as (y := r (6 * D + 15)) ((hS.2.1 D hD).2.2.1) ?_
        exact hret (r (6 * D + 15)) G _ _ 104 _ (⟨by unfold drA; rw [cif_t ⟨D, hD, rfl⟩, e_19, cif_f (fun q => by obtain ⟨e, e1, e2, e3⟩ := q; rw [nI_eq (by omega) (by omega)] at e3; omega), if_neg (by decide), cif_t ⟨4, by omega, by omega, rfl⟩, TD, tn_nI (by omega)] <;> exact congrArg r (by omega), rfl⟩) h dX7_drone_104
      · refine lv_as (y := nI 5) e_19 ?_
        refine lv_tableIn (off := 86) (tgt := 105) hx hb dX7_drone_19 (by decide) (by decide) rfl (by decide) ?_
        rw [e_19] at hl
        refine lv_aload_n hx hb dX7_drone_105 rfl (lv_at hl 0 rfl) ?_
        refine fg_X7_140 isB_1 X h dX7_drone_106 ?_
        refine lv_iload_n hx hb dX7_drone_109 rfl (lv_at hl 2 rfl) ?_
        refine rg_ild X h (1 + 5) (isB_1.lt (by decide)) (sa_5 isB_1 J ad) (D) rfl (by omega) (by decide) dX7_drone_110 ?_
        refine lv_as (y := r (6 * D + 16)) ((hS.2.1 D hD).2.2.2.1) ?_
        exact hret (r (6 * D + 16)) G _ _ 111 _ (⟨by unfold drA; rw [cif_t ⟨D, hD, rfl⟩, e_19, cif_f (fun q => by obtain ⟨e, e1, e2, e3⟩ := q; rw [nI_eq (by omega) (by omega)] at e3; omega), if_neg (by decide), cif_t ⟨5, by omega, by omega, rfl⟩, TD, tn_nI (by omega)] <;> exact congrArg r (by omega), rfl⟩) h dX7_drone_111
      · refine lv_as (y := nI 6) e_19 ?_
        refine lv_tableIn (off := 93) (tgt := 112) hx hb dX7_drone_19 (by decide) (by decide) rfl (by decide) ?_
        rw [e_19] at hl
        refine lv_aload_n hx hb dX7_drone_112 rfl (lv_at hl 0 rfl) ?_
        refine fg_X7_143 isB_1 X h dX7_drone_113 ?_
        refine lv_iload_n hx hb dX7_drone_116 rfl (lv_at hl 2 rfl) ?_
        refine rg_ild X h (1 + 6) (isB_1.lt (by decide)) (sa_6 isB_1 J ad) (D) rfl (by omega) (by decide) dX7_drone_117 ?_
        refine lv_as (y := r (6 * D + 17)) ((hS.2.1 D hD).2.2.2.2.1) ?_
        exact hret (r (6 * D + 17)) G _ _ 118 _ (⟨by unfold drA; rw [cif_t ⟨D, hD, rfl⟩, e_19, cif_f (fun q => by obtain ⟨e, e1, e2, e3⟩ := q; rw [nI_eq (by omega) (by omega)] at e3; omega), if_neg (by decide), cif_t ⟨6, by omega, by omega, rfl⟩, TD, tn_nI (by omega)] <;> exact congrArg r (by omega), rfl⟩) h dX7_drone_118
    · refine lv_tableOut (tgt := 119) hx hb dX7_drone_19 (sw_out (by decide) c_19) (by decide) ?_
      refine lv_bipush (v := (-2)) hx hb dX7_drone_119 (by decide) ?_
      exact hret (-2) G _ _ 121 _ (⟨by unfold drA; rw [cif_t ⟨D, hD, rfl⟩, cif_f (fun q => by obtain ⟨e, e1, e2, e3⟩ := q; exact c_19 ⟨e, by omega, e3⟩), if_neg (fun q => c_19 ⟨3, by omega, q⟩), cif_f (fun q => by obtain ⟨e, e1, e2, e3⟩ := q; exact c_19 ⟨e, by omega, e3⟩)], rfl⟩) h dX7_drone_121
  · rw [b2_z] at c_13
    refine lv_iconst (v := (-1)) hx hb dX7_drone_16 (by decide) ?_
    exact hret (-1) G _ _ 17 _ (⟨by unfold drA; rw [cif_f c_13], rfl⟩) h dX7_drone_17
set_option maxHeartbeats 4000000 in
set_option maxRecDepth 100000 in
theorem c_X7_bylaw (l : Launch) (J : JJ) (z : ZZ) (ad : Nat → Nat) (G : GG) (r : Nat → Int32) (hR : Rep G 1 r) (x y : Int32) : MI l J z ad yX7_bylaw cX7_bylaw 5 .int 1 [.ref (ad 0), .int x, .int y] G (fun ans uG => ans = (byA r x y) ∧ uG = (G)) := by
  refine MI.go (by decide) (Nat.le_of_ble_eq_true rfl) ?_
  intro pr e s m args below meth c ls Q X h hl hret
  have hx := X.1
  have hb := X.2.1
  have hown := X.2.2.2.1
  have hts := X.2.2.2.2
  have hl : lv_has ls 5 [(0, .ref (ad 0)), (1, .int x), (2, .int y)] := hl
  have hR0 := hR
  obtain ⟨hI, hS, hL, hP, hQ, hV, hBt⟩ := hR
  have hW := hI.1
  obtain ⟨⟨w1, w2⟩, ⟨w3, w4⟩, ⟨w5, w6⟩, w7, w8⟩ := hI.1
  have k1 : G (1 + 1) 0 = nI (kn r) := hS.1.trans w1
  have k2 : G (1 + 11) 0 = nI (mn r) := hP.1.trans w3
  have k3 : G (1 + 18) 0 = nI (on r) := hQ.1.trans w5
  refine lv_iload_n hx hb dX7_bylaw_0 rfl (lv_at hl 1 rfl) ?_
  refine lv_if_lt (tgt := 13) hx hb dX7_bylaw_1 (by decide) (fun c_1 => ?_) (fun c_1 => ?_)
  · refine lv_bipush (v := (-2)) hx hb dX7_bylaw_13 (by decide) ?_
    exact hret (-2) G _ _ 15 _ (⟨by unfold byA; rw [cif_f (fun q => by have q2 := (inN_iff (by omega) (by omega)).mpr q.2; first | exact q.1 c_1 | exact Int32.not_lt.mpr q2.1 c_5 | exact c_10 q2.2)], rfl⟩) h dX7_bylaw_15
  · refine lv_iload_n hx hb dX7_bylaw_4 rfl (lv_at hl 2 rfl) ?_
    refine lv_if_lt (tgt := 13) hx hb dX7_bylaw_5 (by decide) (fun c_5 => ?_) (fun c_5 => ?_)
    · refine lv_bipush (v := (-2)) hx hb dX7_bylaw_13 (by decide) ?_
      exact hret (-2) G _ _ 15 _ (⟨by unfold byA; rw [cif_f (fun q => by have q2 := (inN_iff (by omega) (by omega)).mpr q.2; first | exact q.1 c_1 | exact Int32.not_lt.mpr q2.1 c_5 | exact c_10 q2.2)], rfl⟩) h dX7_bylaw_15
    · refine lv_iload_n hx hb dX7_bylaw_8 rfl (lv_at hl 2 rfl) ?_
      refine lv_iconst (v := nI 5) hx hb dX7_bylaw_9 (by decide) ?_
      refine lv_icmp_le (tgt := 16) hx hb dX7_bylaw_10 (by decide) (fun c_10 => ?_) (fun c_10 => ?_)
      · have hy : inN y 0 5 := (inN_iff (by omega) (by omega)).mp ⟨Int32.not_lt.mp c_5, c_10⟩
        have hxn : ¬ x < 0 := c_1
        refine lv_aload_n hx hb dX7_bylaw_16 rfl (lv_at hl 0 rfl) ?_
        refine fg_X7_12 X h dX7_bylaw_17 ?_
        refine fg_X7_99 isB_1 X h dX7_bylaw_20 ?_
        refine lv_astore_n (lv' := [(3, .ref (ad (1 + 7))), (0, .ref (ad 0)), (1, .int x), (2, .int y)]) hx hb dX7_bylaw_23 rfl hl (by decide) rfl (fun ls hl => ?_)
        refine lv_aload_n hx hb dX7_bylaw_24 rfl (lv_at hl 0 rfl) ?_
        refine lv_iload_n hx hb dX7_bylaw_25 rfl (lv_at hl 2 rfl) ?_
        refine rg_civd (As := [.int x]) (rest := []) X hl.1 h (c_X1_spotAt l J z ad G 1 isB_1 r hR0 x ) mw_164 mw_165 mw_166 mw_34 mw_167 pdX1_spotAt (isB_1.lt (by decide)) (so_7 isB_1 J ad _) rfl rfl ⟨Nat.le_of_ble_eq_true rfl, Nat.le_of_ble_eq_true rfl⟩ ⟨Nat.le_of_ble_eq_true rfl, Nat.le_of_ble_eq_true rfl⟩ rfl (Nat.le_of_ble_eq_true rfl) dX7_bylaw_26 (fun H locs h => ?_)
        refine lv_istore (lv' := [(4, .int (opI (rkd r x))), (3, .ref (ad (1 + 7))), (0, .ref (ad 0)), (1, .int x), (2, .int y)]) hx hb dX7_bylaw_29 hl (by decide) rfl (fun ls hl => ?_)
        refine lv_iload hx hb dX7_bylaw_31 (lv_at hl 0 rfl) ?_
        refine lv_bipush (v := (-5)) hx hb dX7_bylaw_33 (by decide) ?_
        refine lv_icmp_ne (tgt := 41) hx hb dX7_bylaw_35 (by decide) (fun c_35 => ?_) (fun c_35 => ?_)
        · rw [opI_n (fun k hk => by have := rkd_lt hk; omega)] at c_35
          obtain ⟨k, hk⟩ := Option.ne_none_iff_exists'.mp c_35
          have hk2 := rkd_lt hk
          obtain ⟨l8, l9, l10⟩ := RepL_at hL hk2 (rkd_LW hk)
          rw [hk] at hl
          have hl : lv_has ls 5 [(4, .int (nI k)), (3, .ref (ad (1 + 7))), (0, .ref (ad 0)), (1, .int x), (2, .int y)] := hl
          refine lv_iload_n hx hb dX7_bylaw_41 rfl (lv_at hl 4 rfl) ?_
          rcases Classical.em (isN y 5) with c_42 | c_42
          · obtain ⟨w_42, hw_42, e_42⟩ := c_42
            rcases (show w_42 = 0 ∨ w_42 = 1 ∨ w_42 = 2 ∨ w_42 = 3 ∨ w_42 = 4 by omega) with rfl | rfl | rfl | rfl | rfl
            · refine lv_as (y := nI 0) e_42 ?_
              refine lv_tableIn (off := 34) (tgt := 76) hx hb dX7_bylaw_42 (by decide) (by decide) rfl (by decide) ?_
              rw [e_42] at hl
              refine lv_iload hx hb dX7_bylaw_76 (lv_at hl 0 rfl) ?_
              refine lv_bipush (v := nI 20) hx hb dX7_bylaw_78 (by decide) ?_
              refine lv_idiv hx hb dX7_bylaw_80 (by decide) ?_
              refine lv_as (y := nI ((k / 20))) (pk_div (by omega) (by omega) (by omega)) ?_
              exact hret (nI ((k / 20))) G _ _ 81 _ (⟨by unfold byA; rw [cif_t ⟨hxn, hy⟩, hk]; show _ = byB r y k; unfold byB; rw [e_42, if_pos (show nI 0 = 0 from rfl)], rfl⟩) h dX7_bylaw_81
            · refine lv_as (y := nI 1) e_42 ?_
              refine lv_tableIn (off := 40) (tgt := 82) hx hb dX7_bylaw_42 (by decide) (by decide) rfl (by decide) ?_
              rw [e_42] at hl
              refine lv_iload hx hb dX7_bylaw_82 (lv_at hl 0 rfl) ?_
              refine lv_bipush (v := nI 20) hx hb dX7_bylaw_84 (by decide) ?_
              refine lv_irem hx hb dX7_bylaw_86 (by decide) ?_
              refine lv_as (y := nI ((k % 20))) (pk_rem (by omega) (by omega) (by omega)) ?_
              exact hret (nI ((k % 20))) G _ _ 87 _ (⟨by unfold byA; rw [cif_t ⟨hxn, hy⟩, hk]; show _ = byB r y k; unfold byB; rw [e_42, if_neg (by decide), if_pos rfl], rfl⟩) h dX7_bylaw_87
            · refine lv_as (y := nI 2) e_42 ?_
              refine lv_tableIn (off := 46) (tgt := 88) hx hb dX7_bylaw_42 (by decide) (by decide) rfl (by decide) ?_
              rw [e_42] at hl
              refine lv_aload_n hx hb dX7_bylaw_88 rfl (lv_at hl 1 rfl) ?_
              refine fg_X7_149 isB_1 X h dX7_bylaw_89 ?_
              refine lv_iload hx hb dX7_bylaw_92 (lv_at hl 0 rfl) ?_
              refine rg_ild X h (1 + 8) (isB_1.lt (by decide)) (sa_8 isB_1 J ad) (k) rfl (by omega) (by decide) dX7_bylaw_94 ?_
              refine lv_as (y := r (3 * k + 192)) (l8) ?_
              exact hret (r (3 * k + 192)) G _ _ 95 _ (⟨by unfold byA; rw [cif_t ⟨hxn, hy⟩, hk]; show _ = byB r y k; unfold byB; rw [e_42, if_neg (by decide), if_neg (by decide), if_neg (by decide), tn_nI (by omega)] <;> exact congrArg r (by omega), rfl⟩) h dX7_bylaw_95
            · refine lv_as (y := nI 3) e_42 ?_
              refine lv_tableIn (off := 54) (tgt := 96) hx hb dX7_bylaw_42 (by decide) (by decide) rfl (by decide) ?_
              rw [e_42] at hl
              refine lv_aload_n hx hb dX7_bylaw_96 rfl (lv_at hl 1 rfl) ?_
              refine fg_X7_152 isB_1 X h dX7_bylaw_97 ?_
              refine lv_iload hx hb dX7_bylaw_100 (lv_at hl 0 rfl) ?_
              refine rg_ild X h (1 + 9) (isB_1.lt (by decide)) (sa_9 isB_1 J ad) (k) rfl (by omega) (by decide) dX7_bylaw_102 ?_
              refine lv_as (y := r (3 * k + 193)) (l9) ?_
              exact hret (r (3 * k + 193)) G _ _ 103 _ (⟨by unfold byA; rw [cif_t ⟨hxn, hy⟩, hk]; show _ = byB r y k; unfold byB; rw [e_42, if_neg (by decide), if_neg (by decide), if_neg (by decide), tn_nI (by omega)] <;> exact congrArg r (by omega), rfl⟩) h dX7_bylaw_103
            · refine lv_as (y := nI 4) e_42 ?_
              refine lv_tableIn (off := 62) (tgt := 104) hx hb dX7_bylaw_42 (by decide) (by decide) rfl (by decide) ?_
              rw [e_42] at hl
              refine lv_aload_n hx hb dX7_bylaw_104 rfl (lv_at hl 1 rfl) ?_
              refine fg_X7_155 isB_1 X h dX7_bylaw_105 ?_
              refine lv_iload hx hb dX7_bylaw_108 (lv_at hl 0 rfl) ?_
              refine rg_ild X h (1 + 10) (isB_1.lt (by decide)) (sa_10 isB_1 J ad) (k) rfl (by omega) (by decide) dX7_bylaw_110 ?_
              refine lv_as (y := r (3 * k + 194)) (l10) ?_
              exact hret (r (3 * k + 194)) G _ _ 111 _ (⟨by unfold byA; rw [cif_t ⟨hxn, hy⟩, hk]; show _ = byB r y k; unfold byB; rw [e_42, if_neg (by decide), if_neg (by decide), if_neg (by decide), tn_nI (by omega)] <;> exact congrArg r (by omega), rfl⟩) h dX7_bylaw_111
          · refine lv_tableOut (tgt := 112) hx hb dX7_bylaw_42 (sw_out (by decide) c_42) (by decide) ?_
            refine lv_aload_n hx hb dX7_bylaw_112 rfl (lv_at hl 2 rfl) ?_
            refine fg_X7_12 X h dX7_bylaw_113 ?_
            refine fg_X7_108 isB_1 X h dX7_bylaw_116 ?_
            refine lv_iload hx hb dX7_bylaw_119 (lv_at hl 0 rfl) ?_
            refine lv_bipush (v := nI 20) hx hb dX7_bylaw_121 (by decide) ?_
            refine lv_idiv hx hb dX7_bylaw_123 (by decide) ?_
            refine lv_as (y := nI ((k / 20))) (pk_div (by omega) (by omega) (by omega)) ?_
            refine rg_civd (As := [.int (nI ((k / 20)))]) (rest := []) X hl.1 h (c_X6_weightAt l J z ad G 1 isB_1 r hR0 (nI ((k / 20))) ) mw_168 mw_169 mw_170 mw_30 mw_171 pdX6_weightAt (isB_1.lt (by decide)) (so_1 isB_1 J ad _) rfl rfl ⟨Nat.le_of_ble_eq_true rfl, Nat.le_of_ble_eq_true rfl⟩ ⟨Nat.le_of_ble_eq_true rfl, Nat.le_of_ble_eq_true rfl⟩ rfl (Nat.le_of_ble_eq_true rfl) dX7_bylaw_124 (fun H locs h => ?_)
            have e5 : y = nI 5 := by
              obtain ⟨e, e1, e2, e3⟩ := hy
              by_cases g : e = 5
              · rw [e3, g]
              · exact absurd ⟨e, by omega, e3⟩ c_42
            exact hret (wgt r (nI ((k / 20)))) G _ _ 127 _ (⟨by unfold byA; rw [cif_t ⟨hxn, hy⟩, hk]; show _ = byB r y k; unfold byB; rw [e5, if_neg (by decide), if_neg (by decide), if_pos rfl], rfl⟩) h dX7_bylaw_127
        · rw [opI_n (fun k hk => by have := rkd_lt hk; omega)] at c_35
          refine lv_bipush (v := (-5)) hx hb dX7_bylaw_38 (by decide) ?_
          exact hret (-5) G _ _ 40 _ (⟨by unfold byA; rw [cif_t ⟨hxn, hy⟩, c_35], rfl⟩) h dX7_bylaw_40
      · refine lv_bipush (v := (-2)) hx hb dX7_bylaw_13 (by decide) ?_
        exact hret (-2) G _ _ 15 _ (⟨by unfold byA; rw [cif_f (fun q => by have q2 := (inN_iff (by omega) (by omega)).mpr q.2; first | exact q.1 c_1 | exact Int32.not_lt.mpr q2.1 c_5 | exact c_10 q2.2)], rfl⟩) h dX7_bylaw_15
set_option maxHeartbeats 4000000 in
set_option maxRecDepth 100000 in
theorem c_X7_petitionOf (l : Launch) (J : JJ) (z : ZZ) (ad : Nat → Nat) (G : GG) (r : Nat → Int32) (hR : Rep G 1 r) (q x : Int32) : MI l J z ad yX7_petitionOf cX7_petitionOf 4 .int 1 [.ref (ad 0), .int q, .int x] G (fun ans uG => ans = (ptoA r q x) ∧ uG = (G)) := by
  refine MI.go (by decide) (Nat.le_of_ble_eq_true rfl) ?_
  intro pr e s m args below meth c ls Q X h hl hret
  have hx := X.1
  have hb := X.2.1
  have hown := X.2.2.2.1
  have hts := X.2.2.2.2
  have hl : lv_has ls 4 [(0, .ref (ad 0)), (1, .int q), (2, .int x)] := hl
  have hR0 := hR
  obtain ⟨hI, hS, hL, hP, hQ, hV, hBt⟩ := hR
  have hW := hI.1
  obtain ⟨⟨w1, w2⟩, ⟨w3, w4⟩, ⟨w5, w6⟩, w7, w8⟩ := hI.1
  have k1 : G (1 + 1) 0 = nI (kn r) := hS.1.trans w1
  have k2 : G (1 + 11) 0 = nI (mn r) := hP.1.trans w3
  have k3 : G (1 + 18) 0 = nI (on r) := hQ.1.trans w5
  refine lv_aload_n hx hb dX7_petitionOf_0 rfl (lv_at hl 0 rfl) ?_
  refine fg_X7_12 X h dX7_petitionOf_1 ?_
  refine fg_X7_125 isB_1 X h dX7_petitionOf_4 ?_
  refine lv_astore_n (lv' := [(3, .ref (ad (1 + 11))), (0, .ref (ad 0)), (1, .int q), (2, .int x)]) hx hb dX7_petitionOf_7 rfl hl (by decide) rfl (fun ls hl => ?_)
  refine lv_aload_n hx hb dX7_petitionOf_8 rfl (lv_at hl 0 rfl) ?_
  refine lv_iload_n hx hb dX7_petitionOf_9 rfl (lv_at hl 2 rfl) ?_
  refine rg_civd (As := [.int q]) (rest := []) X hl.1 h (c_X3_has l J z ad G 1 isB_1 r hR0 q ) mw_230 mw_231 mw_232 mw_38 mw_233 pdX3_has (isB_1.lt (by decide)) (so_11 isB_1 J ad _) rfl rfl ⟨Nat.le_of_ble_eq_true rfl, Nat.le_of_ble_eq_true rfl⟩ ⟨Nat.le_of_ble_eq_true rfl, Nat.le_of_ble_eq_true rfl⟩ rfl (Nat.le_of_ble_eq_true rfl) dX7_petitionOf_10 (fun H locs h => ?_)
  refine lv_if_ne (tgt := 18) hx hb dX7_petitionOf_13 (by decide) (fun c_13 => ?_) (fun c_13 => ?_)
  · rw [b2_z] at c_13
    obtain ⟨D, hD, rfl⟩ := Classical.not_not.mp c_13
    have TD : tn (nI D) = D := tn_nI (by omega)
    refine lv_iload_n hx hb dX7_petitionOf_18 rfl (lv_at hl 3 rfl) ?_
    rcases Classical.em (isN x 6) with c_19 | c_19
    · obtain ⟨w_19, hw_19, e_19⟩ := c_19
      rcases (show w_19 = 0 ∨ w_19 = 1 ∨ w_19 = 2 ∨ w_19 = 3 ∨ w_19 = 4 ∨ w_19 = 5 by omega) with rfl | rfl | rfl | rfl | rfl | rfl
      · refine lv_as (y := nI 0) e_19 ?_
        refine lv_tableIn (off := 37) (tgt := 56) hx hb dX7_petitionOf_19 (by decide) (by decide) rfl (by decide) ?_
        rw [e_19] at hl
        refine lv_aload_n hx hb dX7_petitionOf_56 rfl (lv_at hl 0 rfl) ?_
        refine fg_X7_164 isB_1 X h dX7_petitionOf_57 ?_
        refine lv_iload_n hx hb dX7_petitionOf_60 rfl (lv_at hl 2 rfl) ?_
        refine rg_ild X h (1 + 12) (isB_1.lt (by decide)) (sa_12 isB_1 J ad) (D) rfl (by omega) (by decide) dX7_petitionOf_61 ?_
        refine lv_as (y := r (5 * D + 84)) ((hP.2 D hD).1) ?_
        exact hret (r (5 * D + 84)) G _ _ 62 _ (⟨by unfold ptoA; rw [cif_t ⟨D, hD, rfl⟩, e_19, cif_t ⟨0, by omega, by omega, rfl⟩, TD, tn_nI (by omega)] <;> exact congrArg r (by omega), rfl⟩) h dX7_petitionOf_62
      · refine lv_as (y := nI 1) e_19 ?_
        refine lv_tableIn (off := 44) (tgt := 63) hx hb dX7_petitionOf_19 (by decide) (by decide) rfl (by decide) ?_
        rw [e_19] at hl
        refine lv_aload_n hx hb dX7_petitionOf_63 rfl (lv_at hl 0 rfl) ?_
        refine fg_X7_167 isB_1 X h dX7_petitionOf_64 ?_
        refine lv_iload_n hx hb dX7_petitionOf_67 rfl (lv_at hl 2 rfl) ?_
        refine rg_ild X h (1 + 13) (isB_1.lt (by decide)) (sa_13 isB_1 J ad) (D) rfl (by omega) (by decide) dX7_petitionOf_68 ?_
        refine lv_as (y := r (5 * D + 85)) ((hP.2 D hD).2.1) ?_
        exact hret (r (5 * D + 85)) G _ _ 69 _ (⟨by unfold ptoA; rw [cif_t ⟨D, hD, rfl⟩, e_19, cif_t ⟨1, by omega, by omega, rfl⟩, TD, tn_nI (by omega)] <;> exact congrArg r (by omega), rfl⟩) h dX7_petitionOf_69
      · refine lv_as (y := nI 2) e_19 ?_
        refine lv_tableIn (off := 51) (tgt := 70) hx hb dX7_petitionOf_19 (by decide) (by decide) rfl (by decide) ?_
        rw [e_19] at hl
        refine lv_aload_n hx hb dX7_petitionOf_70 rfl (lv_at hl 0 rfl) ?_
        refine fg_X7_170 isB_1 X h dX7_petitionOf_71 ?_
        refine lv_iload_n hx hb dX7_petitionOf_74 rfl (lv_at hl 2 rfl) ?_
        refine rg_ild X h (1 + 14) (isB_1.lt (by decide)) (sa_14 isB_1 J ad) (D) rfl (by omega) (by decide) dX7_petitionOf_75 ?_
        refine lv_as (y := r (5 * D + 86)) ((hP.2 D hD).2.2.1) ?_
        exact hret (r (5 * D + 86)) G _ _ 76 _ (⟨by unfold ptoA; rw [cif_t ⟨D, hD, rfl⟩, e_19, cif_t ⟨2, by omega, by omega, rfl⟩, TD, tn_nI (by omega)] <;> exact congrArg r (by omega), rfl⟩) h dX7_petitionOf_76
      · refine lv_as (y := nI 3) e_19 ?_
        refine lv_tableIn (off := 58) (tgt := 77) hx hb dX7_petitionOf_19 (by decide) (by decide) rfl (by decide) ?_
        rw [e_19] at hl
        refine lv_aload_n hx hb dX7_petitionOf_77 rfl (lv_at hl 0 rfl) ?_
        refine fg_X7_173 isB_1 X h dX7_petitionOf_78 ?_
        refine lv_iload_n hx hb dX7_petitionOf_81 rfl (lv_at hl 2 rfl) ?_
        refine rg_ild X h (1 + 15) (isB_1.lt (by decide)) (sa_15 isB_1 J ad) (D) rfl (by omega) (by decide) dX7_petitionOf_82 ?_
        refine lv_as (y := r (5 * D + 87)) ((hP.2 D hD).2.2.2.1) ?_
        exact hret (r (5 * D + 87)) G _ _ 83 _ (⟨by unfold ptoA; rw [cif_t ⟨D, hD, rfl⟩, e_19, cif_t ⟨3, by omega, by omega, rfl⟩, TD, tn_nI (by omega)] <;> exact congrArg r (by omega), rfl⟩) h dX7_petitionOf_83
      · refine lv_as (y := nI 4) e_19 ?_
        refine lv_tableIn (off := 65) (tgt := 84) hx hb dX7_petitionOf_19 (by decide) (by decide) rfl (by decide) ?_
        rw [e_19] at hl
        refine lv_aload_n hx hb dX7_petitionOf_84 rfl (lv_at hl 0 rfl) ?_
        refine fg_X7_176 isB_1 X h dX7_petitionOf_85 ?_
        refine lv_iload_n hx hb dX7_petitionOf_88 rfl (lv_at hl 2 rfl) ?_
        refine rg_ild X h (1 + 16) (isB_1.lt (by decide)) (sa_16 isB_1 J ad) (D) rfl (by omega) (by decide) dX7_petitionOf_89 ?_
        refine lv_as (y := supp r D) ((hP.2 D hD).2.2.2.2.1) ?_
        exact hret (supp r D) G _ _ 90 _ (⟨by unfold ptoA; rw [cif_t ⟨D, hD, rfl⟩, e_19, cif_f (fun q => by obtain ⟨e, e1, e2, e3⟩ := q; rw [nI_eq (by omega) (by omega)] at e3; omega), if_pos rfl, TD], rfl⟩) h dX7_petitionOf_90
      · refine lv_as (y := nI 5) e_19 ?_
        refine lv_tableIn (off := 72) (tgt := 91) hx hb dX7_petitionOf_19 (by decide) (by decide) rfl (by decide) ?_
        rw [e_19] at hl
        refine lv_aload_n hx hb dX7_petitionOf_91 rfl (lv_at hl 0 rfl) ?_
        refine fg_X7_179 isB_1 X h dX7_petitionOf_92 ?_
        refine lv_iload_n hx hb dX7_petitionOf_95 rfl (lv_at hl 2 rfl) ?_
        refine rg_ild X h (1 + 17) (isB_1.lt (by decide)) (sa_17 isB_1 J ad) (D) rfl (by omega) (by decide) dX7_petitionOf_96 ?_
        refine lv_as (y := r (5 * D + 88)) ((hP.2 D hD).2.2.2.2.2.1) ?_
        exact hret (r (5 * D + 88)) G _ _ 97 _ (⟨by unfold ptoA; rw [cif_t ⟨D, hD, rfl⟩, e_19, cif_f (fun q => by obtain ⟨e, e1, e2, e3⟩ := q; rw [nI_eq (by omega) (by omega)] at e3; omega), if_neg (by decide), if_pos rfl, TD], rfl⟩) h dX7_petitionOf_97
    · refine lv_tableOut (tgt := 98) hx hb dX7_petitionOf_19 (sw_out (by decide) c_19) (by decide) ?_
      refine lv_bipush (v := (-2)) hx hb dX7_petitionOf_98 (by decide) ?_
      exact hret (-2) G _ _ 100 _ (⟨by unfold ptoA; rw [cif_t ⟨D, hD, rfl⟩, cif_f (fun q => by obtain ⟨e, e1, e2, e3⟩ := q; exact c_19 ⟨e, by omega, e3⟩), if_neg (fun q => c_19 ⟨4, by omega, q⟩), if_neg (fun q => c_19 ⟨5, by omega, q⟩)], rfl⟩) h dX7_petitionOf_100
  · rw [b2_z] at c_13
    refine lv_iconst (v := (-1)) hx hb dX7_petitionOf_16 (by decide) ?_
    exact hret (-1) G _ _ 17 _ (⟨by unfold ptoA; rw [cif_f c_13], rfl⟩) h dX7_petitionOf_17
set_option maxHeartbeats 4000000 in
set_option maxRecDepth 100000 in
theorem c_X7_heard (l : Launch) (J : JJ) (z : ZZ) (ad : Nat → Nat) (G : GG) (r : Nat → Int32) (hR : Rep G 1 r) (x : Int32) : MI l J z ad yX7_heard cX7_heard 2 .int 2 [.ref (ad 0), .int x] G (fun ans uG => ans = (hdA r x) ∧ uG = (G)) := by
  refine MI.go (by decide) (Nat.le_of_ble_eq_true rfl) ?_
  intro pr e s m args below meth c ls Q X h hl hret
  have hx := X.1
  have hb := X.2.1
  have hown := X.2.2.2.1
  have hts := X.2.2.2.2
  have hl : lv_has ls 2 [(0, .ref (ad 0)), (1, .int x)] := hl
  have hR0 := hR
  obtain ⟨hI, hS, hL, hP, hQ, hV, hBt⟩ := hR
  have hW := hI.1
  obtain ⟨⟨w1, w2⟩, ⟨w3, w4⟩, ⟨w5, w6⟩, w7, w8⟩ := hI.1
  have k1 : G (1 + 1) 0 = nI (kn r) := hS.1.trans w1
  have k2 : G (1 + 11) 0 = nI (mn r) := hP.1.trans w3
  have k3 : G (1 + 18) 0 = nI (on r) := hQ.1.trans w5
  refine lv_iload_n hx hb dX7_heard_0 rfl (lv_at hl 1 rfl) ?_
  refine lv_if_ge (tgt := 9) hx hb dX7_heard_1 (by decide) (fun c_1 => ?_) (fun c_1 => ?_)
  · refine lv_aload_n hx hb dX7_heard_9 rfl (lv_at hl 0 rfl) ?_
    refine fg_X7_12 X h dX7_heard_10 ?_
    refine fg_X7_125 isB_1 X h dX7_heard_13 ?_
    refine lv_iload_n hx hb dX7_heard_16 rfl (lv_at hl 1 rfl) ?_
    refine rg_civd (As := [.int x]) (rest := []) X hl.1 h (c_X3_atRank l J z ad G 1 isB_1 r hR0 x ) mw_238 mw_239 mw_240 mw_38 mw_241 pdX3_atRank (isB_1.lt (by decide)) (so_11 isB_1 J ad _) rfl rfl ⟨Nat.le_of_ble_eq_true rfl, Nat.le_of_ble_eq_true rfl⟩ ⟨Nat.le_of_ble_eq_true rfl, Nat.le_of_ble_eq_true rfl⟩ rfl (Nat.le_of_ble_eq_true rfl) dX7_heard_17 (fun H locs h => ?_)
    exact hret (cif (isN x (mn r)) (nI (sg r (tn x))) (-5)) G _ _ 20 _ (⟨by unfold hdA; rw [cif_f (Int32.not_lt.mpr c_1)], rfl⟩) h dX7_heard_20
  · refine lv_bipush (v := (-2)) hx hb dX7_heard_4 (by decide) ?_
    refine lv_goto (tgt := 20) hx hb dX7_heard_6 (by decide) ?_
    exact hret (-2) G _ _ 20 _ (⟨by unfold hdA; rw [cif_t (Int32.not_le.mp c_1)], rfl⟩) h dX7_heard_20
set_option maxHeartbeats 4000000 in
set_option maxRecDepth 100000 in
theorem c_X7_rule (l : Launch) (J : JJ) (z : ZZ) (ad : Nat → Nat) (G : GG) (r : Nat → Int32) (hR : Rep G 1 r) (a g x : Int32) : MI l J z ad yX7_rule cX7_rule 5 .int 3 [.ref (ad 0), .int a, .int g, .int x] G (fun ans uG => ans = (ruA r a g x) ∧ uG = (G)) := by
  refine MI.go (by decide) (Nat.le_of_ble_eq_true rfl) ?_
  intro pr e s m args below meth c ls Q X h hl hret
  have hx := X.1
  have hb := X.2.1
  have hown := X.2.2.2.1
  have hts := X.2.2.2.2
  have hl : lv_has ls 5 [(0, .ref (ad 0)), (1, .int a), (2, .int g), (3, .int x)] := hl
  have hR0 := hR
  obtain ⟨hI, hS, hL, hP, hQ, hV, hBt⟩ := hR
  have hW := hI.1
  obtain ⟨⟨w1, w2⟩, ⟨w3, w4⟩, ⟨w5, w6⟩, w7, w8⟩ := hI.1
  have k1 : G (1 + 1) 0 = nI (kn r) := hS.1.trans w1
  have k2 : G (1 + 11) 0 = nI (mn r) := hP.1.trans w3
  have k3 : G (1 + 18) 0 = nI (on r) := hQ.1.trans w5
  refine lv_iload_n hx hb dX7_rule_0 rfl (lv_at hl 1 rfl) ?_
  refine rg_cisd (As := [.int a]) (rest := []) X hl.1 h (c_X7_isComb l J z ad G a) mw_199 mw_200 mw_2 mw_201 pdX7_isComb ⟨Nat.le_of_ble_eq_true rfl, Nat.le_of_ble_eq_true rfl⟩ ⟨Nat.le_of_ble_eq_true rfl, Nat.le_of_ble_eq_true rfl⟩ rfl (Nat.le_of_ble_eq_true rfl) dX7_rule_1 (fun H locs h => ?_)
  refine lv_if_eq (tgt := 14) hx hb dX7_rule_4 (by decide) (fun c_4 => ?_) (fun c_4 => ?_)
  · rw [b2_z] at c_4
    refine lv_iconst (v := (-1)) hx hb dX7_rule_14 (by decide) ?_
    exact hret (-1) G _ _ 15 _ (⟨by unfold ruA; rw [cif_f (fun q => by first | exact c_4 q.1 | exact c_11 q.2)], rfl⟩) h dX7_rule_15
  · rw [b2_z] at c_4
    obtain ⟨A, hA, rfl⟩ := Classical.not_not.mp c_4
    have TA : tn (nI A) = A := tn_nI (by omega)
    refine lv_iload_n hx hb dX7_rule_7 rfl (lv_at hl 2 rfl) ?_
    refine rg_cisd (As := [.int g]) (rest := []) X hl.1 h (c_X7_isDoing l J z ad G g) mw_202 mw_203 mw_2 mw_204 pdX7_isDoing ⟨Nat.le_of_ble_eq_true rfl, Nat.le_of_ble_eq_true rfl⟩ ⟨Nat.le_of_ble_eq_true rfl, Nat.le_of_ble_eq_true rfl⟩ rfl (Nat.le_of_ble_eq_true rfl) dX7_rule_8 (fun H locs h => ?_)
    refine lv_if_ne (tgt := 16) hx hb dX7_rule_11 (by decide) (fun c_11 => ?_) (fun c_11 => ?_)
    · rw [b2_z] at c_11
      obtain ⟨D, hD, rfl⟩ := Classical.not_not.mp c_11
      have TD : tn (nI D) = D := tn_nI (by omega)
      refine lv_iload_n hx hb dX7_rule_16 rfl (lv_at hl 3 rfl) ?_
      refine lv_if_lt (tgt := 25) hx hb dX7_rule_17 (by decide) (fun c_17 => ?_) (fun c_17 => ?_)
      · refine lv_bipush (v := (-2)) hx hb dX7_rule_25 (by decide) ?_
        exact hret (-2) G _ _ 27 _ (⟨by unfold ruA; rw [cif_t ⟨⟨A, hA, rfl⟩, ⟨D, hD, rfl⟩⟩, if_neg (fun q => by first | exact Int32.not_lt.mpr (by rw [q]; decide) c_17 | exact c_22 (by rw [q]; decide)), if_neg (fun q => by first | exact Int32.not_lt.mpr (by rw [q]; decide) c_17 | exact c_22 (by rw [q]; decide)), if_neg (fun q => by first | exact Int32.not_lt.mpr (by rw [q]; decide) c_17 | exact c_22 (by rw [q]; decide))], rfl⟩) h dX7_rule_27
      · refine lv_iload_n hx hb dX7_rule_20 rfl (lv_at hl 3 rfl) ?_
        refine lv_iconst (v := nI 2) hx hb dX7_rule_21 (by decide) ?_
        refine lv_icmp_le (tgt := 28) hx hb dX7_rule_22 (by decide) (fun c_22 => ?_) (fun c_22 => ?_)
        · have hx2 : inN x 0 2 := (inN_iff (by omega) (by omega)).mp ⟨Int32.not_lt.mp c_17, c_22⟩
          refine lv_aload_n hx hb dX7_rule_28 rfl (lv_at hl 0 rfl) ?_
          refine fg_X7_12 X h dX7_rule_29 ?_
          refine fg_X7_99 isB_1 X h dX7_rule_32 ?_
          refine lv_iload_n hx hb dX7_rule_35 rfl (lv_at hl 1 rfl) ?_
          refine lv_iload_n hx hb dX7_rule_36 rfl (lv_at hl 2 rfl) ?_
          refine rg_civd (As := [.int (nI A), .int (nI D)]) (rest := []) X hl.1 h (c_X1_rulingPlace l J z ad G 1 isB_1 r hR0 A D (by omega) (by omega)) mw_205 mw_146 mw_147 mw_34 mw_148 pdX1_rulingPlace (isB_1.lt (by decide)) (so_7 isB_1 J ad _) rfl rfl ⟨Nat.le_of_ble_eq_true rfl, Nat.le_of_ble_eq_true rfl⟩ ⟨Nat.le_of_ble_eq_true rfl, Nat.le_of_ble_eq_true rfl⟩ rfl (Nat.le_of_ble_eq_true rfl) dX7_rule_37 (fun H locs h => ?_)
          refine lv_istore (lv' := [(4, .int (opI (rulO r A D))), (0, .ref (ad 0)), (1, .int (nI A)), (2, .int (nI D)), (3, .int x)]) hx hb dX7_rule_40 hl (by decide) rfl (fun ls hl => ?_)
          refine lv_iload_n hx hb dX7_rule_42 rfl (lv_at hl 4 rfl) ?_
          refine lv_if_ne (tgt := 67) hx hb dX7_rule_43 (by decide) (fun c_43 => ?_) (fun c_43 => ?_)
          · refine lv_iload_n hx hb dX7_rule_67 rfl (lv_at hl 4 rfl) ?_
            refine lv_iconst (v := nI 1) hx hb dX7_rule_68 (by decide) ?_
            refine lv_icmp_eq (tgt := 79) hx hb dX7_rule_69 (by decide) (fun c_69 => ?_) (fun c_69 => ?_)
            · refine lv_iload hx hb dX7_rule_79 (lv_at hl 0 rfl) ?_
              exact hret (opI (rulO r A D)) G _ _ 81 _ (⟨by unfold ruA; rw [cif_t ⟨⟨A, hA, rfl⟩, ⟨D, hD, rfl⟩⟩, if_neg (show ¬ x = nI 0 from c_43), if_pos c_69, TA, TD], rfl⟩) h dX7_rule_81
            · refine lv_iload hx hb dX7_rule_72 (lv_at hl 0 rfl) ?_
              refine lv_bipush (v := (-5)) hx hb dX7_rule_74 (by decide) ?_
              refine lv_icmp_ne (tgt := 82) hx hb dX7_rule_76 (by decide) (fun c_76 => ?_) (fun c_76 => ?_)
              · rw [opI_n (fun k hk => by have := rulO_lt hk; omega)] at c_76
                obtain ⟨B2, hk⟩ := Option.ne_none_iff_exists'.mp c_76
                have hk6 := rulO_lt hk
                have hkw := rul_LW hk
                have hst : G (1 + 9) (D + 20 * B2) = r (60 * B2 + 3 * D + 193) := by
                  rcases RepL_st hL (show B2 ≤ 6 by omega) hD with ⟨q, -⟩ | ⟨-, -, -, q, -, -⟩
                  · exact absurd q hkw
                  · exact q
                rw [hk] at hl
                have hl : lv_has ls 5 [(4, .int (nI B2)), (0, .ref (ad 0)), (1, .int (nI A)), (2, .int (nI D)), (3, .int x)] := hl
                refine lv_aload_n hx hb dX7_rule_82 rfl (lv_at hl 1 rfl) ?_
                refine fg_X7_12 X h dX7_rule_83 ?_
                refine fg_X7_99 isB_1 X h dX7_rule_86 ?_
                refine lv_iload hx hb dX7_rule_89 (lv_at hl 0 rfl) ?_
                refine lv_iload_n hx hb dX7_rule_91 rfl (lv_at hl 3 rfl) ?_
                refine rg_civd (As := [.int (nI B2), .int (nI D)]) (rest := []) X hl.1 h (c_X1_strengthOf l J z ad G 1 isB_1 r hR0 B2 D (by omega) hD) mw_207 mw_150 mw_151 mw_34 mw_152 pdX1_strengthOf (isB_1.lt (by decide)) (so_7 isB_1 J ad _) rfl rfl ⟨Nat.le_of_ble_eq_true rfl, Nat.le_of_ble_eq_true rfl⟩ ⟨Nat.le_of_ble_eq_true rfl, Nat.le_of_ble_eq_true rfl⟩ rfl (Nat.le_of_ble_eq_true rfl) dX7_rule_92 (fun H locs h => ?_)
                refine lv_as (y := r (60 * B2 + 3 * D + 193)) (hst) ?_
                have e2 : x = nI 2 := by
                  obtain ⟨e, e1, e2, e3⟩ := hx2
                  rcases (show e = 0 ∨ e = 1 ∨ e = 2 by omega) with rfl | rfl | rfl
                  · exact absurd e3 c_43
                  · exact absurd e3 c_69
                  · exact e3
                exact hret (r (60 * B2 + 3 * D + 193)) G _ _ 95 _ (⟨by unfold ruA; rw [cif_t ⟨⟨A, hA, rfl⟩, ⟨D, hD, rfl⟩⟩, if_neg (show ¬ x = nI 0 from c_43), if_neg c_69, if_pos e2, TA, TD, hk], rfl⟩) h dX7_rule_95
              · rw [opI_n (fun k hk => by have := rulO_lt hk; omega)] at c_76
                refine lv_iload hx hb dX7_rule_79 (lv_at hl 0 rfl) ?_
                have e2 : x = nI 2 := by
                  obtain ⟨e, e1, e2, e3⟩ := hx2
                  rcases (show e = 0 ∨ e = 1 ∨ e = 2 by omega) with rfl | rfl | rfl
                  · exact absurd e3 c_43
                  · exact absurd e3 c_69
                  · exact e3
                exact hret (opI (rulO r A D)) G _ _ 81 _ (⟨by unfold ruA; rw [cif_t ⟨⟨A, hA, rfl⟩, ⟨D, hD, rfl⟩⟩, if_neg (show ¬ x = nI 0 from c_43), if_neg c_69, if_pos e2, TA, TD, c_76]; rfl, rfl⟩) h dX7_rule_81
          · refine lv_aload_n hx hb dX7_rule_46 rfl (lv_at hl 1 rfl) ?_
            refine fg_X7_12 X h dX7_rule_47 ?_
            refine fg_X7_99 isB_1 X h dX7_rule_50 ?_
            refine lv_iload_n hx hb dX7_rule_53 rfl (lv_at hl 2 rfl) ?_
            refine lv_iload_n hx hb dX7_rule_54 rfl (lv_at hl 3 rfl) ?_
            refine rg_civd (As := [.int (nI A), .int (nI D)]) (rest := []) X hl.1 h (c_X1_isForbidden l J z ad G 1 isB_1 r hR0 A D (by omega) (by omega)) mw_206 mw_142 mw_143 mw_34 mw_144 pdX1_isForbidden (isB_1.lt (by decide)) (so_7 isB_1 J ad _) rfl rfl ⟨Nat.le_of_ble_eq_true rfl, Nat.le_of_ble_eq_true rfl⟩ ⟨Nat.le_of_ble_eq_true rfl, Nat.le_of_ble_eq_true rfl⟩ rfl (Nat.le_of_ble_eq_true rfl) dX7_rule_55 (fun H locs h => ?_)
            refine lv_if_eq (tgt := 65) hx hb dX7_rule_58 (by decide) (fun c_58 => ?_) (fun c_58 => ?_)
            · rw [b2_z] at c_58
              refine lv_iconst (v := nI 1) hx hb dX7_rule_65 (by decide) ?_
              exact hret (nI 1) G _ _ 66 _ (⟨by unfold ruA; rw [cif_t ⟨⟨A, hA, rfl⟩, ⟨D, hD, rfl⟩⟩, if_pos (show x = nI 0 from c_43), TA, TD]; exact (b2_t (Classical.not_not.mp c_58)).symm, rfl⟩) h dX7_rule_66
            · rw [b2_z] at c_58
              refine lv_iconst (v := nI 0) hx hb dX7_rule_61 (by decide) ?_
              refine lv_goto (tgt := 66) hx hb dX7_rule_62 (by decide) ?_
              exact hret (nI 0) G _ _ 66 _ (⟨by unfold ruA; rw [cif_t ⟨⟨A, hA, rfl⟩, ⟨D, hD, rfl⟩⟩, if_pos (show x = nI 0 from c_43), TA, TD]; exact (b2_f (Classical.not_not.mp c_58)).symm, rfl⟩) h dX7_rule_66
        · refine lv_bipush (v := (-2)) hx hb dX7_rule_25 (by decide) ?_
          exact hret (-2) G _ _ 27 _ (⟨by unfold ruA; rw [cif_t ⟨⟨A, hA, rfl⟩, ⟨D, hD, rfl⟩⟩, if_neg (fun q => by first | exact Int32.not_lt.mpr (by rw [q]; decide) c_17 | exact c_22 (by rw [q]; decide)), if_neg (fun q => by first | exact Int32.not_lt.mpr (by rw [q]; decide) c_17 | exact c_22 (by rw [q]; decide)), if_neg (fun q => by first | exact Int32.not_lt.mpr (by rw [q]; decide) c_17 | exact c_22 (by rw [q]; decide))], rfl⟩) h dX7_rule_27
    · rw [b2_z] at c_11
      refine lv_iconst (v := (-1)) hx hb dX7_rule_14 (by decide) ?_
      exact hret (-1) G _ _ 15 _ (⟨by unfold ruA; rw [cif_f (fun q => by first | exact c_4 q.1 | exact c_11 q.2)], rfl⟩) h dX7_rule_15
set_option maxHeartbeats 4000000 in
set_option maxRecDepth 100000 in
theorem c_X7_reason (l : Launch) (J : JJ) (z : ZZ) (ad : Nat → Nat) (G : GG) (r : Nat → Int32) (hR : Rep G 1 r) (q : Int32) : MI l J z ad yX7_reason cX7_reason 2 .int 3 [.ref (ad 0), .int q] G (fun ans uG => ans = rsA r q ∧ ∀ k, (k < 51 ∨ 76 ≤ k) → uG k = G k) := by
  refine MI.go (by decide) (Nat.le_of_ble_eq_true rfl) ?_
  intro pr e s m args below meth c ls Q X h hl hret
  have hx := X.1
  have hb := X.2.1
  have hown := X.2.2.2.1
  have hts := X.2.2.2.2
  have hl : lv_has ls 2 [(0, .ref (ad 0)), (1, .int q)] := hl
  have hR0 := hR
  obtain ⟨hI, hS, hL, hP, hQ, hV, hBt⟩ := hR
  have hW := hI.1
  obtain ⟨⟨w1, w2⟩, ⟨w3, w4⟩, ⟨w5, w6⟩, w7, w8⟩ := hI.1
  have k1 : G (1 + 1) 0 = nI (kn r) := hS.1.trans w1
  have k2 : G (1 + 11) 0 = nI (mn r) := hP.1.trans w3
  have k3 : G (1 + 18) 0 = nI (on r) := hQ.1.trans w5
  refine lv_aload_n hx hb dX7_reason_0 rfl (lv_at hl 0 rfl) ?_
  refine fg_X7_12 X h dX7_reason_1 ?_
  refine fg_X7_125 isB_1 X h dX7_reason_4 ?_
  refine lv_iload_n hx hb dX7_reason_7 rfl (lv_at hl 1 rfl) ?_
  refine rg_civd (As := [.int q]) (rest := []) X hl.1 h (c_X3_has l J z ad G 1 isB_1 r hR0 q ) mw_230 mw_231 mw_232 mw_38 mw_233 pdX3_has (isB_1.lt (by decide)) (so_11 isB_1 J ad _) rfl rfl ⟨Nat.le_of_ble_eq_true rfl, Nat.le_of_ble_eq_true rfl⟩ ⟨Nat.le_of_ble_eq_true rfl, Nat.le_of_ble_eq_true rfl⟩ rfl (Nat.le_of_ble_eq_true rfl) dX7_reason_8 (fun H locs h => ?_)
  refine lv_if_ne (tgt := 16) hx hb dX7_reason_11 (by decide) (fun c_11 => ?_) (fun c_11 => ?_)
  · rw [b2_z] at c_11
    obtain ⟨D, hD, rfl⟩ := Classical.not_not.mp c_11
    have TD : tn (nI D) = D := tn_nI (by omega)
    refine lv_aload_n hx hb dX7_reason_16 rfl (lv_at hl 0 rfl) ?_
    refine fg_X7_19 X h dX7_reason_17 ?_
    refine lv_aload_n hx hb dX7_reason_20 rfl (lv_at hl 0 rfl) ?_
    refine fg_X7_12 X h dX7_reason_21 ?_
    refine rg_cvv (As := [.ref (ad 1)]) (rest := []) X hl.1 h (c_X5_copyFrom l J z ad G 51 1 isB_51 isB_1 (by omega)) mw_267 mw_268 mw_269 mw_11 mw_270 pdX5_copyFrom (isB_51.lt (c := 0) (by decide)) (so_0 isB_51 J ad _) rfl rfl ⟨Nat.le_of_ble_eq_true rfl, Nat.le_of_ble_eq_true rfl⟩ ⟨Nat.le_of_ble_eq_true rfl, Nat.le_of_ble_eq_true rfl⟩ rfl (Nat.le_of_ble_eq_true rfl) dX7_reason_24 (fun G1 H locs q1 h => ?_)
    refine lv_aload_n hx hb dX7_reason_27 rfl (lv_at hl 0 rfl) ?_
    refine fg_X7_19 X h dX7_reason_28 ?_
    have hR1 : Rep G1 51 r := q1.rep hR0
    refine rg_civ (As := []) (rest := []) X hl.1 h (c_X5_hearPetitions l J z ad G1 51 isB_51 r hR1) mw_299 mw_300 mw_301 mw_11 mw_302 pdX5_hearPetitions (isB_51.lt (c := 0) (by decide)) (so_0 isB_51 J ad _) rfl rfl ⟨Nat.le_of_ble_eq_true rfl, Nat.le_of_ble_eq_true rfl⟩ ⟨Nat.le_of_ble_eq_true rfl, Nat.le_of_ble_eq_true rfl⟩ rfl (Nat.le_of_ble_eq_true rfl) dX7_reason_31 (fun r2 G2 H locs q2 h => ?_)
    obtain ⟨x1, x2, x3, x4⟩ := q2
    have hfr : ∀ k, (k < 51 ∨ 76 ≤ k) → G2 k = G k := fun k hk => (x2 k (by omega)).trans (q1.1 k (by omega))
    refine lv_pop hx hb dX7_reason_34 rfl ?_
    refine lv_aload_n hx hb dX7_reason_35 rfl (lv_at hl 0 rfl) ?_
    refine fg_X7_19 X h dX7_reason_36 ?_
    refine fg_X7_204 isB_51 X h dX7_reason_39 ?_
    refine lv_iload_n hx hb dX7_reason_42 rfl (lv_at hl 1 rfl) ?_
    refine rg_ild X h (51 + 24) (isB_51.lt (by decide)) (sa_24 isB_51 J ad) (D) rfl (by omega) (by decide) dX7_reason_43 ?_
    refine lv_as (y := (hearC r).2.2 D) (x4 D hD) ?_
    exact hret ((hearC r).2.2 D) G2 _ _ 44 _ (⟨by unfold rsA; rw [cif_t ⟨D, hD, rfl⟩, TD], hfr⟩) h dX7_reason_44
  · rw [b2_z] at c_11
    refine lv_iconst (v := (-1)) hx hb dX7_reason_14 (by decide) ?_
    exact hret (-1) G _ _ 15 _ (⟨by unfold rsA; rw [cif_f c_11], fun _ _ => rfl⟩) h dX7_reason_15
set_option maxHeartbeats 4000000 in
set_option maxRecDepth 100000 in
theorem c_X7_wouldPass (l : Launch) (J : JJ) (z : ZZ) (ad : Nat → Nat) (G : GG) (r : Nat → Int32) (hR : Rep G 1 r)  : MI l J z ad yX7_wouldPass cX7_wouldPass 3 .int 3 [.ref (ad 0)] G (fun ans uG => ans = wpA r ∧ ∀ k, (k < 51 ∨ 76 ≤ k) → uG k = G k) := by
  refine MI.go (by decide) (Nat.le_of_ble_eq_true rfl) ?_
  intro pr e s m args below meth c ls Q X h hl hret
  have hx := X.1
  have hb := X.2.1
  have hown := X.2.2.2.1
  have hts := X.2.2.2.2
  have hl : lv_has ls 3 [(0, .ref (ad 0))] := hl
  have hR0 := hR
  obtain ⟨hI, hS, hL, hP, hQ, hV, hBt⟩ := hR
  have hW := hI.1
  obtain ⟨⟨w1, w2⟩, ⟨w3, w4⟩, ⟨w5, w6⟩, w7, w8⟩ := hI.1
  have k1 : G (1 + 1) 0 = nI (kn r) := hS.1.trans w1
  have k2 : G (1 + 11) 0 = nI (mn r) := hP.1.trans w3
  have k3 : G (1 + 18) 0 = nI (on r) := hQ.1.trans w5
  refine lv_aload_n hx hb dX7_wouldPass_0 rfl (lv_at hl 0 rfl) ?_
  refine fg_X7_19 X h dX7_wouldPass_1 ?_
  refine lv_aload_n hx hb dX7_wouldPass_4 rfl (lv_at hl 0 rfl) ?_
  refine fg_X7_12 X h dX7_wouldPass_5 ?_
  refine rg_cvv (As := [.ref (ad 1)]) (rest := []) X hl.1 h (c_X5_copyFrom l J z ad G 51 1 isB_51 isB_1 (by omega)) mw_267 mw_268 mw_269 mw_11 mw_270 pdX5_copyFrom (isB_51.lt (c := 0) (by decide)) (so_0 isB_51 J ad _) rfl rfl ⟨Nat.le_of_ble_eq_true rfl, Nat.le_of_ble_eq_true rfl⟩ ⟨Nat.le_of_ble_eq_true rfl, Nat.le_of_ble_eq_true rfl⟩ rfl (Nat.le_of_ble_eq_true rfl) dX7_wouldPass_8 (fun G1 H locs q1 h => ?_)
  refine lv_aload_n hx hb dX7_wouldPass_11 rfl (lv_at hl 0 rfl) ?_
  refine fg_X7_19 X h dX7_wouldPass_12 ?_
  have hR1 : Rep G1 51 r := q1.rep hR0
  refine rg_civ (As := []) (rest := []) X hl.1 h (c_X5_hearPetitions l J z ad G1 51 isB_51 r hR1) mw_299 mw_300 mw_301 mw_11 mw_302 pdX5_hearPetitions (isB_51.lt (c := 0) (by decide)) (so_0 isB_51 J ad _) rfl rfl ⟨Nat.le_of_ble_eq_true rfl, Nat.le_of_ble_eq_true rfl⟩ ⟨Nat.le_of_ble_eq_true rfl, Nat.le_of_ble_eq_true rfl⟩ rfl (Nat.le_of_ble_eq_true rfl) dX7_wouldPass_15 (fun r2 G2 H locs q2 h => ?_)
  obtain ⟨x1, x2, x3, x4⟩ := q2
  have hfr : ∀ k, (k < 51 ∨ 76 ≤ k) → G2 k = G k := fun k hk => (x2 k (by omega)).trans (q1.1 k (by omega))
  refine lv_pop hx hb dX7_wouldPass_18 rfl ?_
  refine lv_iconst (v := nI 0) hx hb dX7_wouldPass_19 (by decide) ?_
  refine lv_istore_n (lv' := [(1, .int (nI 0)), (0, .ref (ad 0))]) hx hb dX7_wouldPass_20 rfl hl (by decide) rfl (fun ls hl => ?_)
  refine lv_iconst (v := nI 0) hx hb dX7_wouldPass_21 (by decide) ?_
  refine lv_istore_n (lv' := [(2, .int (nI 0)), (1, .int (nI 0)), (0, .ref (ad 0))]) hx hb dX7_wouldPass_22 rfl hl (by decide) rfl (fun ls hl => ?_)
  have LP_23 : ∀ (k_23 i_23 : Nat), mn r + 1 ≤ i_23 + k_23 → i_23 ≤ mn r → ∀ (H : Heap) (locs : List Loc) (ls : Array Slot), HG J z ad s G2 H locs → lv_has ls 3 [(0, .ref (ad 0)), (1, .int (itr (fun q a => a ||| (b2 ((hearC r).2.2 q = 0) <<< (nI q &&& 31))) (nI 0) i_23)), (2, .int (nI i_23))] → W pr l e (rmD 3 0 0) s m args below meth c H locs 0 0 Q (F0 m 23 ls []) := by
    intro k_23
    induction k_23 with
    | zero =>
      intro i_23 g1 g2
      exact absurd g1 (by omega)
    | succ k_23 ih_23 =>
      intro i_23 g1_23 g2_23  H locs ls h hl
      refine lv_iload_n hx hb dX7_wouldPass_23 rfl (lv_at hl 2 rfl) ?_
      refine lv_aload_n hx hb dX7_wouldPass_24 rfl (lv_at hl 0 rfl) ?_
      refine fg_X7_12 X h dX7_wouldPass_25 ?_
      refine fg_X7_125 isB_1 X h dX7_wouldPass_28 ?_
      refine fg_X7_207 isB_1 X h dX7_wouldPass_31 ?_
      refine lv_as (y := nI ((mn r))) (by rw [hfr (1 + 11) (by omega)]; exact k2) ?_
      refine lv_icmp_ge (tgt := 61) hx hb dX7_wouldPass_34 (by decide) (fun c_34 => ?_) (fun c_34 => ?_)
      · rw [nI_leI (by omega) (by omega)] at c_34
        refine lv_iload_n hx hb dX7_wouldPass_61 rfl (lv_at hl 1 rfl) ?_
        exact hret (itr (fun q a => a ||| (b2 ((hearC r).2.2 q = 0) <<< (nI q &&& 31))) (nI 0) i_23) G2 _ _ 62 _ (⟨by rw [show i_23 = mn r by omega]; rfl, hfr⟩) h dX7_wouldPass_62
      · rw [nI_leI (by omega) (by omega)] at c_34
        refine lv_aload_n hx hb dX7_wouldPass_37 rfl (lv_at hl 0 rfl) ?_
        refine fg_X7_19 X h dX7_wouldPass_38 ?_
        refine fg_X7_204 isB_51 X h dX7_wouldPass_41 ?_
        refine lv_iload_n hx hb dX7_wouldPass_44 rfl (lv_at hl 2 rfl) ?_
        refine rg_ild X h (51 + 24) (isB_51.lt (by decide)) (sa_24 isB_51 J ad) (i_23) rfl (by omega) (by decide) dX7_wouldPass_45 ?_
        refine lv_as (y := (hearC r).2.2 i_23) (x4 i_23 (by omega)) ?_
        refine lv_if_ne (tgt := 55) hx hb dX7_wouldPass_46 (by decide) (fun c_46 => ?_) (fun c_46 => ?_)
        · rw [show (itr (fun q a => a ||| (b2 ((hearC r).2.2 q = 0) <<< (nI q &&& 31))) (nI 0) i_23) = itr (fun q a => a ||| (b2 ((hearC r).2.2 q = 0) <<< (nI q &&& 31))) (nI 0) (i_23 + 1) from by show _ = _ ||| (b2 _ <<< _); rw [b2_shl, cif_f c_46]; exact Int32.or_zero.symm] at hl
          refine lv_iinc (v := nI (i_23 + 1)) (lv' := [(2, .int (nI (i_23 + 1))), (0, .ref (ad 0)), (1, .int (itr (fun q a => a ||| (b2 ((hearC r).2.2 q = 0) <<< (nI q &&& 31))) (nI 0) (i_23 + 1)))]) hx hb dX7_wouldPass_55 hl (k := 2) rfl (nI_addc (b := 1) (by omega)) (by decide) rfl (fun ls hl => ?_)
          refine lv_goto (tgt := 23) hx hb dX7_wouldPass_58 (by decide) ?_
          exact ih_23 (i_23 + 1) (by omega) (by omega) _ _ _ h (lv_sub hl [1, 2, 0] rfl)
        · refine lv_iload_n hx hb dX7_wouldPass_49 rfl (lv_at hl 1 rfl) ?_
          refine lv_iconst (v := nI 1) hx hb dX7_wouldPass_50 (by decide) ?_
          refine lv_iload_n hx hb dX7_wouldPass_51 rfl (lv_at hl 2 rfl) ?_
          refine lv_ishl hx hb dX7_wouldPass_52 ?_
          refine lv_ior hx hb dX7_wouldPass_53 ?_
          refine lv_istore_n (lv' := [(1, .int ((itr (fun q a => a ||| (b2 ((hearC r).2.2 q = 0) <<< (nI q &&& 31))) (nI 0) i_23) ||| ((nI 1) <<< ((nI i_23) &&& 31)))), (0, .ref (ad 0)), (2, .int (nI i_23))]) hx hb dX7_wouldPass_54 rfl hl (by decide) rfl (fun ls hl => ?_)
          rw [show ((itr (fun q a => a ||| (b2 ((hearC r).2.2 q = 0) <<< (nI q &&& 31))) (nI 0) i_23) ||| ((nI 1) <<< ((nI i_23) &&& 31))) = itr (fun q a => a ||| (b2 ((hearC r).2.2 q = 0) <<< (nI q &&& 31))) (nI 0) (i_23 + 1) from by show _ = _ ||| (b2 _ <<< _); rw [b2_shl, cif_t c_46]] at hl
          refine lv_iinc (v := nI (i_23 + 1)) (lv' := [(2, .int (nI (i_23 + 1))), (1, .int (itr (fun q a => a ||| (b2 ((hearC r).2.2 q = 0) <<< (nI q &&& 31))) (nI 0) (i_23 + 1))), (0, .ref (ad 0))]) hx hb dX7_wouldPass_55 hl (k := 2) rfl (nI_addc (b := 1) (by omega)) (by decide) rfl (fun ls hl => ?_)
          refine lv_goto (tgt := 23) hx hb dX7_wouldPass_58 (by decide) ?_
          exact ih_23 (i_23 + 1) (by omega) (by omega) _ _ _ h (lv_sub hl [2, 1, 0] rfl)
  exact LP_23 (mn r + 1) 0 (by omega) (by omega) _ _ _ h (lv_sub hl [2, 1, 0] rfl)
set_option maxHeartbeats 4000000 in
set_option maxRecDepth 100000 in
theorem c_X7_lacks (l : Launch) (J : JJ) (z : ZZ) (ad : Nat → Nat) (G : GG) (r : Nat → Int32) (hR : Rep G 1 r) (q : Int32) : MI l J z ad yX7_lacks cX7_lacks 4 .int 2 [.ref (ad 0), .int q] G (fun ans uG => ans = (laA r q) ∧ uG = (G)) := by
  refine MI.go (by decide) (Nat.le_of_ble_eq_true rfl) ?_
  intro pr e s m args below meth c ls Q X h hl hret
  have hx := X.1
  have hb := X.2.1
  have hown := X.2.2.2.1
  have hts := X.2.2.2.2
  have hl : lv_has ls 4 [(0, .ref (ad 0)), (1, .int q)] := hl
  have hR0 := hR
  obtain ⟨hI, hS, hL, hP, hQ, hV, hBt⟩ := hR
  have hW := hI.1
  obtain ⟨⟨w1, w2⟩, ⟨w3, w4⟩, ⟨w5, w6⟩, w7, w8⟩ := hI.1
  have k1 : G (1 + 1) 0 = nI (kn r) := hS.1.trans w1
  have k2 : G (1 + 11) 0 = nI (mn r) := hP.1.trans w3
  have k3 : G (1 + 18) 0 = nI (on r) := hQ.1.trans w5
  refine lv_aload_n hx hb dX7_lacks_0 rfl (lv_at hl 0 rfl) ?_
  refine fg_X7_12 X h dX7_lacks_1 ?_
  refine fg_X7_125 isB_1 X h dX7_lacks_4 ?_
  refine lv_iload_n hx hb dX7_lacks_7 rfl (lv_at hl 1 rfl) ?_
  refine rg_civd (As := [.int q]) (rest := []) X hl.1 h (c_X3_has l J z ad G 1 isB_1 r hR0 q ) mw_230 mw_231 mw_232 mw_38 mw_233 pdX3_has (isB_1.lt (by decide)) (so_11 isB_1 J ad _) rfl rfl ⟨Nat.le_of_ble_eq_true rfl, Nat.le_of_ble_eq_true rfl⟩ ⟨Nat.le_of_ble_eq_true rfl, Nat.le_of_ble_eq_true rfl⟩ rfl (Nat.le_of_ble_eq_true rfl) dX7_lacks_8 (fun H locs h => ?_)
  refine lv_if_ne (tgt := 16) hx hb dX7_lacks_11 (by decide) (fun c_11 => ?_) (fun c_11 => ?_)
  · rw [b2_z] at c_11
    obtain ⟨D, hD, rfl⟩ := Classical.not_not.mp c_11
    have TD : tn (nI D) = D := tn_nI (by omega)
    obtain ⟨w, hw1, hw2⟩ := supp_natR hR0 hD
    have hw0 := (hP.2 D hD).2.2.2.2.2.2
    rw [hw2] at hw0
    have hw0 : 0 < w := (nz_gt (by omega)).mp hw0
    refine lv_aload_n hx hb dX7_lacks_16 rfl (lv_at hl 0 rfl) ?_
    refine fg_X7_12 X h dX7_lacks_17 ?_
    refine fg_X7_125 isB_1 X h dX7_lacks_20 ?_
    refine fg_X7_176 isB_1 X h dX7_lacks_23 ?_
    refine lv_iload_n hx hb dX7_lacks_26 rfl (lv_at hl 1 rfl) ?_
    refine rg_ild X h (1 + 16) (isB_1.lt (by decide)) (sa_16 isB_1 J ad) (D) rfl (by omega) (by decide) dX7_lacks_27 ?_
    refine lv_as (y := nI w) (((hP.2 D hD).2.2.2.2.1).trans hw2) ?_
    refine lv_istore_n (lv' := [(2, .int (nI w)), (0, .ref (ad 0)), (1, .int (nI D))]) hx hb dX7_lacks_28 rfl hl (by decide) rfl (fun ls hl => ?_)
    refine lv_iconst (v := nI 0) hx hb dX7_lacks_29 (by decide) ?_
    refine lv_istore_n (lv' := [(3, .int (nI 0)), (2, .int (nI w)), (0, .ref (ad 0)), (1, .int (nI D))]) hx hb dX7_lacks_30 rfl hl (by decide) rfl (fun ls hl => ?_)
    have LP_31 : ∀ (k_31 i_31 : Nat), 121 + 1 ≤ i_31 + k_31 → i_31 ≤ 121 → ∀ (hn : ∀ j, j < i_31 → ¬ refu r D (supp r D + nI j) = 0) (H : Heap) (locs : List Loc) (ls : Array Slot), HG J z ad s G H locs → lv_has ls 4 [(0, .ref (ad 0)), (1, .int (nI D)), (2, .int (nI w)), (3, .int (nI i_31))] → W pr l e (rmD 2 0 0) s m args below meth c H locs 0 0 Q (F0 m 31 ls []) := by
      intro k_31
      induction k_31 with
      | zero =>
        intro i_31 g1 g2
        exact absurd g1 (by omega)
      | succ k_31 ih_31 =>
        intro i_31 g1_31 g2_31 hn H locs ls h hl
        refine lv_iload_n hx hb dX7_lacks_31 rfl (lv_at hl 3 rfl) ?_
        refine lv_bipush (v := nI 120) hx hb dX7_lacks_32 (by decide) ?_
        refine lv_icmp_gt (tgt := 59) hx hb dX7_lacks_34 (by decide) (fun c_34 => ?_) (fun c_34 => ?_)
        · rw [nI_ltI (by omega) (by omega)] at c_34
          refine lv_bipush (v := (-5)) hx hb dX7_lacks_59 (by decide) ?_
          exact hret (-5) G _ _ 61 _ (⟨by unfold laA lackO; rw [cif_t ⟨D, hD, rfl⟩, TD, fst_n (P := fun m => refu r D (supp r D + nI m) = 0) (fun j hj => hn j (by omega))]; rfl, rfl⟩) h dX7_lacks_61
        · rw [nI_ltI (by omega) (by omega)] at c_34
          refine lv_aload_n hx hb dX7_lacks_37 rfl (lv_at hl 0 rfl) ?_
          refine fg_X7_12 X h dX7_lacks_38 ?_
          refine lv_iload_n hx hb dX7_lacks_41 rfl (lv_at hl 1 rfl) ?_
          refine lv_iload_n hx hb dX7_lacks_42 rfl (lv_at hl 2 rfl) ?_
          refine lv_iload_n hx hb dX7_lacks_43 rfl (lv_at hl 3 rfl) ?_
          refine lv_iadd hx hb dX7_lacks_44 ?_
          refine lv_as (y := nI (i_31 + w)) (nI_addc (by omega)) ?_
          refine rg_civd (As := [.int (nI D), .int (nI (i_31 + w))]) (rest := []) X hl.1 h (c_X5_reasonToRefuse l J z ad G 1 isB_1 r hR0 D hD (nI (i_31 + w)) ((nz_gt (by omega)).mpr (by omega))) mw_453 mw_307 mw_308 mw_11 mw_309 pdX5_reasonToRefuse (isB_1.lt (c := 0) (by decide)) (so_0 isB_1 J ad _) rfl rfl ⟨Nat.le_of_ble_eq_true rfl, Nat.le_of_ble_eq_true rfl⟩ ⟨Nat.le_of_ble_eq_true rfl, Nat.le_of_ble_eq_true rfl⟩ rfl (Nat.le_of_ble_eq_true rfl) dX7_lacks_45 (fun H locs h => ?_)
          refine lv_as (y := refu r D (supp r D + nI i_31)) (by rw [hw2, nI_add]; congr 2; omega) ?_
          refine lv_if_ne (tgt := 53) hx hb dX7_lacks_48 (by decide) (fun c_48 => ?_) (fun c_48 => ?_)
          · have hn2 : ∀ j, j < i_31 + 1 → ¬ refu r D (supp r D + nI j) = 0 := by
              intro j hj q
              by_cases e : j = i_31
              · subst e
                exact c_48 q
              · exact hn j (by omega) q
            refine lv_iinc (v := nI (i_31 + 1)) (lv' := [(3, .int (nI (i_31 + 1))), (0, .ref (ad 0)), (1, .int (nI D)), (2, .int (nI w))]) hx hb dX7_lacks_53 hl (k := 3) rfl (nI_addc (b := 1) (by omega)) (by decide) rfl (fun ls hl => ?_)
            refine lv_goto (tgt := 31) hx hb dX7_lacks_56 (by decide) ?_
            exact ih_31 (i_31 + 1) (by omega) (by omega) hn2 _ _ _ h (lv_sub hl [1, 2, 3, 0] rfl)
          · refine lv_iload_n hx hb dX7_lacks_51 rfl (lv_at hl 3 rfl) ?_
            exact hret (nI i_31) G _ _ 52 _ (⟨by unfold laA lackO; rw [cif_t ⟨D, hD, rfl⟩, TD, fst_s (P := fun m => refu r D (supp r D + nI m) = 0) c_48 hn (by omega)]; rfl, rfl⟩) h dX7_lacks_52
    exact LP_31 (121 + 1) 0 (by omega) (by omega) (fun j hj => by omega) _ _ _ h (lv_sub hl [2, 3, 1, 0] rfl)
  · rw [b2_z] at c_11
    refine lv_iconst (v := (-1)) hx hb dX7_lacks_14 (by decide) ?_
    exact hret (-1) G _ _ 15 _ (⟨by unfold laA; rw [cif_f c_11], rfl⟩) h dX7_lacks_15
set_option maxHeartbeats 4000000 in
set_option maxRecDepth 100000 in
theorem c_X7_free (l : Launch) (J : JJ) (z : ZZ) (ad : Nat → Nat) (G : GG) (r : Nat → Int32) (hR : Rep G 1 r)  : MI l J z ad yX7_free cX7_free 2 .int 1 [.ref (ad 0)] G (fun ans uG => ans = (freeS r) ∧ uG = (G)) := by
  refine MI.go (by decide) (Nat.le_of_ble_eq_true rfl) ?_
  intro pr e s m args below meth c ls Q X h hl hret
  have hx := X.1
  have hb := X.2.1
  have hown := X.2.2.2.1
  have hts := X.2.2.2.2
  have hl : lv_has ls 2 [(0, .ref (ad 0))] := hl
  have hR0 := hR
  obtain ⟨hI, hS, hL, hP, hQ, hV, hBt⟩ := hR
  have hW := hI.1
  obtain ⟨⟨w1, w2⟩, ⟨w3, w4⟩, ⟨w5, w6⟩, w7, w8⟩ := hI.1
  have k1 : G (1 + 1) 0 = nI (kn r) := hS.1.trans w1
  have k2 : G (1 + 11) 0 = nI (mn r) := hP.1.trans w3
  have k3 : G (1 + 18) 0 = nI (on r) := hQ.1.trans w5
  refine lv_iconst (v := nI 1) hx hb dX7_free_0 (by decide) ?_
  refine lv_aload_n hx hb dX7_free_1 rfl (lv_at hl 0 rfl) ?_
  refine fg_X7_12 X h dX7_free_2 ?_
  refine fg_X7_108 isB_1 X h dX7_free_5 ?_
  refine fg_X7_212 isB_1 X h dX7_free_8 ?_
  refine lv_as (y := nI ((kn r))) (k1) ?_
  refine lv_ishl hx hb dX7_free_11 ?_
  refine lv_iconst (v := nI 1) hx hb dX7_free_12 (by decide) ?_
  refine lv_isub hx hb dX7_free_13 ?_
  refine lv_istore_n (lv' := [(1, .int (((nI 1) <<< ((nI ((kn r))) &&& 31)) - (nI 1))), (0, .ref (ad 0))]) hx hb dX7_free_14 rfl hl (by decide) rfl (fun ls hl => ?_)
  refine lv_iload_n hx hb dX7_free_15 rfl (lv_at hl 0 rfl) ?_
  refine lv_aload_n hx hb dX7_free_16 rfl (lv_at hl 1 rfl) ?_
  refine fg_X7_12 X h dX7_free_17 ?_
  refine fg_X7_125 isB_1 X h dX7_free_20 ?_
  refine rg_civd (As := []) (rest := [.int (((nI 1) <<< ((nI ((kn r))) &&& 31)) - (nI 1))]) X hl.1 h (c_X3_makers l J z ad G 1 isB_1 r hR0  ) mw_250 mw_251 mw_252 mw_38 mw_253 pdX3_makers (isB_1.lt (by decide)) (so_11 isB_1 J ad _) rfl rfl ⟨Nat.le_of_ble_eq_true rfl, Nat.le_of_ble_eq_true rfl⟩ ⟨Nat.le_of_ble_eq_true rfl, Nat.le_of_ble_eq_true rfl⟩ rfl (Nat.le_of_ble_eq_true rfl) dX7_free_23 (fun H locs h => ?_)
  refine lv_iconst (v := (-1)) hx hb dX7_free_26 (by decide) ?_
  refine lv_ixor hx hb dX7_free_27 ?_
  refine lv_iand hx hb dX7_free_28 ?_
  exact hret ((((nI 1) <<< ((nI ((kn r))) &&& 31)) - (nI 1)) &&& ((mkI r (mn r)) ^^^ (-1))) G _ _ 29 _ (⟨free_eq hI, rfl⟩) h dX7_free_29
set_option maxHeartbeats 4000000 in
set_option maxRecDepth 100000 in
theorem c_X7_oldest (l : Launch) (J : JJ) (z : ZZ) (ad : Nat → Nat) (G : GG) (r : Nat → Int32) (hR : Rep G 1 r) (d x : Int32) : MI l J z ad yX7_oldest cX7_oldest 4 .int 3 [.ref (ad 0), .int d, .int x] G (fun ans uG => ans = (olA r d x) ∧ uG = (G)) := by
  refine MI.go (by decide) (Nat.le_of_ble_eq_true rfl) ?_
  intro pr e s m args below meth c ls Q X h hl hret
  have hx := X.1
  have hb := X.2.1
  have hown := X.2.2.2.1
  have hts := X.2.2.2.2
  have hl : lv_has ls 4 [(0, .ref (ad 0)), (1, .int d), (2, .int x)] := hl
  have hR0 := hR
  obtain ⟨hI, hS, hL, hP, hQ, hV, hBt⟩ := hR
  have hW := hI.1
  obtain ⟨⟨w1, w2⟩, ⟨w3, w4⟩, ⟨w5, w6⟩, w7, w8⟩ := hI.1
  have k1 : G (1 + 1) 0 = nI (kn r) := hS.1.trans w1
  have k2 : G (1 + 11) 0 = nI (mn r) := hP.1.trans w3
  have k3 : G (1 + 18) 0 = nI (on r) := hQ.1.trans w5
  refine lv_aload_n hx hb dX7_oldest_0 rfl (lv_at hl 0 rfl) ?_
  refine fg_X7_12 X h dX7_oldest_1 ?_
  refine fg_X7_108 isB_1 X h dX7_oldest_4 ?_
  refine lv_iload_n hx hb dX7_oldest_7 rfl (lv_at hl 1 rfl) ?_
  refine rg_civd (As := [.int d]) (rest := []) X hl.1 h (c_X6_knows l J z ad G 1 isB_1 r hR0 d ) mw_182 mw_183 mw_184 mw_30 mw_185 pdX6_knows (isB_1.lt (by decide)) (so_1 isB_1 J ad _) rfl rfl ⟨Nat.le_of_ble_eq_true rfl, Nat.le_of_ble_eq_true rfl⟩ ⟨Nat.le_of_ble_eq_true rfl, Nat.le_of_ble_eq_true rfl⟩ rfl (Nat.le_of_ble_eq_true rfl) dX7_oldest_8 (fun H locs h => ?_)
  refine lv_if_ne (tgt := 16) hx hb dX7_oldest_11 (by decide) (fun c_11 => ?_) (fun c_11 => ?_)
  · rw [b2_z] at c_11
    obtain ⟨D, hD, rfl⟩ := Classical.not_not.mp c_11
    have TD : tn (nI D) = D := tn_nI (by omega)
    obtain ⟨u1a, u2a⟩ := w8 D hD
    refine lv_iload_n hx hb dX7_oldest_16 rfl (lv_at hl 2 rfl) ?_
    refine lv_if_lt (tgt := 25) hx hb dX7_oldest_17 (by decide) (fun c_17 => ?_) (fun c_17 => ?_)
    · refine lv_bipush (v := (-2)) hx hb dX7_oldest_25 (by decide) ?_
      exact hret (-2) G _ _ 27 _ (⟨by unfold olA; rw [cif_t ⟨D, hD, rfl⟩, cif_f (fun q => by have q2 := (inN_iff (by omega) (by omega)).mpr q; first | exact Int32.not_lt.mpr q2.1 c_17 | exact c_22 q2.2)], rfl⟩) h dX7_oldest_27
    · refine lv_iload_n hx hb dX7_oldest_20 rfl (lv_at hl 2 rfl) ?_
      refine lv_iconst (v := nI 1) hx hb dX7_oldest_21 (by decide) ?_
      refine lv_icmp_le (tgt := 28) hx hb dX7_oldest_22 (by decide) (fun c_22 => ?_) (fun c_22 => ?_)
      · have hx1 : inN x 0 1 := (inN_iff (by omega) (by omega)).mp ⟨Int32.not_lt.mp c_17, c_22⟩
        refine lv_aload_n hx hb dX7_oldest_28 rfl (lv_at hl 0 rfl) ?_
        refine fg_X7_12 X h dX7_oldest_29 ?_
        refine fg_X7_99 isB_1 X h dX7_oldest_32 ?_
        refine lv_aload_n hx hb dX7_oldest_35 rfl (lv_at hl 0 rfl) ?_
        refine fg_X7_12 X h dX7_oldest_36 ?_
        refine fg_X7_108 isB_1 X h dX7_oldest_39 ?_
        refine fg_X7_118 isB_1 X h dX7_oldest_42 ?_
        refine lv_iload_n hx hb dX7_oldest_45 rfl (lv_at hl 1 rfl) ?_
        refine rg_ild X h (1 + 2) (isB_1.lt (by decide)) (sa_2 isB_1 J ad) (D) rfl (by omega) (by decide) dX7_oldest_46 ?_
        refine lv_as (y := nI ((dc r D))) (((hS.2.1 D hD).1).trans u1a) ?_
        refine rg_civd (As := [.int (nI ((dc r D)))]) (rest := []) X hl.1 h (c_X1_oldestSpot l J z ad G 1 isB_1 r hR0 (dc r D) (by omega)) mw_212 mw_213 mw_214 mw_34 mw_215 pdX1_oldestSpot (isB_1.lt (by decide)) (so_7 isB_1 J ad _) rfl rfl ⟨Nat.le_of_ble_eq_true rfl, Nat.le_of_ble_eq_true rfl⟩ ⟨Nat.le_of_ble_eq_true rfl, Nat.le_of_ble_eq_true rfl⟩ rfl (Nat.le_of_ble_eq_true rfl) dX7_oldest_47 (fun H locs h => ?_)
        refine lv_istore_n (lv' := [(3, .int (opI (oldI r (dc r D) 140))), (0, .ref (ad 0)), (1, .int (nI D)), (2, .int x)]) hx hb dX7_oldest_50 rfl hl (by decide) rfl (fun ls hl => ?_)
        refine lv_iload_n hx hb dX7_oldest_51 rfl (lv_at hl 0 rfl) ?_
        refine lv_bipush (v := (-5)) hx hb dX7_oldest_52 (by decide) ?_
        refine lv_icmp_ne (tgt := 60) hx hb dX7_oldest_54 (by decide) (fun c_54 => ?_) (fun c_54 => ?_)
        · rw [opI_n (fun k hk => by have := oldI_lt hk; omega)] at c_54
          obtain ⟨k, hk⟩ := Option.ne_none_iff_exists'.mp c_54
          have hk2 := oldI_lt hk
          have hse := RepL_se hL (by omega) (oldI_ru hk)
          rw [hk] at hl
          have hl : lv_has ls 4 [(3, .int (nI k)), (0, .ref (ad 0)), (1, .int (nI D)), (2, .int x)] := hl
          refine lv_iload_n hx hb dX7_oldest_60 rfl (lv_at hl 3 rfl) ?_
          refine lv_if_ne (tgt := 78) hx hb dX7_oldest_61 (by decide) (fun c_61 => ?_) (fun c_61 => ?_)
          · refine lv_aload_n hx hb dX7_oldest_78 rfl (lv_at hl 1 rfl) ?_
            refine fg_X7_12 X h dX7_oldest_79 ?_
            refine fg_X7_99 isB_1 X h dX7_oldest_82 ?_
            refine fg_X7_155 isB_1 X h dX7_oldest_85 ?_
            refine lv_iload_n hx hb dX7_oldest_88 rfl (lv_at hl 0 rfl) ?_
            refine rg_ild X h (1 + 10) (isB_1.lt (by decide)) (sa_10 isB_1 J ad) (k) rfl (by omega) (by decide) dX7_oldest_89 ?_
            refine lv_as (y := r (3 * k + 194)) (hse) ?_
            exact hret (r (3 * k + 194)) G _ _ 90 _ (⟨by unfold olA; rw [cif_t ⟨D, hD, rfl⟩, cif_t hx1, TD, hk]; exact (if_neg c_61).symm, rfl⟩) h dX7_oldest_90
          · refine lv_aload_n hx hb dX7_oldest_64 rfl (lv_at hl 1 rfl) ?_
            refine fg_X7_12 X h dX7_oldest_65 ?_
            refine fg_X7_99 isB_1 X h dX7_oldest_68 ?_
            refine lv_iload_n hx hb dX7_oldest_71 rfl (lv_at hl 0 rfl) ?_
            refine rg_civd (As := [.int (nI k)]) (rest := []) X hl.1 h (c_X1_rankOf l J z ad G 1 isB_1 r hR0 k (by omega)) mw_216 mw_127 mw_128 mw_34 mw_129 pdX1_rankOf (isB_1.lt (by decide)) (so_7 isB_1 J ad _) rfl rfl ⟨Nat.le_of_ble_eq_true rfl, Nat.le_of_ble_eq_true rfl⟩ ⟨Nat.le_of_ble_eq_true rfl, Nat.le_of_ble_eq_true rfl⟩ rfl (Nat.le_of_ble_eq_true rfl) dX7_oldest_72 (fun H locs h => ?_)
            refine lv_goto (tgt := 90) hx hb dX7_oldest_75 (by decide) ?_
            exact hret (nI ((cnt (LW r) k))) G _ _ 90 _ (⟨by unfold olA; rw [cif_t ⟨D, hD, rfl⟩, cif_t hx1, TD, hk]; exact (if_pos c_61).symm, rfl⟩) h dX7_oldest_90
        · rw [opI_n (fun k hk => by have := oldI_lt hk; omega)] at c_54
          refine lv_bipush (v := (-5)) hx hb dX7_oldest_57 (by decide) ?_
          exact hret (-5) G _ _ 59 _ (⟨by unfold olA; rw [cif_t ⟨D, hD, rfl⟩, cif_t hx1, TD, c_54], rfl⟩) h dX7_oldest_59
      · refine lv_bipush (v := (-2)) hx hb dX7_oldest_25 (by decide) ?_
        exact hret (-2) G _ _ 27 _ (⟨by unfold olA; rw [cif_t ⟨D, hD, rfl⟩, cif_f (fun q => by have q2 := (inN_iff (by omega) (by omega)).mpr q; first | exact Int32.not_lt.mpr q2.1 c_17 | exact c_22 q2.2)], rfl⟩) h dX7_oldest_27
  · rw [b2_z] at c_11
    refine lv_iconst (v := (-1)) hx hb dX7_oldest_14 (by decide) ?_
    exact hret (-1) G _ _ 15 _ (⟨by unfold olA; rw [cif_f c_11], rfl⟩) h dX7_oldest_15
set_option maxHeartbeats 4000000 in
set_option maxRecDepth 100000 in
theorem c_X7_count (l : Launch) (J : JJ) (z : ZZ) (ad : Nat → Nat) (G : GG) (r : Nat → Int32) (hR : Rep G 1 r) (p14 p15 : Int32) (h14 : G 101 2 = p14) (h15 : G 203 1 = p15) (x : Int32) : MI l J z ad yX7_count cX7_count 2 .int 4 [.ref (ad 0), .int x] G (fun ans uG => ans = (ctA r p14 p15 x) ∧ uG = (G)) := by
  refine MI.go (by decide) (Nat.le_of_ble_eq_true rfl) ?_
  intro pr e s m args below meth c ls Q X h hl hret
  have hx := X.1
  have hb := X.2.1
  have hown := X.2.2.2.1
  have hts := X.2.2.2.2
  have hl : lv_has ls 2 [(0, .ref (ad 0)), (1, .int x)] := hl
  have hR0 := hR
  obtain ⟨hI, hS, hL, hP, hQ, hV, hBt⟩ := hR
  have hW := hI.1
  obtain ⟨⟨w1, w2⟩, ⟨w3, w4⟩, ⟨w5, w6⟩, w7, w8⟩ := hI.1
  have k1 : G (1 + 1) 0 = nI (kn r) := hS.1.trans w1
  have k2 : G (1 + 11) 0 = nI (mn r) := hP.1.trans w3
  have k3 : G (1 + 18) 0 = nI (on r) := hQ.1.trans w5
  refine lv_iload_n hx hb dX7_count_0 rfl (lv_at hl 1 rfl) ?_
  rcases Classical.em (isN x 16) with c_1 | c_1
  · obtain ⟨w_1, hw_1, e_1⟩ := c_1
    rcases (show w_1 = 0 ∨ w_1 = 1 ∨ w_1 = 2 ∨ w_1 = 3 ∨ w_1 = 4 ∨ w_1 = 5 ∨ w_1 = 6 ∨ w_1 = 7 ∨ w_1 = 8 ∨ w_1 = 9 ∨ w_1 = 10 ∨ w_1 = 11 ∨ w_1 = 12 ∨ w_1 = 13 ∨ w_1 = 14 ∨ w_1 = 15 by omega) with rfl | rfl | rfl | rfl | rfl | rfl | rfl | rfl | rfl | rfl | rfl | rfl | rfl | rfl | rfl | rfl
    · refine lv_as (y := nI 0) e_1 ?_
      refine lv_tableIn (off := 79) (tgt := 80) hx hb dX7_count_1 (by decide) (by decide) rfl (by decide) ?_
      rw [e_1] at hl
      refine lv_aload_n hx hb dX7_count_80 rfl (lv_at hl 0 rfl) ?_
      refine fg_X7_12 X h dX7_count_81 ?_
      refine fg_X7_222 isB_1 X h dX7_count_84 ?_
      refine lv_as (y := r 2) (hV.2.2.1) ?_
      exact hret (r 2) G _ _ 87 _ (⟨by unfold ctA; rw [cif_t ⟨0, by omega, e_1⟩, e_1, tn_nI (by omega)]; rfl, rfl⟩) h dX7_count_87
    · refine lv_as (y := nI 1) e_1 ?_
      refine lv_tableIn (off := 87) (tgt := 88) hx hb dX7_count_1 (by decide) (by decide) rfl (by decide) ?_
      rw [e_1] at hl
      refine lv_aload_n hx hb dX7_count_88 rfl (lv_at hl 0 rfl) ?_
      refine fg_X7_12 X h dX7_count_89 ?_
      refine fg_X7_225 isB_1 X h dX7_count_92 ?_
      refine lv_as (y := r 3) (hV.2.2.2.1) ?_
      exact hret (r 3) G _ _ 95 _ (⟨by unfold ctA; rw [cif_t ⟨1, by omega, e_1⟩, e_1, tn_nI (by omega)]; rfl, rfl⟩) h dX7_count_95
    · refine lv_as (y := nI 2) e_1 ?_
      refine lv_tableIn (off := 95) (tgt := 96) hx hb dX7_count_1 (by decide) (by decide) rfl (by decide) ?_
      rw [e_1] at hl
      refine lv_aload_n hx hb dX7_count_96 rfl (lv_at hl 0 rfl) ?_
      refine fg_X7_12 X h dX7_count_97 ?_
      refine fg_X7_227 isB_1 X h dX7_count_100 ?_
      refine lv_as (y := r 4) (hV.2.2.2.2.1) ?_
      exact hret (r 4) G _ _ 103 _ (⟨by unfold ctA; rw [cif_t ⟨2, by omega, e_1⟩, e_1, tn_nI (by omega)]; rfl, rfl⟩) h dX7_count_103
    · refine lv_as (y := nI 3) e_1 ?_
      refine lv_tableIn (off := 103) (tgt := 104) hx hb dX7_count_1 (by decide) (by decide) rfl (by decide) ?_
      rw [e_1] at hl
      refine lv_aload_n hx hb dX7_count_104 rfl (lv_at hl 0 rfl) ?_
      refine fg_X7_12 X h dX7_count_105 ?_
      refine fg_X7_108 isB_1 X h dX7_count_108 ?_
      refine fg_X7_212 isB_1 X h dX7_count_111 ?_
      refine lv_as (y := r 5) (hS.1) ?_
      exact hret (r 5) G _ _ 114 _ (⟨by unfold ctA; rw [cif_t ⟨3, by omega, e_1⟩, e_1, tn_nI (by omega)]; rfl, rfl⟩) h dX7_count_114
    · refine lv_as (y := nI 4) e_1 ?_
      refine lv_tableIn (off := 114) (tgt := 115) hx hb dX7_count_1 (by decide) (by decide) rfl (by decide) ?_
      rw [e_1] at hl
      refine lv_aload_n hx hb dX7_count_115 rfl (lv_at hl 0 rfl) ?_
      refine fg_X7_12 X h dX7_count_116 ?_
      refine fg_X7_99 isB_1 X h dX7_count_119 ?_
      refine rg_civd (As := []) (rest := []) X hl.1 h (c_X1_size l J z ad G 1 isB_1 r hR0  ) mw_122 mw_123 mw_124 mw_34 mw_125 pdX1_size (isB_1.lt (by decide)) (so_7 isB_1 J ad _) rfl rfl ⟨Nat.le_of_ble_eq_true rfl, Nat.le_of_ble_eq_true rfl⟩ ⟨Nat.le_of_ble_eq_true rfl, Nat.le_of_ble_eq_true rfl⟩ rfl (Nat.le_of_ble_eq_true rfl) dX7_count_122 (fun H locs h => ?_)
      exact hret (nI ((cnt (LW r) 140))) G _ _ 125 _ (⟨by unfold ctA; rw [cif_t ⟨4, by omega, e_1⟩, e_1, tn_nI (by omega)]; rfl, rfl⟩) h dX7_count_125
    · refine lv_as (y := nI 5) e_1 ?_
      refine lv_tableIn (off := 125) (tgt := 126) hx hb dX7_count_1 (by decide) (by decide) rfl (by decide) ?_
      rw [e_1] at hl
      refine lv_aload_n hx hb dX7_count_126 rfl (lv_at hl 0 rfl) ?_
      refine fg_X7_12 X h dX7_count_127 ?_
      refine fg_X7_99 isB_1 X h dX7_count_130 ?_
      refine rg_civd (As := []) (rest := []) X hl.1 h (c_X1_forbidding l J z ad G 1 isB_1 r hR0  ) mw_130 mw_131 mw_132 mw_34 mw_133 pdX1_forbidding (isB_1.lt (by decide)) (so_7 isB_1 J ad _) rfl rfl ⟨Nat.le_of_ble_eq_true rfl, Nat.le_of_ble_eq_true rfl⟩ ⟨Nat.le_of_ble_eq_true rfl, Nat.le_of_ble_eq_true rfl⟩ rfl (Nat.le_of_ble_eq_true rfl) dX7_count_133 (fun H locs h => ?_)
      exact hret (nI ((cnt (fun k => r (3 * k + 192) = nI 0) 140))) G _ _ 136 _ (⟨by unfold ctA; rw [cif_t ⟨5, by omega, e_1⟩, e_1, tn_nI (by omega)]; rfl, rfl⟩) h dX7_count_136
    · refine lv_as (y := nI 6) e_1 ?_
      refine lv_tableIn (off := 136) (tgt := 137) hx hb dX7_count_1 (by decide) (by decide) rfl (by decide) ?_
      rw [e_1] at hl
      refine lv_aload_n hx hb dX7_count_137 rfl (lv_at hl 0 rfl) ?_
      refine fg_X7_12 X h dX7_count_138 ?_
      refine fg_X7_125 isB_1 X h dX7_count_141 ?_
      refine fg_X7_207 isB_1 X h dX7_count_144 ?_
      refine lv_as (y := r 6) (hP.1) ?_
      exact hret (r 6) G _ _ 147 _ (⟨by unfold ctA; rw [cif_t ⟨6, by omega, e_1⟩, e_1, tn_nI (by omega)]; rfl, rfl⟩) h dX7_count_147
    · refine lv_as (y := nI 7) e_1 ?_
      refine lv_tableIn (off := 147) (tgt := 148) hx hb dX7_count_1 (by decide) (by decide) rfl (by decide) ?_
      rw [e_1] at hl
      refine lv_aload_n hx hb dX7_count_148 rfl (lv_at hl 0 rfl) ?_
      refine fg_X7_12 X h dX7_count_149 ?_
      refine fg_X7_108 isB_1 X h dX7_count_152 ?_
      refine fg_X7_137 isB_1 X h dX7_count_155 ?_
      refine rg_cisd (As := [.ref (ad (1 + 4))]) (rest := []) X hl.1 h (c_X7_sum4 l J z ad G 1 isB_1) mw_134 mw_135 mw_2 mw_136 pdX7_sum ⟨Nat.le_of_ble_eq_true rfl, Nat.le_of_ble_eq_true rfl⟩ ⟨Nat.le_of_ble_eq_true rfl, Nat.le_of_ble_eq_true rfl⟩ rfl (Nat.le_of_ble_eq_true rfl) dX7_count_158 (fun H locs h => ?_)
      refine lv_as (y := r 7) (hS.2.2.2.1) ?_
      exact hret (r 7) G _ _ 161 _ (⟨by unfold ctA; rw [cif_t ⟨7, by omega, e_1⟩, e_1, tn_nI (by omega)]; rfl, rfl⟩) h dX7_count_161
    · refine lv_as (y := nI 8) e_1 ?_
      refine lv_tableIn (off := 161) (tgt := 162) hx hb dX7_count_1 (by decide) (by decide) rfl (by decide) ?_
      rw [e_1] at hl
      refine lv_aload_n hx hb dX7_count_162 rfl (lv_at hl 0 rfl) ?_
      refine fg_X7_12 X h dX7_count_163 ?_
      refine fg_X7_108 isB_1 X h dX7_count_166 ?_
      refine fg_X7_140 isB_1 X h dX7_count_169 ?_
      refine rg_cisd (As := [.ref (ad (1 + 5))]) (rest := []) X hl.1 h (c_X7_sum5 l J z ad G 1 isB_1) mw_134 mw_135 mw_2 mw_136 pdX7_sum ⟨Nat.le_of_ble_eq_true rfl, Nat.le_of_ble_eq_true rfl⟩ ⟨Nat.le_of_ble_eq_true rfl, Nat.le_of_ble_eq_true rfl⟩ rfl (Nat.le_of_ble_eq_true rfl) dX7_count_172 (fun H locs h => ?_)
      refine lv_as (y := r 8) (hS.2.2.2.2.1) ?_
      exact hret (r 8) G _ _ 175 _ (⟨by unfold ctA; rw [cif_t ⟨8, by omega, e_1⟩, e_1, tn_nI (by omega)]; rfl, rfl⟩) h dX7_count_175
    · refine lv_as (y := nI 9) e_1 ?_
      refine lv_tableIn (off := 175) (tgt := 176) hx hb dX7_count_1 (by decide) (by decide) rfl (by decide) ?_
      rw [e_1] at hl
      refine lv_aload_n hx hb dX7_count_176 rfl (lv_at hl 0 rfl) ?_
      refine fg_X7_12 X h dX7_count_177 ?_
      refine fg_X7_108 isB_1 X h dX7_count_180 ?_
      refine fg_X7_143 isB_1 X h dX7_count_183 ?_
      refine rg_cisd (As := [.ref (ad (1 + 6))]) (rest := []) X hl.1 h (c_X7_sum6 l J z ad G 1 isB_1) mw_134 mw_135 mw_2 mw_136 pdX7_sum ⟨Nat.le_of_ble_eq_true rfl, Nat.le_of_ble_eq_true rfl⟩ ⟨Nat.le_of_ble_eq_true rfl, Nat.le_of_ble_eq_true rfl⟩ rfl (Nat.le_of_ble_eq_true rfl) dX7_count_186 (fun H locs h => ?_)
      refine lv_as (y := r 9) (hS.2.2.2.2.2) ?_
      exact hret (r 9) G _ _ 189 _ (⟨by unfold ctA; rw [cif_t ⟨9, by omega, e_1⟩, e_1, tn_nI (by omega)]; rfl, rfl⟩) h dX7_count_189
    · refine lv_as (y := nI 10) e_1 ?_
      refine lv_tableIn (off := 189) (tgt := 190) hx hb dX7_count_1 (by decide) (by decide) rfl (by decide) ?_
      rw [e_1] at hl
      refine lv_aload_n hx hb dX7_count_190 rfl (lv_at hl 0 rfl) ?_
      refine fg_X7_12 X h dX7_count_191 ?_
      refine fg_X7_237 isB_1 X h dX7_count_194 ?_
      refine lv_as (y := r 10) (hV.2.2.2.2.2) ?_
      exact hret (r 10) G _ _ 197 _ (⟨by unfold ctA; rw [cif_t ⟨10, by omega, e_1⟩, e_1, tn_nI (by omega)]; rfl, rfl⟩) h dX7_count_197
    · refine lv_as (y := nI 11) e_1 ?_
      refine lv_tableIn (off := 197) (tgt := 198) hx hb dX7_count_1 (by decide) (by decide) rfl (by decide) ?_
      rw [e_1] at hl
      refine lv_aload_n hx hb dX7_count_198 rfl (lv_at hl 0 rfl) ?_
      refine fg_X7_12 X h dX7_count_199 ?_
      refine fg_X7_99 isB_1 X h dX7_count_202 ?_
      refine rg_civd (As := []) (rest := []) X hl.1 h (c_X1_forbiddenDoings l J z ad G 1 isB_1 r hR0  ) mw_137 mw_138 mw_139 mw_34 mw_140 pdX1_forbiddenDoings (isB_1.lt (by decide)) (so_7 isB_1 J ad _) rfl rfl ⟨Nat.le_of_ble_eq_true rfl, Nat.le_of_ble_eq_true rfl⟩ ⟨Nat.le_of_ble_eq_true rfl, Nat.le_of_ble_eq_true rfl⟩ rfl (Nat.le_of_ble_eq_true rfl) dX7_count_205 (fun H locs h => ?_)
      exact hret (nI ((cnt (fun k => ¬ alw r (k / 20) (k % 20)) 120))) G _ _ 208 _ (⟨by unfold ctA; rw [cif_t ⟨11, by omega, e_1⟩, e_1, tn_nI (by omega)]; rfl, rfl⟩) h dX7_count_208
    · refine lv_as (y := nI 12) e_1 ?_
      refine lv_tableIn (off := 208) (tgt := 209) hx hb dX7_count_1 (by decide) (by decide) rfl (by decide) ?_
      rw [e_1] at hl
      refine lv_aload_n hx hb dX7_count_209 rfl (lv_at hl 0 rfl) ?_
      refine fg_X7_12 X h dX7_count_210 ?_
      refine fg_X7_243 isB_1 X h dX7_count_213 ?_
      refine lv_iconst (v := nI 0) hx hb dX7_count_216 (by decide) ?_
      refine rg_ild X h (1 + 23) (isB_1.lt (by decide)) (sa_23 isB_1 J ad) (0) rfl (by omega) (by decide) dX7_count_217 ?_
      refine lv_as (y := r 0) (hV.1) ?_
      exact hret (r 0) G _ _ 218 _ (⟨by unfold ctA; rw [cif_t ⟨12, by omega, e_1⟩, e_1, tn_nI (by omega)]; rfl, rfl⟩) h dX7_count_218
    · refine lv_as (y := nI 13) e_1 ?_
      refine lv_tableIn (off := 218) (tgt := 219) hx hb dX7_count_1 (by decide) (by decide) rfl (by decide) ?_
      rw [e_1] at hl
      refine lv_aload_n hx hb dX7_count_219 rfl (lv_at hl 0 rfl) ?_
      refine fg_X7_12 X h dX7_count_220 ?_
      refine fg_X7_243 isB_1 X h dX7_count_223 ?_
      refine lv_iconst (v := nI 1) hx hb dX7_count_226 (by decide) ?_
      refine rg_ild X h (1 + 23) (isB_1.lt (by decide)) (sa_23 isB_1 J ad) (1) rfl (by omega) (by decide) dX7_count_227 ?_
      refine lv_as (y := r 1) (hV.2.1) ?_
      exact hret (r 1) G _ _ 228 _ (⟨by unfold ctA; rw [cif_t ⟨13, by omega, e_1⟩, e_1, tn_nI (by omega)]; rfl, rfl⟩) h dX7_count_228
    · refine lv_as (y := nI 14) e_1 ?_
      refine lv_tableIn (off := 228) (tgt := 229) hx hb dX7_count_1 (by decide) (by decide) rfl (by decide) ?_
      rw [e_1] at hl
      refine lv_aload_n hx hb dX7_count_229 rfl (lv_at hl 0 rfl) ?_
      refine fg_X7_28 X h dX7_count_230 ?_
      refine fg_X7_246 X h dX7_count_233 ?_
      refine lv_as (y := p14) (h14) ?_
      exact hret p14 G _ _ 236 _ (⟨by unfold ctA; rw [cif_t ⟨14, by omega, e_1⟩, e_1, tn_nI (by omega)]; rfl, rfl⟩) h dX7_count_236
    · refine lv_as (y := nI 15) e_1 ?_
      refine lv_tableIn (off := 236) (tgt := 237) hx hb dX7_count_1 (by decide) (by decide) rfl (by decide) ?_
      rw [e_1] at hl
      refine lv_aload_n hx hb dX7_count_237 rfl (lv_at hl 0 rfl) ?_
      refine fg_X7_35 X h dX7_count_238 ?_
      refine fg_X7_247 X h dX7_count_241 ?_
      refine lv_as (y := p15) (h15) ?_
      exact hret p15 G _ _ 244 _ (⟨by unfold ctA; rw [cif_t ⟨15, by omega, e_1⟩, e_1, tn_nI (by omega)]; rfl, rfl⟩) h dX7_count_244
  · refine lv_tableOut (tgt := 245) hx hb dX7_count_1 (sw_out (by decide) c_1) (by decide) ?_
    refine lv_bipush (v := (-2)) hx hb dX7_count_245 (by decide) ?_
    exact hret (-2) G _ _ 247 _ (⟨by unfold ctA; rw [cif_f c_1], rfl⟩) h dX7_count_247
