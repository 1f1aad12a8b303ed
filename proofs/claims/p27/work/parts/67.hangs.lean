/-! hangs: what the law asks of bylaws and what they rule -/
theorem cnt_gap {P : Nat → Prop} {p : Nat} : ∀ m, (∀ j, p ≤ j → j < p + m → ¬ P j) → cnt P (p + m) = cnt P p := by
  intro m
  induction m with
  | zero => exact fun _ => rfl
  | succ m ih =>
    intro h
    rw [← Nat.add_assoc, cnt_f (h (p + m) (by omega) (by omega)), ih (fun j a b => h j a (by omega))]
theorem lw_gap {r : Nat → Int32} {p k : Nat} (h : cnt (LW r) p = cnt (LW r) k) (hpk : p ≤ k) (P : Nat → Prop) (hP : ∀ j, P j → LW r j) : cnt P k = cnt P p := by
  have := cnt_gap (P := P) (p := p) (k - p) (fun j a b q => by
    have h1 := cnt_slt (P := LW r) (show j < k by omega) (hP j q)
    have h2 := cnt_mono (P := LW r) a
    omega)
  rw [show p + (k - p) = k by omega] at this
  exact this
theorem lw_le {r : Nat → Int32} {p k i : Nat} (h1 : cnt (LW r) p = i) (h2 : cnt (LW r) k = i) (hk : LW r k) : p ≤ k := by
  refine Nat.not_lt.mp (fun q => ?_)
  have := cnt_slt q hk
  omega
theorem lw_uniq {r : Nat → Int32} {s t i : Nat} (h1 : cnt (LW r) s = i) (hs : LW r s) (h2 : cnt (LW r) t = i) (ht : LW r t) : s = t := by
  have a := lw_le h1 h2 ht
  have b := lw_le h2 h1 hs
  omega
theorem at_bef {p k : Nat} (h : p ≤ k) (hk : k < 140) : ¬ nI k ≤ nI p - nI 1 := by
  rw [i32_le, pk_sub_toInt (by omega) (by omega), nI_toInt (by omega)]
  omega
theorem st_0 {r : Nat → Int32} {k : Nat} (h : r (3 * k + 192) = nI 0) : LW r k := fun e => nI_n5 (by decide) (h.symm.trans e)
noncomputable def fW (r : Nat → Int32) (s j : Nat) : Int32 := cif (LW r s ∧ cnt (LW r) s < j) (nI (cnt (LW r) s)) (-1)
theorem fW_0 (r : Nat → Int32) (s : Nat) : fW r s 0 = (-1) := cif_f (fun q => absurd q.2 (Nat.not_lt_zero _))
theorem fW_t {r : Nat → Int32} {s t j : Nat} (h2 : LW r t) (h3 : cnt (LW r) t = j) (e : t = s) : nI j = fW r s (j + 1) := by
  subst e
  unfold fW
  rw [cif_t ⟨h2, by omega⟩, h3]
theorem fW_f {r : Nat → Int32} {s t j : Nat} (h2 : LW r t) (h3 : cnt (LW r) t = j) (e : t ≠ s) : fW r s j = fW r s (j + 1) := by
  unfold fW
  rcases Classical.em (LW r s ∧ cnt (LW r) s < j) with c | c
  · rw [cif_t c, cif_t ⟨c.1, by omega⟩]
  · rw [cif_f c, cif_f]
    rintro ⟨c1, c2⟩
    by_cases g : cnt (LW r) s < j
    · exact c ⟨c1, g⟩
    · exact e (lw_uniq h3 h2 (by omega) c1)
theorem fW_y {r : Nat → Int32} {s : Nat} (hs : s < 140) (h : LW r s) : fW r s (cnt (LW r) 140) = nI (cnt (LW r) s) := cif_t ⟨h, cnt_slt hs h⟩
theorem fW_n {r : Nat → Int32} {s j : Nat} (h : ¬ LW r s) : fW r s j = (-1) := cif_f (fun q => h q.1)
theorem lw_n {r : Nat → Int32} {k : Nat} (h : ¬ LW r k) : r (3 * k + 192) = (-5) := Classical.not_not.mp h
/-- who rules, by the two spots -/
theorem ru_nn {r : Nat → Int32} {b : Nat} (h1 : ¬ LW r b) (h2 : ¬ LW r (120 + b % 20)) : rulO r (b / 20) (b % 20) = none := by
  have e1 := lw_n h1
  have e2 := lw_n h2
  unfold rulO
  rw [show 60 * (b / 20) + 3 * (b % 20) + 192 = 3 * b + 192 by omega, show 3 * (b % 20) + 552 = 3 * (120 + b % 20) + 192 by omega, if_pos (Or.inl e1), if_pos e1, if_pos e2]
theorem ru_yn {r : Nat → Int32} {b : Nat} (h1 : LW r b) (h2 : ¬ LW r (120 + b % 20)) : rulO r (b / 20) (b % 20) = some (b / 20) := by
  have e2 := lw_n h2
  unfold rulO
  rw [show 60 * (b / 20) + 3 * (b % 20) + 192 = 3 * b + 192 by omega, show 3 * (b % 20) + 552 = 3 * (120 + b % 20) + 192 by omega, if_pos (Or.inr e2), if_neg h1]
theorem ru_ny {r : Nat → Int32} {b : Nat} (h1 : ¬ LW r b) (h2 : LW r (120 + b % 20)) : rulO r (b / 20) (b % 20) = some 6 := by
  have e1 := lw_n h1
  unfold rulO
  rw [show 60 * (b / 20) + 3 * (b % 20) + 192 = 3 * b + 192 by omega, show 3 * (b % 20) + 552 = 3 * (120 + b % 20) + 192 by omega, if_pos (Or.inl e1), if_pos e1, if_neg h2]
theorem ru_y1 {r : Nat → Int32} {b : Nat} (h1 : LW r b) (h2 : LW r (120 + b % 20)) (h : r (3 * (120 + b % 20) + 193) ≤ r (3 * b + 193)) : rulO r (b / 20) (b % 20) = some (b / 20) := by
  unfold rulO
  rw [show 60 * (b / 20) + 3 * (b % 20) + 192 = 3 * b + 192 by omega, show 3 * (b % 20) + 552 = 3 * (120 + b % 20) + 192 by omega, if_neg (fun q => q.elim h1 h2), show 60 * (b / 20) + 3 * (b % 20) + 193 = 3 * b + 193 by omega, show 3 * (b % 20) + 553 = 3 * (120 + b % 20) + 193 by omega, if_neg (Int32.not_lt.mpr h)]
theorem ru_y6 {r : Nat → Int32} {b : Nat} (h1 : LW r b) (h2 : LW r (120 + b % 20)) (h : ¬ r (3 * (120 + b % 20) + 193) ≤ r (3 * b + 193)) : rulO r (b / 20) (b % 20) = some 6 := by
  unfold rulO
  rw [show 60 * (b / 20) + 3 * (b % 20) + 192 = 3 * b + 192 by omega, show 3 * (b % 20) + 552 = 3 * (120 + b % 20) + 192 by omega, if_neg (fun q => q.elim h1 h2), show 60 * (b / 20) + 3 * (b % 20) + 193 = 3 * b + 193 by omega, show 3 * (b % 20) + 553 = 3 * (120 + b % 20) + 193 by omega, if_pos (Int32.not_le.mp h)]
theorem alw_n {r : Nat → Int32} {a g : Nat} (h : rulO r a g = none) : alw r a g := Or.inl h
theorem alw_s {r : Nat → Int32} {a g k : Nat} (h : rulO r a g = some k) : alw r a g ↔ r (60 * k + 3 * g + 192) = nI 1 := by
  unfold alw
  rw [h]
  constructor
  · rintro (q | ⟨j, q1, q2⟩)
    · cases q
    · cases q1
      exact q2
  · exact fun q => Or.inr ⟨k, rfl, q⟩
theorem lw_st {G : GG} {r : Nat → Int32} (hR : Rep G 1 r) {k : Nat} (hk : k < 140) (h : LW r k) : (r (3 * k + 192) = nI 0 ∨ r (3 * k + 192) = nI 1) ∧ ¬ r (3 * k + 193) < 0 := by
  rcases hR.2.2.1 k hk with ⟨a, -⟩ | ⟨-, -, a, -, c, -⟩
  · exact absurd a h
  · refine ⟨a, fun q => ?_⟩
    rw [i32_lt] at c q
    omega
theorem lw_se {B : Nat} {r : Nat → Int32} (h : n2 B r) (hB : B ≤ 99999) {k : Nat} (hk : k < 140) (hL : LW r k) : ¬ r 3 ≤ r (3 * k + 194) := by
  obtain ⟨D, S, e, a, b, ⟨D1, D2⟩, ⟨S1, S2⟩, -, -, hl⟩ := h
  obtain ⟨t, t1, t2⟩ := hl k hk hL
  rw [S1, t2, nI_leI (by omega) (by omega)]
  omega
theorem r4_nn {B : Nat} {r : Nat → Int32} (h : n2 B r) : ¬ r 4 < 0 := by
  obtain ⟨D, S, e, a, b, -, -, ⟨e1, e2⟩, -⟩ := h
  rw [e1]
  exact nI_nn (by omega)
set_option maxHeartbeats 4000000 in
set_option maxRecDepth 100000 in
theorem c_L_hangs (l : Launch) (J : JJ) (z : ZZ) (ad : Nat → Nat) (G : GG) (hz : z.2 ≤ 1) (r : Nat → Int32) (n B : Nat) (hv : Hv G r n) (hI : Iv B r) (hB : B ≤ 99999) : MI l J z ad yL_hangs cL_hangs 9 .boolean 6 [.ref (ad 0)] G (fun ans uG => ans = (nI 1) ∧ uG = (G)) := by
  refine MZ.go (by decide) (Nat.le_of_ble_eq_true rfl) ?_
  intro pr e s m args below meth c ls Q X h hl hret
  have hx := X.1
  have hb := X.2.1
  have hown := X.2.2.2.1
  have hts := X.2.2.2.2
  have hl : lv_has ls 9 [(0, .ref (ad 0))] := hl
  have hR := hv.rep
  have h14 := hv.at
  have hW := hI.1.1
  obtain ⟨⟨w1, w2⟩, ⟨w3, w4⟩, ⟨w5, w6⟩, w7, w8⟩ := hI.1.1
  have hnn := hv.2.2.1
  have hc140 := cnt_le (LW r) 140
  have hle := cnt_le (LW r)
  have hce := cnt_le (fun k => r (3 * k + 192) = nI 0)
  have hcn := cnt_le (fun k => ¬ alw r (k / 20) (k % 20))
  refine lv_iconst (v := nI 0) hx hb dL_hangs_0 (by decide) ?_
  refine lv_istore_n (lv' := [(1, .int (nI 0)), (0, .ref (ad 0))]) hx hb dL_hangs_1 rfl hl (by decide) rfl (fun ls hl => ?_)
  refine lv_iconst (v := (-1)) hx hb dL_hangs_2 (by decide) ?_
  refine lv_istore_n (lv' := [(2, .int ((-1))), (1, .int (nI 0)), (0, .ref (ad 0))]) hx hb dL_hangs_3 rfl hl (by decide) rfl (fun ls hl => ?_)
  refine lv_iconst (v := nI 0) hx hb dL_hangs_4 (by decide) ?_
  refine lv_istore_n (lv' := [(3, .int (nI 0)), (2, .int ((-1))), (1, .int (nI 0)), (0, .ref (ad 0))]) hx hb dL_hangs_5 rfl hl (by decide) rfl (fun ls hl => ?_)
  have hl : lv_has ls 9 [(3, .int (nI 0)), (2, .int (nI 0 - nI 1)), (1, .int (nI ((cnt (fun k => r (3 * k + 192) = nI 0) 0)))), (0, .ref (ad 0))] := hl
  have LP_6 : ∀ (k_6 i_6 : Nat), (cnt (LW r) 140) + 1 ≤ i_6 + k_6 → i_6 ≤ (cnt (LW r) 140) → ∀ (p : Nat) (hp1 : p ≤ 140) (hp2 : cnt (LW r) p = i_6) (H : Heap) (locs : List Loc) (ls : Array Slot), HG J z ad s G H locs → lv_has ls 9 [(0, .ref (ad 0)), (1, .int (nI ((cnt (fun k => r (3 * k + 192) = nI 0) p)))), (2, .int (nI p - nI 1)), (3, .int (nI i_6))] → W pr l e (rmD 6 0 0) s m args below meth c H locs 0 0 Q (F0 m 6 ls []) := by
    intro k_6
    induction k_6 with
    | zero =>
      intro i_6 g1 g2
      exact absurd g1 (by omega)
    | succ k_6 ih_6 =>
      intro i_6 g1_6 g2_6 p hp1 hp2 H locs ls h hl
      refine lv_iload_n hx hb dL_hangs_6 rfl (lv_at hl 3 rfl) ?_
      refine lv_aload_n hx hb dL_hangs_7 rfl (lv_at hl 0 rfl) ?_
      refine lv_iconst (v := nI 4) hx hb dL_hangs_8 (by decide) ?_
      refine rg_civd (As := [.int (nI 4)]) (rest := [.int (nI i_6)]) X hl.1 h (c_X7_count l J z ad G r hR (nI n) (G 203 1) h14 rfl (nI 4)) mw_103 mw_104 mw_105 mw_2 mw_106 pdX7_count (by decide) (xo_0 J ad _) rfl rfl ⟨Nat.le_of_ble_eq_true rfl, Nat.le_of_ble_eq_true rfl⟩ ⟨Nat.le_of_ble_eq_true rfl, Nat.le_of_ble_eq_true rfl⟩ rfl (Nat.le_of_ble_eq_true rfl) dL_hangs_9 (fun H locs h => ?_)
      refine lv_as (y := nI ((cnt (LW r) 140))) (ct_at (by omega)) ?_
      refine lv_icmp_ge (tgt := 115) hx hb dL_hangs_12 (by decide) (fun c_12 => ?_) (fun c_12 => ?_)
      · rw [nI_leI (by omega) (by omega)] at c_12
        have ex_6 : i_6 = cnt (LW r) 140 := by omega
        have hall := lw_gap (hp2.trans ex_6) hp1 (fun k => r (3 * k + 192) = nI 0) (fun j q => st_0 q)
        rw [← hall] at hl
        refine lv_iconst (v := nI 0) hx hb dL_hangs_115 (by decide) ?_
        refine lv_istore_n (lv' := [(3, .int (nI 0)), (0, .ref (ad 0)), (1, .int (nI ((cnt (fun k => r (3 * k + 192) = nI 0) 140)))), (2, .int (nI p - nI 1))]) hx hb dL_hangs_116 rfl hl (by decide) rfl (fun ls hl => ?_)
        refine lv_iconst (v := nI 0) hx hb dL_hangs_117 (by decide) ?_
        refine lv_istore (lv' := [(4, .int (nI 0)), (3, .int (nI 0)), (0, .ref (ad 0)), (1, .int (nI ((cnt (fun k => r (3 * k + 192) = nI 0) 140)))), (2, .int (nI p - nI 1))]) hx hb dL_hangs_118 hl (by decide) rfl (fun ls hl => ?_)
        have hl : lv_has ls 9 [(4, .int (nI 0)), (3, .int (nI ((cnt (fun k => ¬ alw r (k / 20) (k % 20)) 0)))), (0, .ref (ad 0)), (1, .int (nI ((cnt (fun k => r (3 * k + 192) = nI 0) 140)))), (2, .int (nI p - nI 1))] := hl
        have LP_120 : ∀ (k_120 i_120 : Nat), 120 + 1 ≤ i_120 + k_120 → i_120 ≤ 120 → ∀ (H : Heap) (locs : List Loc) (ls : Array Slot), HG J z ad s G H locs → lv_has ls 9 [(0, .ref (ad 0)), (1, .int (nI ((cnt (fun k => r (3 * k + 192) = nI 0) 140)))), (3, .int (nI ((cnt (fun k => ¬ alw r (k / 20) (k % 20)) i_120)))), (4, .int (nI i_120))] → W pr l e (rmD 6 0 0) s m args below meth c H locs 0 0 Q (F0 m 120 ls []) := by
          intro k_120
          induction k_120 with
          | zero =>
            intro i_120 g1 g2
            exact absurd g1 (by omega)
          | succ k_120 ih_120 =>
            intro i_120 g1_120 g2_120  H locs ls h hl
            refine lv_iload hx hb dL_hangs_120 (lv_at hl 3 rfl) ?_
            refine lv_bipush (v := nI 120) hx hb dL_hangs_122 (by decide) ?_
            refine lv_icmp_ge (tgt := 417) hx hb dL_hangs_124 (by decide) (fun c_124 => ?_) (fun c_124 => ?_)
            · rw [nI_leI (by omega) (by omega)] at c_124
              have ex_120 : i_120 = 120 := by omega
              rw [ex_120] at hl
              refine lv_iconst (v := nI 0) hx hb dL_hangs_417 (by decide) ?_
              refine lv_istore (lv' := [(4, .int (nI 0)), (0, .ref (ad 0)), (1, .int (nI ((cnt (fun k => r (3 * k + 192) = nI 0) 140)))), (3, .int (nI ((cnt (fun k => ¬ alw r (k / 20) (k % 20)) 120))))]) hx hb dL_hangs_418 hl (by decide) rfl (fun ls hl => ?_)
              have LP_420 : ∀ (k_420 i_420 : Nat), (kn r) + 1 ≤ i_420 + k_420 → i_420 ≤ (kn r) → ∀ (H : Heap) (locs : List Loc) (ls : Array Slot), HG J z ad s G H locs → lv_has ls 9 [(0, .ref (ad 0)), (1, .int (nI ((cnt (fun k => r (3 * k + 192) = nI 0) 140)))), (3, .int (nI ((cnt (fun k => ¬ alw r (k / 20) (k % 20)) 120)))), (4, .int (nI i_420))] → W pr l e (rmD 6 0 0) s m args below meth c H locs 0 0 Q (F0 m 420 ls []) := by
                intro k_420
                induction k_420 with
                | zero =>
                  intro i_420 g1 g2
                  exact absurd g1 (by omega)
                | succ k_420 ih_420 =>
                  intro i_420 g1_420 g2_420  H locs ls h hl
                  refine lv_iload hx hb dL_hangs_420 (lv_at hl 3 rfl) ?_
                  refine lv_aload_n hx hb dL_hangs_422 rfl (lv_at hl 0 rfl) ?_
                  refine lv_iconst (v := nI 3) hx hb dL_hangs_423 (by decide) ?_
                  refine rg_civd (As := [.int (nI 3)]) (rest := [.int (nI i_420)]) X hl.1 h (c_X7_count l J z ad G r hR (nI n) (G 203 1) h14 rfl (nI 3)) mw_103 mw_104 mw_105 mw_2 mw_106 pdX7_count (by decide) (xo_0 J ad _) rfl rfl ⟨Nat.le_of_ble_eq_true rfl, Nat.le_of_ble_eq_true rfl⟩ ⟨Nat.le_of_ble_eq_true rfl, Nat.le_of_ble_eq_true rfl⟩ rfl (Nat.le_of_ble_eq_true rfl) dL_hangs_424 (fun H locs h => ?_)
                  refine lv_as (y := nI ((kn r))) (kn_ct hI.1) ?_
                  refine lv_icmp_ge (tgt := 532) hx hb dL_hangs_427 (by decide) (fun c_427 => ?_) (fun c_427 => ?_)
                  · rw [nI_leI (by omega) (by omega)] at c_427
                    refine lv_aload_n hx hb dL_hangs_532 rfl (lv_at hl 0 rfl) ?_
                    refine lv_iconst (v := nI 5) hx hb dL_hangs_533 (by decide) ?_
                    refine rg_civd (As := [.int (nI 5)]) (rest := []) X hl.1 h (c_X7_count l J z ad G r hR (nI n) (G 203 1) h14 rfl (nI 5)) mw_103 mw_104 mw_105 mw_2 mw_106 pdX7_count (by decide) (xo_0 J ad _) rfl rfl ⟨Nat.le_of_ble_eq_true rfl, Nat.le_of_ble_eq_true rfl⟩ ⟨Nat.le_of_ble_eq_true rfl, Nat.le_of_ble_eq_true rfl⟩ rfl (Nat.le_of_ble_eq_true rfl) dL_hangs_534 (fun H locs h => ?_)
                    refine lv_as (y := nI ((cnt (fun k => r (3 * k + 192) = nI 0) 140))) (ct_at (by omega)) ?_
                    refine lv_iload_n hx hb dL_hangs_537 rfl (lv_at hl 1 rfl) ?_
                    refine lv_icmp_ne (tgt := 570) hx hb dL_hangs_538 (by decide) (fun c_538 => absurd (rfl) c_538) (fun c_538 => ?_)
                    refine lv_aload_n hx hb dL_hangs_541 rfl (lv_at hl 0 rfl) ?_
                    refine lv_bipush (v := nI 11) hx hb dL_hangs_542 (by decide) ?_
                    refine rg_civd (As := [.int (nI 11)]) (rest := []) X hl.1 h (c_X7_count l J z ad G r hR (nI n) (G 203 1) h14 rfl (nI 11)) mw_103 mw_104 mw_105 mw_2 mw_106 pdX7_count (by decide) (xo_0 J ad _) rfl rfl ⟨Nat.le_of_ble_eq_true rfl, Nat.le_of_ble_eq_true rfl⟩ ⟨Nat.le_of_ble_eq_true rfl, Nat.le_of_ble_eq_true rfl⟩ rfl (Nat.le_of_ble_eq_true rfl) dL_hangs_544 (fun H locs h => ?_)
                    refine lv_as (y := nI ((cnt (fun k => ¬ alw r (k / 20) (k % 20)) 120))) (ct_at (by omega)) ?_
                    refine lv_iload_n hx hb dL_hangs_547 rfl (lv_at hl 2 rfl) ?_
                    refine lv_icmp_ne (tgt := 570) hx hb dL_hangs_548 (by decide) (fun c_548 => absurd (rfl) c_548) (fun c_548 => ?_)
                    refine lv_aload_n hx hb dL_hangs_551 rfl (lv_at hl 0 rfl) ?_
                    refine lv_iconst (v := nI 2) hx hb dL_hangs_552 (by decide) ?_
                    refine rg_civd (As := [.int (nI 2)]) (rest := []) X hl.1 h (c_X7_count l J z ad G r hR (nI n) (G 203 1) h14 rfl (nI 2)) mw_103 mw_104 mw_105 mw_2 mw_106 pdX7_count (by decide) (xo_0 J ad _) rfl rfl ⟨Nat.le_of_ble_eq_true rfl, Nat.le_of_ble_eq_true rfl⟩ ⟨Nat.le_of_ble_eq_true rfl, Nat.le_of_ble_eq_true rfl⟩ rfl (Nat.le_of_ble_eq_true rfl) dL_hangs_553 (fun H locs h => ?_)
                    refine lv_as (y := r 4) (ct_at (by omega)) ?_
                    refine lv_if_lt (tgt := 570) hx hb dL_hangs_556 (by decide) (fun c_556 => absurd c_556 (r4_nn hI.2.2.1)) (fun c_556 => ?_)
                    refine lv_aload_n hx hb dL_hangs_559 rfl (lv_at hl 0 rfl) ?_
                    refine rg_cisd (As := [.ref (ad 0)]) (rest := []) X hl.1 h (c_L_petitions l J z ad G hz r n B hv hI hB) mw_217 mw_218 mw_101 mw_219 pdL_petitions ⟨Nat.le_of_ble_eq_true rfl, Nat.le_of_ble_eq_true rfl⟩ ⟨Nat.le_of_ble_eq_true rfl, Nat.le_of_ble_eq_true rfl⟩ rfl (Nat.le_of_ble_eq_true rfl) dL_hangs_560 (fun H locs h => ?_)
                    refine lv_if_eq (tgt := 570) hx hb dL_hangs_563 (by decide) (fun c_563 => absurd c_563 (by decide)) (fun c_563 => ?_)
                    refine lv_iconst (v := nI 1) hx hb dL_hangs_566 (by decide) ?_
                    refine lv_goto (tgt := 571) hx hb dL_hangs_567 (by decide) ?_
                    exact hret (nI 1) G _ _ 571 _ (⟨rfl, rfl⟩) h rfl dL_hangs_571
                  · rw [nI_leI (by omega) (by omega)] at c_427
                    obtain ⟨v_0, v_1⟩ := w8 i_420 (by omega)
                    cases eo : oldI r (dc r i_420) 140 with
                    | none =>
                      refine lv_aload_n hx hb dL_hangs_430 rfl (lv_at hl 0 rfl) ?_
                      refine lv_iload hx hb dL_hangs_431 (lv_at hl 3 rfl) ?_
                      refine lv_iconst (v := nI 0) hx hb dL_hangs_433 (by decide) ?_
                      refine rg_civd (As := [.int (nI i_420), .int (nI 0)]) (rest := []) X hl.1 h (c_X7_oldest l J z ad G r hR (nI i_420) (nI 0)) mw_208 mw_209 mw_210 mw_2 mw_211 pdX7_oldest (by decide) (xo_0 J ad _) rfl rfl ⟨Nat.le_of_ble_eq_true rfl, Nat.le_of_ble_eq_true rfl⟩ ⟨Nat.le_of_ble_eq_true rfl, Nat.le_of_ble_eq_true rfl⟩ rfl (Nat.le_of_ble_eq_true rfl) dL_hangs_434 (fun H locs h => ?_)
                      refine lv_as (y := (-5)) (ol_n w2 (by omega) (by omega) eo) ?_
                      refine lv_istore (lv' := [(5, .int ((-5))), (0, .ref (ad 0)), (1, .int (nI ((cnt (fun k => r (3 * k + 192) = nI 0) 140)))), (3, .int (nI ((cnt (fun k => ¬ alw r (k / 20) (k % 20)) 120)))), (4, .int (nI i_420))]) hx hb dL_hangs_437 hl (by decide) rfl (fun ls hl => ?_)
                      refine lv_iload hx hb dL_hangs_439 (lv_at hl 0 rfl) ?_
                      refine lv_bipush (v := (-5)) hx hb dL_hangs_441 (by decide) ?_
                      refine lv_icmp_ne (tgt := 466) hx hb dL_hangs_443 (by decide) (fun c_443 => absurd (by decide) c_443) (fun c_443 => ?_)
                      refine lv_aload_n hx hb dL_hangs_446 rfl (lv_at hl 1 rfl) ?_
                      refine lv_iload hx hb dL_hangs_447 (lv_at hl 4 rfl) ?_
                      refine lv_iconst (v := nI 1) hx hb dL_hangs_449 (by decide) ?_
                      refine rg_civd (As := [.int (nI i_420), .int (nI 1)]) (rest := []) X hl.1 h (c_X7_oldest l J z ad G r hR (nI i_420) (nI 1)) mw_208 mw_209 mw_210 mw_2 mw_211 pdX7_oldest (by decide) (xo_0 J ad _) rfl rfl ⟨Nat.le_of_ble_eq_true rfl, Nat.le_of_ble_eq_true rfl⟩ ⟨Nat.le_of_ble_eq_true rfl, Nat.le_of_ble_eq_true rfl⟩ rfl (Nat.le_of_ble_eq_true rfl) dL_hangs_450 (fun H locs h => ?_)
                      refine lv_as (y := (-5)) (ol_n w2 (by omega) (by omega) eo) ?_
                      refine lv_iload hx hb dL_hangs_453 (lv_at hl 0 rfl) ?_
                      refine lv_icmp_ne (tgt := 462) hx hb dL_hangs_455 (by decide) (fun c_455 => absurd (by decide) c_455) (fun c_455 => ?_)
                      refine lv_iconst (v := nI 1) hx hb dL_hangs_458 (by decide) ?_
                      refine lv_goto (tgt := 517) hx hb dL_hangs_459 (by decide) ?_
                      refine lv_istore (lv' := [(6, .int (nI 1)), (5, .int ((-5))), (0, .ref (ad 0)), (1, .int (nI ((cnt (fun k => r (3 * k + 192) = nI 0) 140)))), (3, .int (nI ((cnt (fun k => ¬ alw r (k / 20) (k % 20)) 120)))), (4, .int (nI i_420))]) hx hb dL_hangs_517 hl (by decide) rfl (fun ls hl => ?_)
                      refine lv_iload hx hb dL_hangs_519 (lv_at hl 0 rfl) ?_
                      refine lv_if_ne (tgt := 526) hx hb dL_hangs_521 (by decide) (fun c_521 => ?_) (fun c_521 => absurd c_521 (by decide))
                      refine lv_iinc (v := nI (i_420 + 1)) (lv' := [(4, .int (nI (i_420 + 1))), (6, .int (nI 1)), (5, .int ((-5))), (0, .ref (ad 0)), (1, .int (nI ((cnt (fun k => r (3 * k + 192) = nI 0) 140)))), (3, .int (nI ((cnt (fun k => ¬ alw r (k / 20) (k % 20)) 120))))]) hx hb dL_hangs_526 hl (k := 5) rfl (nI_addc (b := 1) (by omega)) (by decide) rfl (fun ls hl => ?_)
                      refine lv_goto (tgt := 420) hx hb dL_hangs_529 (by decide) ?_
                      exact ih_420 (i_420 + 1) (by omega) (by omega) _ _ _ h (lv_sub hl [3, 4, 5, 0] rfl)
                    | some t =>
                      have t1 := oldI_lt eo
                      have hru := oldI_ru eo
                      have t2 : LW r t := fun q => rul_LW hru (by rw [show 60 * (t / 20) + 3 * (t % 20) + 192 = 3 * t + 192 by omega]; exact q)
                      have hlt := hle t
                      refine lv_aload_n hx hb dL_hangs_430 rfl (lv_at hl 0 rfl) ?_
                      refine lv_iload hx hb dL_hangs_431 (lv_at hl 3 rfl) ?_
                      refine lv_iconst (v := nI 0) hx hb dL_hangs_433 (by decide) ?_
                      refine rg_civd (As := [.int (nI i_420), .int (nI 0)]) (rest := []) X hl.1 h (c_X7_oldest l J z ad G r hR (nI i_420) (nI 0)) mw_208 mw_209 mw_210 mw_2 mw_211 pdX7_oldest (by decide) (xo_0 J ad _) rfl rfl ⟨Nat.le_of_ble_eq_true rfl, Nat.le_of_ble_eq_true rfl⟩ ⟨Nat.le_of_ble_eq_true rfl, Nat.le_of_ble_eq_true rfl⟩ rfl (Nat.le_of_ble_eq_true rfl) dL_hangs_434 (fun H locs h => ?_)
                      refine lv_as (y := nI ((cnt (LW r) t))) (ol_s w2 (by omega) (by omega) eo) ?_
                      refine lv_istore (lv' := [(5, .int (nI ((cnt (LW r) t)))), (0, .ref (ad 0)), (1, .int (nI ((cnt (fun k => r (3 * k + 192) = nI 0) 140)))), (3, .int (nI ((cnt (fun k => ¬ alw r (k / 20) (k % 20)) 120)))), (4, .int (nI i_420))]) hx hb dL_hangs_437 hl (by decide) rfl (fun ls hl => ?_)
                      refine lv_iload hx hb dL_hangs_439 (lv_at hl 0 rfl) ?_
                      refine lv_bipush (v := (-5)) hx hb dL_hangs_441 (by decide) ?_
                      refine lv_icmp_ne (tgt := 466) hx hb dL_hangs_443 (by decide) (fun c_443 => ?_) (fun c_443 => absurd c_443 (nI_n5 (by omega)))
                      refine lv_aload_n hx hb dL_hangs_466 rfl (lv_at hl 1 rfl) ?_
                      refine lv_iload hx hb dL_hangs_467 (lv_at hl 4 rfl) ?_
                      refine lv_iconst (v := nI 1) hx hb dL_hangs_469 (by decide) ?_
                      refine rg_civd (As := [.int (nI i_420), .int (nI 1)]) (rest := []) X hl.1 h (c_X7_oldest l J z ad G r hR (nI i_420) (nI 1)) mw_208 mw_209 mw_210 mw_2 mw_211 pdX7_oldest (by decide) (xo_0 J ad _) rfl rfl ⟨Nat.le_of_ble_eq_true rfl, Nat.le_of_ble_eq_true rfl⟩ ⟨Nat.le_of_ble_eq_true rfl, Nat.le_of_ble_eq_true rfl⟩ rfl (Nat.le_of_ble_eq_true rfl) dL_hangs_470 (fun H locs h => ?_)
                      refine lv_as (y := r (3 * t + 194)) (ol_s w2 (by omega) (by omega) eo) ?_
                      refine lv_aload_n hx hb dL_hangs_473 rfl (lv_at hl 1 rfl) ?_
                      refine lv_iload hx hb dL_hangs_474 (lv_at hl 0 rfl) ?_
                      refine lv_iconst (v := nI 4) hx hb dL_hangs_476 (by decide) ?_
                      refine rg_civd (As := [.int (nI ((cnt (LW r) t))), .int (nI 4)]) (rest := [.int (r (3 * t + 194))]) X hl.1 h (c_X7_bylaw l J z ad G r hR (nI ((cnt (LW r) t))) (nI 4)) mw_157 mw_158 mw_159 mw_2 mw_160 pdX7_bylaw (by decide) (xo_0 J ad _) rfl rfl ⟨Nat.le_of_ble_eq_true rfl, Nat.le_of_ble_eq_true rfl⟩ ⟨Nat.le_of_ble_eq_true rfl, Nat.le_of_ble_eq_true rfl⟩ rfl (Nat.le_of_ble_eq_true rfl) dL_hangs_477 (fun H locs h => ?_)
                      refine lv_as (y := r (3 * t + 194)) ((by_at t1 t2 rfl (by omega)).trans byB_4) ?_
                      refine lv_icmp_ne (tgt := 516) hx hb dL_hangs_480 (by decide) (fun c_480 => absurd (rfl) c_480) (fun c_480 => ?_)
                      refine lv_aload_n hx hb dL_hangs_483 rfl (lv_at hl 1 rfl) ?_
                      refine lv_aload_n hx hb dL_hangs_484 rfl (lv_at hl 1 rfl) ?_
                      refine lv_iload hx hb dL_hangs_485 (lv_at hl 4 rfl) ?_
                      refine lv_iconst (v := nI 0) hx hb dL_hangs_487 (by decide) ?_
                      refine rg_civd (As := [.int (nI i_420), .int (nI 0)]) (rest := [.ref (ad 0)]) X hl.1 h (c_X7_drone l J z ad G r hR (nI i_420) (nI 0)) mw_176 mw_177 mw_178 mw_2 mw_179 pdX7_drone (by decide) (xo_0 J ad _) rfl rfl ⟨Nat.le_of_ble_eq_true rfl, Nat.le_of_ble_eq_true rfl⟩ ⟨Nat.le_of_ble_eq_true rfl, Nat.le_of_ble_eq_true rfl⟩ rfl (Nat.le_of_ble_eq_true rfl) dL_hangs_488 (fun H locs h => ?_)
                      refine lv_as (y := nI ((dc r i_420))) (((dr_lo w2 (by omega) (by omega)).trans (congrArg r (by omega))).trans v_0) ?_
                      refine lv_aload_n hx hb dL_hangs_491 rfl (lv_at hl 1 rfl) ?_
                      refine lv_iload hx hb dL_hangs_492 (lv_at hl 0 rfl) ?_
                      refine lv_iconst (v := nI 1) hx hb dL_hangs_494 (by decide) ?_
                      refine rg_civd (As := [.int (nI ((cnt (LW r) t))), .int (nI 1)]) (rest := [.int (nI ((dc r i_420))), .ref (ad 0)]) X hl.1 h (c_X7_bylaw l J z ad G r hR (nI ((cnt (LW r) t))) (nI 1)) mw_157 mw_158 mw_159 mw_2 mw_160 pdX7_bylaw (by decide) (xo_0 J ad _) rfl rfl ⟨Nat.le_of_ble_eq_true rfl, Nat.le_of_ble_eq_true rfl⟩ ⟨Nat.le_of_ble_eq_true rfl, Nat.le_of_ble_eq_true rfl⟩ rfl (Nat.le_of_ble_eq_true rfl) dL_hangs_495 (fun H locs h => ?_)
                      refine lv_as (y := nI ((t % 20))) ((by_at t1 t2 rfl (by omega)).trans byB_1) ?_
                      refine lv_iconst (v := nI 1) hx hb dL_hangs_498 (by decide) ?_
                      refine rg_civd (As := [.int (nI ((dc r i_420))), .int (nI ((t % 20))), .int (nI 1)]) (rest := []) X hl.1 h (c_X7_rule l J z ad G r hR (nI ((dc r i_420))) (nI ((t % 20))) (nI 1)) mw_195 mw_196 mw_197 mw_2 mw_198 pdX7_rule (by decide) (xo_0 J ad _) rfl rfl ⟨Nat.le_of_ble_eq_true rfl, Nat.le_of_ble_eq_true rfl⟩ ⟨Nat.le_of_ble_eq_true rfl, Nat.le_of_ble_eq_true rfl⟩ rfl (Nat.le_of_ble_eq_true rfl) dL_hangs_499 (fun H locs h => ?_)
                      refine lv_as (y := nI ((t / 20))) ((ru_1 v_1 (show t % 20 < 20 by omega)).trans (rul_of hru)) ?_
                      refine lv_aload_n hx hb dL_hangs_502 rfl (lv_at hl 1 rfl) ?_
                      refine lv_iload hx hb dL_hangs_503 (lv_at hl 0 rfl) ?_
                      refine lv_iconst (v := nI 0) hx hb dL_hangs_505 (by decide) ?_
                      refine rg_civd (As := [.int (nI ((cnt (LW r) t))), .int (nI 0)]) (rest := [.int (nI ((t / 20)))]) X hl.1 h (c_X7_bylaw l J z ad G r hR (nI ((cnt (LW r) t))) (nI 0)) mw_157 mw_158 mw_159 mw_2 mw_160 pdX7_bylaw (by decide) (xo_0 J ad _) rfl rfl ⟨Nat.le_of_ble_eq_true rfl, Nat.le_of_ble_eq_true rfl⟩ ⟨Nat.le_of_ble_eq_true rfl, Nat.le_of_ble_eq_true rfl⟩ rfl (Nat.le_of_ble_eq_true rfl) dL_hangs_506 (fun H locs h => ?_)
                      refine lv_as (y := nI ((t / 20))) ((by_at t1 t2 rfl (by omega)).trans byB_0) ?_
                      refine lv_icmp_ne (tgt := 516) hx hb dL_hangs_509 (by decide) (fun c_509 => absurd (rfl) c_509) (fun c_509 => ?_)
                      refine lv_iconst (v := nI 1) hx hb dL_hangs_512 (by decide) ?_
                      refine lv_goto (tgt := 517) hx hb dL_hangs_513 (by decide) ?_
                      refine lv_istore (lv' := [(6, .int (nI 1)), (5, .int (nI ((cnt (LW r) t)))), (0, .ref (ad 0)), (1, .int (nI ((cnt (fun k => r (3 * k + 192) = nI 0) 140)))), (3, .int (nI ((cnt (fun k => ¬ alw r (k / 20) (k % 20)) 120)))), (4, .int (nI i_420))]) hx hb dL_hangs_517 hl (by decide) rfl (fun ls hl => ?_)
                      refine lv_iload hx hb dL_hangs_519 (lv_at hl 0 rfl) ?_
                      refine lv_if_ne (tgt := 526) hx hb dL_hangs_521 (by decide) (fun c_521 => ?_) (fun c_521 => absurd c_521 (by decide))
                      refine lv_iinc (v := nI (i_420 + 1)) (lv' := [(4, .int (nI (i_420 + 1))), (6, .int (nI 1)), (5, .int (nI ((cnt (LW r) t)))), (0, .ref (ad 0)), (1, .int (nI ((cnt (fun k => r (3 * k + 192) = nI 0) 140)))), (3, .int (nI ((cnt (fun k => ¬ alw r (k / 20) (k % 20)) 120))))]) hx hb dL_hangs_526 hl (k := 5) rfl (nI_addc (b := 1) (by omega)) (by decide) rfl (fun ls hl => ?_)
                      refine lv_goto (tgt := 420) hx hb dL_hangs_529 (by decide) ?_
                      exact ih_420 (i_420 + 1) (by omega) (by omega) _ _ _ h (lv_sub hl [3, 4, 5, 0] rfl)
              exact LP_420 ((kn r) + 1) 0 (by omega) (by omega) _ _ _ h (lv_sub hl [1, 2, 3, 0] rfl)
            · rw [nI_leI (by omega) (by omega)] at c_124
              refine lv_iconst (v := (-1)) hx hb dL_hangs_127 (by decide) ?_
              refine lv_istore (lv' := [(5, .int ((-1))), (0, .ref (ad 0)), (1, .int (nI ((cnt (fun k => r (3 * k + 192) = nI 0) 140)))), (3, .int (nI ((cnt (fun k => ¬ alw r (k / 20) (k % 20)) i_120)))), (4, .int (nI i_120))]) hx hb dL_hangs_128 hl (by decide) rfl (fun ls hl => ?_)
              refine lv_iconst (v := (-1)) hx hb dL_hangs_130 (by decide) ?_
              refine lv_istore (lv' := [(6, .int ((-1))), (5, .int ((-1))), (0, .ref (ad 0)), (1, .int (nI ((cnt (fun k => r (3 * k + 192) = nI 0) 140)))), (3, .int (nI ((cnt (fun k => ¬ alw r (k / 20) (k % 20)) i_120)))), (4, .int (nI i_120))]) hx hb dL_hangs_131 hl (by decide) rfl (fun ls hl => ?_)
              refine lv_iconst (v := nI 0) hx hb dL_hangs_133 (by decide) ?_
              refine lv_istore (lv' := [(7, .int (nI 0)), (6, .int ((-1))), (5, .int ((-1))), (0, .ref (ad 0)), (1, .int (nI ((cnt (fun k => r (3 * k + 192) = nI 0) 140)))), (3, .int (nI ((cnt (fun k => ¬ alw r (k / 20) (k % 20)) i_120)))), (4, .int (nI i_120))]) hx hb dL_hangs_134 hl (by decide) rfl (fun ls hl => ?_)
              have hl : lv_has ls 9 [(7, .int (nI 0)), (6, .int (fW r (120 + i_120 % 20) 0)), (5, .int (fW r i_120 0)), (0, .ref (ad 0)), (1, .int (nI ((cnt (fun k => r (3 * k + 192) = nI 0) 140)))), (3, .int (nI ((cnt (fun k => ¬ alw r (k / 20) (k % 20)) i_120)))), (4, .int (nI i_120))] := by
                rw [fW_0, fW_0]
                exact hl
              have LP_136 : ∀ (k_136 i_136 : Nat), (cnt (LW r) 140) + 1 ≤ i_136 + k_136 → i_136 ≤ (cnt (LW r) 140) → ∀ (H : Heap) (locs : List Loc) (ls : Array Slot), HG J z ad s G H locs → lv_has ls 9 [(0, .ref (ad 0)), (1, .int (nI ((cnt (fun k => r (3 * k + 192) = nI 0) 140)))), (3, .int (nI ((cnt (fun k => ¬ alw r (k / 20) (k % 20)) i_120)))), (4, .int (nI i_120)), (5, .int (fW r i_120 i_136)), (6, .int (fW r (120 + i_120 % 20) i_136)), (7, .int (nI i_136))] → W pr l e (rmD 6 0 0) s m args below meth c H locs 0 0 Q (F0 m 136 ls []) := by
                intro k_136
                induction k_136 with
                | zero =>
                  intro i_136 g1 g2
                  exact absurd g1 (by omega)
                | succ k_136 ih_136 =>
                  intro i_136 g1_136 g2_136  H locs ls h hl
                  refine lv_iload hx hb dL_hangs_136 (lv_at hl 6 rfl) ?_
                  refine lv_aload_n hx hb dL_hangs_138 rfl (lv_at hl 0 rfl) ?_
                  refine lv_iconst (v := nI 4) hx hb dL_hangs_139 (by decide) ?_
                  refine rg_civd (As := [.int (nI 4)]) (rest := [.int (nI i_136)]) X hl.1 h (c_X7_count l J z ad G r hR (nI n) (G 203 1) h14 rfl (nI 4)) mw_103 mw_104 mw_105 mw_2 mw_106 pdX7_count (by decide) (xo_0 J ad _) rfl rfl ⟨Nat.le_of_ble_eq_true rfl, Nat.le_of_ble_eq_true rfl⟩ ⟨Nat.le_of_ble_eq_true rfl, Nat.le_of_ble_eq_true rfl⟩ rfl (Nat.le_of_ble_eq_true rfl) dL_hangs_140 (fun H locs h => ?_)
                  refine lv_as (y := nI ((cnt (LW r) 140))) (ct_at (by omega)) ?_
                  refine lv_icmp_ge (tgt := 229) hx hb dL_hangs_143 (by decide) (fun c_143 => ?_) (fun c_143 => ?_)
                  · rw [nI_leI (by omega) (by omega)] at c_143
                    have ex_136 : i_136 = cnt (LW r) 140 := by omega
                    rw [ex_136] at hl
                    have hlb := hle i_120
                    have hlh := hle (120 + i_120 % 20)
                    have hnb := hcn i_120
                    rcases Classical.em (LW r i_120) with u1 | u1 <;> rcases Classical.em (LW r (120 + i_120 % 20)) with u2 | u2
                    · rw [fW_y (show i_120 < 140 by omega) u1, fW_y (show (120 + i_120 % 20) < 140 by omega) u2] at hl
                      refine lv_iload hx hb dL_hangs_229 (lv_at hl 5 rfl) ?_
                      refine lv_if_lt (tgt := 260) hx hb dL_hangs_231 (by decide) (fun c_231 => absurd c_231 (nI_nn (by omega))) (fun c_231 => ?_)
                      refine lv_iload hx hb dL_hangs_234 (lv_at hl 4 rfl) ?_
                      refine lv_if_lt (tgt := 256) hx hb dL_hangs_236 (by decide) (fun c_236 => absurd c_236 (nI_nn (by omega))) (fun c_236 => ?_)
                      refine lv_aload_n hx hb dL_hangs_239 rfl (lv_at hl 0 rfl) ?_
                      refine lv_iload hx hb dL_hangs_240 (lv_at hl 5 rfl) ?_
                      refine lv_iconst (v := nI 3) hx hb dL_hangs_242 (by decide) ?_
                      refine rg_civd (As := [.int (nI ((cnt (LW r) (120 + i_120 % 20)))), .int (nI 3)]) (rest := []) X hl.1 h (c_X7_bylaw l J z ad G r hR (nI ((cnt (LW r) (120 + i_120 % 20)))) (nI 3)) mw_157 mw_158 mw_159 mw_2 mw_160 pdX7_bylaw (by decide) (xo_0 J ad _) rfl rfl ⟨Nat.le_of_ble_eq_true rfl, Nat.le_of_ble_eq_true rfl⟩ ⟨Nat.le_of_ble_eq_true rfl, Nat.le_of_ble_eq_true rfl⟩ rfl (Nat.le_of_ble_eq_true rfl) dL_hangs_243 (fun H locs h => ?_)
                      refine lv_as (y := r (3 * (120 + i_120 % 20) + 193)) ((by_at (show (120 + i_120 % 20) < 140 by omega) u2 rfl (by omega)).trans byB_3) ?_
                      refine lv_aload_n hx hb dL_hangs_246 rfl (lv_at hl 0 rfl) ?_
                      refine lv_iload hx hb dL_hangs_247 (lv_at hl 4 rfl) ?_
                      refine lv_iconst (v := nI 3) hx hb dL_hangs_249 (by decide) ?_
                      refine rg_civd (As := [.int (nI ((cnt (LW r) i_120))), .int (nI 3)]) (rest := [.int (r (3 * (120 + i_120 % 20) + 193))]) X hl.1 h (c_X7_bylaw l J z ad G r hR (nI ((cnt (LW r) i_120))) (nI 3)) mw_157 mw_158 mw_159 mw_2 mw_160 pdX7_bylaw (by decide) (xo_0 J ad _) rfl rfl ⟨Nat.le_of_ble_eq_true rfl, Nat.le_of_ble_eq_true rfl⟩ ⟨Nat.le_of_ble_eq_true rfl, Nat.le_of_ble_eq_true rfl⟩ rfl (Nat.le_of_ble_eq_true rfl) dL_hangs_250 (fun H locs h => ?_)
                      refine lv_as (y := r (3 * i_120 + 193)) ((by_at (show i_120 < 140 by omega) u1 rfl (by omega)).trans byB_3) ?_
                      refine lv_icmp_le (tgt := 260) hx hb dL_hangs_253 (by decide) (fun c_253 => ?_) (fun c_253 => ?_)
                      · refine lv_iconst (v := nI 0) hx hb dL_hangs_260 (by decide) ?_
                        refine lv_istore (lv' := [(7, .int (nI 0)), (0, .ref (ad 0)), (1, .int (nI ((cnt (fun k => r (3 * k + 192) = nI 0) 140)))), (3, .int (nI ((cnt (fun k => ¬ alw r (k / 20) (k % 20)) i_120)))), (4, .int (nI i_120)), (5, .int (nI ((cnt (LW r) i_120)))), (6, .int (nI ((cnt (LW r) (120 + i_120 % 20)))))]) hx hb dL_hangs_261 hl (by decide) rfl (fun ls hl => ?_)
                        refine lv_iload hx hb dL_hangs_263 (lv_at hl 0 rfl) ?_
                        refine lv_if_eq (tgt := 273) hx hb dL_hangs_265 (by decide) (fun c_265 => ?_) (fun c_265 => absurd (by decide) c_265)
                        refine lv_iload hx hb dL_hangs_273 (lv_at hl 5 rfl) ?_
                        refine lv_istore (lv' := [(8, .int (nI ((cnt (LW r) i_120)))), (7, .int (nI 0)), (0, .ref (ad 0)), (1, .int (nI ((cnt (fun k => r (3 * k + 192) = nI 0) 140)))), (3, .int (nI ((cnt (fun k => ¬ alw r (k / 20) (k % 20)) i_120)))), (4, .int (nI i_120)), (5, .int (nI ((cnt (LW r) i_120)))), (6, .int (nI ((cnt (LW r) (120 + i_120 % 20)))))]) hx hb dL_hangs_275 hl (by decide) rfl (fun ls hl => ?_)
                        have hru := ru_y1 u1 u2 c_253
                        have has := alw_s hru
                        rw [show 60 * (i_120 / 20) + 3 * (i_120 % 20) + 192 = 3 * i_120 + 192 by omega] at has
                        obtain ⟨hs, -⟩ := lw_st hR (show i_120 < 140 by omega) u1
                        rcases hs with hs | hs
                        · have ha : ¬ alw r (i_120 / 20) (i_120 % 20) := fun q => absurd (hs.symm.trans (has.mp q)) (by decide)
                          refine lv_iload_n hx hb dL_hangs_277 rfl (lv_at hl 4 rfl) ?_
                          refine lv_iconst (v := nI 1) hx hb dL_hangs_278 (by decide) ?_
                          refine lv_aload_n hx hb dL_hangs_279 rfl (lv_at hl 2 rfl) ?_
                          refine lv_iload hx hb dL_hangs_280 (lv_at hl 5 rfl) ?_
                          refine lv_bipush (v := nI 20) hx hb dL_hangs_282 (by decide) ?_
                          refine lv_idiv hx hb dL_hangs_284 (by decide) ?_
                          refine lv_as (y := nI ((i_120 / 20))) (pk_div (by omega) (by omega) (by omega)) ?_
                          refine lv_iload hx hb dL_hangs_285 (lv_at hl 5 rfl) ?_
                          refine lv_bipush (v := nI 20) hx hb dL_hangs_287 (by decide) ?_
                          refine lv_irem hx hb dL_hangs_289 (by decide) ?_
                          refine lv_as (y := nI ((i_120 % 20))) (pk_rem (by omega) (by omega) (by omega)) ?_
                          refine lv_iconst (v := nI 0) hx hb dL_hangs_290 (by decide) ?_
                          refine rg_civd (As := [.int (nI ((i_120 / 20))), .int (nI ((i_120 % 20))), .int (nI 0)]) (rest := [.int (nI 1), .int (nI ((cnt (fun k => ¬ alw r (k / 20) (k % 20)) i_120)))]) X hl.1 h (c_X7_rule l J z ad G r hR (nI ((i_120 / 20))) (nI ((i_120 % 20))) (nI 0)) mw_195 mw_196 mw_197 mw_2 mw_198 pdX7_rule (by decide) (xo_0 J ad _) rfl rfl ⟨Nat.le_of_ble_eq_true rfl, Nat.le_of_ble_eq_true rfl⟩ ⟨Nat.le_of_ble_eq_true rfl, Nat.le_of_ble_eq_true rfl⟩ rfl (Nat.le_of_ble_eq_true rfl) dL_hangs_291 (fun H locs h => ?_)
                          refine lv_as (y := nI 0) ((ru_0 (show i_120 / 20 < 6 by omega) (show i_120 % 20 < 20 by omega)).trans (b2_f ha)) ?_
                          refine lv_isub hx hb dL_hangs_294 ?_
                          refine lv_as (y := nI 1) (nI_subc (by omega)) ?_
                          refine lv_iadd hx hb dL_hangs_295 ?_
                          refine lv_as (y := nI ((cnt (fun k => ¬ alw r (k / 20) (k % 20)) i_120) + 1)) (nI_addc (by omega)) ?_
                          refine lv_as (y := nI ((cnt (fun k => ¬ alw r (k / 20) (k % 20)) (i_120 + 1)))) (congrArg nI (by rw [cnt_t (P := (fun k => ¬ alw r (k / 20) (k % 20))) ha])) ?_
                          refine lv_istore_n (lv' := [(3, .int (nI ((cnt (fun k => ¬ alw r (k / 20) (k % 20)) (i_120 + 1))))), (8, .int (nI ((cnt (LW r) i_120)))), (7, .int (nI 0)), (0, .ref (ad 0)), (1, .int (nI ((cnt (fun k => r (3 * k + 192) = nI 0) 140)))), (4, .int (nI i_120)), (5, .int (nI ((cnt (LW r) i_120)))), (6, .int (nI ((cnt (LW r) (120 + i_120 % 20)))))]) hx hb dL_hangs_296 rfl hl (by decide) rfl (fun ls hl => ?_)
                          refine lv_aload_n hx hb dL_hangs_297 rfl (lv_at hl 3 rfl) ?_
                          refine lv_iload hx hb dL_hangs_298 (lv_at hl 5 rfl) ?_
                          refine lv_bipush (v := nI 20) hx hb dL_hangs_300 (by decide) ?_
                          refine lv_idiv hx hb dL_hangs_302 (by decide) ?_
                          refine lv_as (y := nI ((i_120 / 20))) (pk_div (by omega) (by omega) (by omega)) ?_
                          refine lv_iload hx hb dL_hangs_303 (lv_at hl 5 rfl) ?_
                          refine lv_bipush (v := nI 20) hx hb dL_hangs_305 (by decide) ?_
                          refine lv_irem hx hb dL_hangs_307 (by decide) ?_
                          refine lv_as (y := nI ((i_120 % 20))) (pk_rem (by omega) (by omega) (by omega)) ?_
                          refine lv_iconst (v := nI 0) hx hb dL_hangs_308 (by decide) ?_
                          refine rg_civd (As := [.int (nI ((i_120 / 20))), .int (nI ((i_120 % 20))), .int (nI 0)]) (rest := []) X hl.1 h (c_X7_rule l J z ad G r hR (nI ((i_120 / 20))) (nI ((i_120 % 20))) (nI 0)) mw_195 mw_196 mw_197 mw_2 mw_198 pdX7_rule (by decide) (xo_0 J ad _) rfl rfl ⟨Nat.le_of_ble_eq_true rfl, Nat.le_of_ble_eq_true rfl⟩ ⟨Nat.le_of_ble_eq_true rfl, Nat.le_of_ble_eq_true rfl⟩ rfl (Nat.le_of_ble_eq_true rfl) dL_hangs_309 (fun H locs h => ?_)
                          refine lv_as (y := nI 0) ((ru_0 (show i_120 / 20 < 6 by omega) (show i_120 % 20 < 20 by omega)).trans (b2_f ha)) ?_
                          refine lv_iload hx hb dL_hangs_312 (lv_at hl 1 rfl) ?_
                          refine lv_if_ge (tgt := 321) hx hb dL_hangs_314 (by decide) (fun c_314 => ?_) (fun c_314 => absurd (nI_pos' (by omega)) c_314)
                          refine lv_aload_n hx hb dL_hangs_321 rfl (lv_at hl 3 rfl) ?_
                          refine lv_iload hx hb dL_hangs_322 (lv_at hl 1 rfl) ?_
                          refine lv_iconst (v := nI 2) hx hb dL_hangs_324 (by decide) ?_
                          refine rg_civd (As := [.int (nI ((cnt (LW r) i_120))), .int (nI 2)]) (rest := [.int (nI 0)]) X hl.1 h (c_X7_bylaw l J z ad G r hR (nI ((cnt (LW r) i_120))) (nI 2)) mw_157 mw_158 mw_159 mw_2 mw_160 pdX7_bylaw (by decide) (xo_0 J ad _) rfl rfl ⟨Nat.le_of_ble_eq_true rfl, Nat.le_of_ble_eq_true rfl⟩ ⟨Nat.le_of_ble_eq_true rfl, Nat.le_of_ble_eq_true rfl⟩ rfl (Nat.le_of_ble_eq_true rfl) dL_hangs_325 (fun H locs h => ?_)
                          refine lv_as (y := nI 0) ((by_at (show i_120 < 140 by omega) u1 rfl (by omega)).trans (byB_2.trans hs)) ?_
                          refine lv_icmp_ne (tgt := 409) hx hb dL_hangs_328 (by decide) (fun c_328 => absurd (by decide) c_328) (fun c_328 => ?_)
                          refine lv_aload_n hx hb dL_hangs_331 rfl (lv_at hl 3 rfl) ?_
                          refine lv_iload hx hb dL_hangs_332 (lv_at hl 5 rfl) ?_
                          refine lv_bipush (v := nI 20) hx hb dL_hangs_334 (by decide) ?_
                          refine lv_idiv hx hb dL_hangs_336 (by decide) ?_
                          refine lv_as (y := nI ((i_120 / 20))) (pk_div (by omega) (by omega) (by omega)) ?_
                          refine lv_iload hx hb dL_hangs_337 (lv_at hl 5 rfl) ?_
                          refine lv_bipush (v := nI 20) hx hb dL_hangs_339 (by decide) ?_
                          refine lv_irem hx hb dL_hangs_341 (by decide) ?_
                          refine lv_as (y := nI ((i_120 % 20))) (pk_rem (by omega) (by omega) (by omega)) ?_
                          refine lv_iconst (v := nI 1) hx hb dL_hangs_342 (by decide) ?_
                          refine rg_civd (As := [.int (nI ((i_120 / 20))), .int (nI ((i_120 % 20))), .int (nI 1)]) (rest := []) X hl.1 h (c_X7_rule l J z ad G r hR (nI ((i_120 / 20))) (nI ((i_120 % 20))) (nI 1)) mw_195 mw_196 mw_197 mw_2 mw_198 pdX7_rule (by decide) (xo_0 J ad _) rfl rfl ⟨Nat.le_of_ble_eq_true rfl, Nat.le_of_ble_eq_true rfl⟩ ⟨Nat.le_of_ble_eq_true rfl, Nat.le_of_ble_eq_true rfl⟩ rfl (Nat.le_of_ble_eq_true rfl) dL_hangs_343 (fun H locs h => ?_)
                          refine lv_as (y := nI ((i_120 / 20))) ((ru_1 (show i_120 / 20 < 6 by omega) (show i_120 % 20 < 20 by omega)).trans (rul_of hru)) ?_
                          refine lv_iload hx hb dL_hangs_346 (lv_at hl 1 rfl) ?_
                          refine lv_if_ge (tgt := 356) hx hb dL_hangs_348 (by decide) (fun c_348 => ?_) (fun c_348 => absurd (nI_pos' (by omega)) c_348)
                          refine lv_iload hx hb dL_hangs_356 (lv_at hl 2 rfl) ?_
                          refine lv_if_eq (tgt := 366) hx hb dL_hangs_358 (by decide) (fun c_358 => ?_) (fun c_358 => absurd (by decide) c_358)
                          refine lv_iload hx hb dL_hangs_366 (lv_at hl 5 rfl) ?_
                          refine lv_bipush (v := nI 20) hx hb dL_hangs_368 (by decide) ?_
                          refine lv_idiv hx hb dL_hangs_370 (by decide) ?_
                          refine lv_as (y := nI ((i_120 / 20))) (pk_div (by omega) (by omega) (by omega)) ?_
                          refine lv_icmp_ne (tgt := 409) hx hb dL_hangs_371 (by decide) (fun c_371 => absurd (rfl) c_371) (fun c_371 => ?_)
                          refine lv_aload_n hx hb dL_hangs_374 rfl (lv_at hl 3 rfl) ?_
                          refine lv_iload hx hb dL_hangs_375 (lv_at hl 5 rfl) ?_
                          refine lv_bipush (v := nI 20) hx hb dL_hangs_377 (by decide) ?_
                          refine lv_idiv hx hb dL_hangs_379 (by decide) ?_
                          refine lv_as (y := nI ((i_120 / 20))) (pk_div (by omega) (by omega) (by omega)) ?_
                          refine lv_iload hx hb dL_hangs_380 (lv_at hl 5 rfl) ?_
                          refine lv_bipush (v := nI 20) hx hb dL_hangs_382 (by decide) ?_
                          refine lv_irem hx hb dL_hangs_384 (by decide) ?_
                          refine lv_as (y := nI ((i_120 % 20))) (pk_rem (by omega) (by omega) (by omega)) ?_
                          refine lv_iconst (v := nI 2) hx hb dL_hangs_385 (by decide) ?_
                          refine rg_civd (As := [.int (nI ((i_120 / 20))), .int (nI ((i_120 % 20))), .int (nI 2)]) (rest := []) X hl.1 h (c_X7_rule l J z ad G r hR (nI ((i_120 / 20))) (nI ((i_120 % 20))) (nI 2)) mw_195 mw_196 mw_197 mw_2 mw_198 pdX7_rule (by decide) (xo_0 J ad _) rfl rfl ⟨Nat.le_of_ble_eq_true rfl, Nat.le_of_ble_eq_true rfl⟩ ⟨Nat.le_of_ble_eq_true rfl, Nat.le_of_ble_eq_true rfl⟩ rfl (Nat.le_of_ble_eq_true rfl) dL_hangs_386 (fun H locs h => ?_)
                          refine lv_as (y := r (3 * i_120 + 193)) ((ru_2s (show i_120 / 20 < 6 by omega) (show i_120 % 20 < 20 by omega) hru).trans (congrArg r (by omega))) ?_
                          refine lv_iload hx hb dL_hangs_389 (lv_at hl 1 rfl) ?_
                          refine lv_if_ge (tgt := 399) hx hb dL_hangs_391 (by decide) (fun c_391 => ?_) (fun c_391 => absurd (nI_pos' (by omega)) c_391)
                          refine lv_aload_n hx hb dL_hangs_399 rfl (lv_at hl 3 rfl) ?_
                          refine lv_iload hx hb dL_hangs_400 (lv_at hl 1 rfl) ?_
                          refine lv_iconst (v := nI 3) hx hb dL_hangs_402 (by decide) ?_
                          refine rg_civd (As := [.int (nI ((cnt (LW r) i_120))), .int (nI 3)]) (rest := [.int (r (3 * i_120 + 193))]) X hl.1 h (c_X7_bylaw l J z ad G r hR (nI ((cnt (LW r) i_120))) (nI 3)) mw_157 mw_158 mw_159 mw_2 mw_160 pdX7_bylaw (by decide) (xo_0 J ad _) rfl rfl ⟨Nat.le_of_ble_eq_true rfl, Nat.le_of_ble_eq_true rfl⟩ ⟨Nat.le_of_ble_eq_true rfl, Nat.le_of_ble_eq_true rfl⟩ rfl (Nat.le_of_ble_eq_true rfl) dL_hangs_403 (fun H locs h => ?_)
                          refine lv_as (y := r (3 * i_120 + 193)) ((by_at (show i_120 < 140 by omega) u1 rfl (by omega)).trans byB_3) ?_
                          refine lv_icmp_eq (tgt := 411) hx hb dL_hangs_406 (by decide) (fun c_406 => ?_) (fun c_406 => absurd (rfl) c_406)
                          refine lv_iinc (v := nI (i_120 + 1)) (lv' := [(4, .int (nI (i_120 + 1))), (3, .int (nI ((cnt (fun k => ¬ alw r (k / 20) (k % 20)) (i_120 + 1))))), (8, .int (nI ((cnt (LW r) i_120)))), (7, .int (nI 0)), (0, .ref (ad 0)), (1, .int (nI ((cnt (fun k => r (3 * k + 192) = nI 0) 140)))), (5, .int (nI ((cnt (LW r) i_120)))), (6, .int (nI ((cnt (LW r) (120 + i_120 % 20)))))]) hx hb dL_hangs_411 hl (k := 5) rfl (nI_addc (b := 1) (by omega)) (by decide) rfl (fun ls hl => ?_)
                          refine lv_goto (tgt := 120) hx hb dL_hangs_414 (by decide) ?_
                          exact ih_120 (i_120 + 1) (by omega) (by omega) _ _ _ h (lv_sub hl [4, 5, 1, 0] rfl)
                        · have ha : alw r (i_120 / 20) (i_120 % 20) := has.mpr hs
                          refine lv_iload_n hx hb dL_hangs_277 rfl (lv_at hl 4 rfl) ?_
                          refine lv_iconst (v := nI 1) hx hb dL_hangs_278 (by decide) ?_
                          refine lv_aload_n hx hb dL_hangs_279 rfl (lv_at hl 2 rfl) ?_
                          refine lv_iload hx hb dL_hangs_280 (lv_at hl 5 rfl) ?_
                          refine lv_bipush (v := nI 20) hx hb dL_hangs_282 (by decide) ?_
                          refine lv_idiv hx hb dL_hangs_284 (by decide) ?_
                          refine lv_as (y := nI ((i_120 / 20))) (pk_div (by omega) (by omega) (by omega)) ?_
                          refine lv_iload hx hb dL_hangs_285 (lv_at hl 5 rfl) ?_
                          refine lv_bipush (v := nI 20) hx hb dL_hangs_287 (by decide) ?_
                          refine lv_irem hx hb dL_hangs_289 (by decide) ?_
                          refine lv_as (y := nI ((i_120 % 20))) (pk_rem (by omega) (by omega) (by omega)) ?_
                          refine lv_iconst (v := nI 0) hx hb dL_hangs_290 (by decide) ?_
                          refine rg_civd (As := [.int (nI ((i_120 / 20))), .int (nI ((i_120 % 20))), .int (nI 0)]) (rest := [.int (nI 1), .int (nI ((cnt (fun k => ¬ alw r (k / 20) (k % 20)) i_120)))]) X hl.1 h (c_X7_rule l J z ad G r hR (nI ((i_120 / 20))) (nI ((i_120 % 20))) (nI 0)) mw_195 mw_196 mw_197 mw_2 mw_198 pdX7_rule (by decide) (xo_0 J ad _) rfl rfl ⟨Nat.le_of_ble_eq_true rfl, Nat.le_of_ble_eq_true rfl⟩ ⟨Nat.le_of_ble_eq_true rfl, Nat.le_of_ble_eq_true rfl⟩ rfl (Nat.le_of_ble_eq_true rfl) dL_hangs_291 (fun H locs h => ?_)
                          refine lv_as (y := nI 1) ((ru_0 (show i_120 / 20 < 6 by omega) (show i_120 % 20 < 20 by omega)).trans (b2_t ha)) ?_
                          refine lv_isub hx hb dL_hangs_294 ?_
                          refine lv_as (y := nI 0) (nI_subc (by omega)) ?_
                          refine lv_iadd hx hb dL_hangs_295 ?_
                          refine lv_as (y := nI ((cnt (fun k => ¬ alw r (k / 20) (k % 20)) i_120))) (nI_addc (by omega)) ?_
                          refine lv_as (y := nI ((cnt (fun k => ¬ alw r (k / 20) (k % 20)) (i_120 + 1)))) (congrArg nI (by rw [cnt_f (P := (fun k => ¬ alw r (k / 20) (k % 20))) (fun q => q ha)])) ?_
                          refine lv_istore_n (lv' := [(3, .int (nI ((cnt (fun k => ¬ alw r (k / 20) (k % 20)) (i_120 + 1))))), (8, .int (nI ((cnt (LW r) i_120)))), (7, .int (nI 0)), (0, .ref (ad 0)), (1, .int (nI ((cnt (fun k => r (3 * k + 192) = nI 0) 140)))), (4, .int (nI i_120)), (5, .int (nI ((cnt (LW r) i_120)))), (6, .int (nI ((cnt (LW r) (120 + i_120 % 20)))))]) hx hb dL_hangs_296 rfl hl (by decide) rfl (fun ls hl => ?_)
                          refine lv_aload_n hx hb dL_hangs_297 rfl (lv_at hl 3 rfl) ?_
                          refine lv_iload hx hb dL_hangs_298 (lv_at hl 5 rfl) ?_
                          refine lv_bipush (v := nI 20) hx hb dL_hangs_300 (by decide) ?_
                          refine lv_idiv hx hb dL_hangs_302 (by decide) ?_
                          refine lv_as (y := nI ((i_120 / 20))) (pk_div (by omega) (by omega) (by omega)) ?_
                          refine lv_iload hx hb dL_hangs_303 (lv_at hl 5 rfl) ?_
                          refine lv_bipush (v := nI 20) hx hb dL_hangs_305 (by decide) ?_
                          refine lv_irem hx hb dL_hangs_307 (by decide) ?_
                          refine lv_as (y := nI ((i_120 % 20))) (pk_rem (by omega) (by omega) (by omega)) ?_
                          refine lv_iconst (v := nI 0) hx hb dL_hangs_308 (by decide) ?_
                          refine rg_civd (As := [.int (nI ((i_120 / 20))), .int (nI ((i_120 % 20))), .int (nI 0)]) (rest := []) X hl.1 h (c_X7_rule l J z ad G r hR (nI ((i_120 / 20))) (nI ((i_120 % 20))) (nI 0)) mw_195 mw_196 mw_197 mw_2 mw_198 pdX7_rule (by decide) (xo_0 J ad _) rfl rfl ⟨Nat.le_of_ble_eq_true rfl, Nat.le_of_ble_eq_true rfl⟩ ⟨Nat.le_of_ble_eq_true rfl, Nat.le_of_ble_eq_true rfl⟩ rfl (Nat.le_of_ble_eq_true rfl) dL_hangs_309 (fun H locs h => ?_)
                          refine lv_as (y := nI 1) ((ru_0 (show i_120 / 20 < 6 by omega) (show i_120 % 20 < 20 by omega)).trans (b2_t ha)) ?_
                          refine lv_iload hx hb dL_hangs_312 (lv_at hl 1 rfl) ?_
                          refine lv_if_ge (tgt := 321) hx hb dL_hangs_314 (by decide) (fun c_314 => ?_) (fun c_314 => absurd (nI_pos' (by omega)) c_314)
                          refine lv_aload_n hx hb dL_hangs_321 rfl (lv_at hl 3 rfl) ?_
                          refine lv_iload hx hb dL_hangs_322 (lv_at hl 1 rfl) ?_
                          refine lv_iconst (v := nI 2) hx hb dL_hangs_324 (by decide) ?_
                          refine rg_civd (As := [.int (nI ((cnt (LW r) i_120))), .int (nI 2)]) (rest := [.int (nI 1)]) X hl.1 h (c_X7_bylaw l J z ad G r hR (nI ((cnt (LW r) i_120))) (nI 2)) mw_157 mw_158 mw_159 mw_2 mw_160 pdX7_bylaw (by decide) (xo_0 J ad _) rfl rfl ⟨Nat.le_of_ble_eq_true rfl, Nat.le_of_ble_eq_true rfl⟩ ⟨Nat.le_of_ble_eq_true rfl, Nat.le_of_ble_eq_true rfl⟩ rfl (Nat.le_of_ble_eq_true rfl) dL_hangs_325 (fun H locs h => ?_)
                          refine lv_as (y := nI 1) ((by_at (show i_120 < 140 by omega) u1 rfl (by omega)).trans (byB_2.trans hs)) ?_
                          refine lv_icmp_ne (tgt := 409) hx hb dL_hangs_328 (by decide) (fun c_328 => absurd (by decide) c_328) (fun c_328 => ?_)
                          refine lv_aload_n hx hb dL_hangs_331 rfl (lv_at hl 3 rfl) ?_
                          refine lv_iload hx hb dL_hangs_332 (lv_at hl 5 rfl) ?_
                          refine lv_bipush (v := nI 20) hx hb dL_hangs_334 (by decide) ?_
                          refine lv_idiv hx hb dL_hangs_336 (by decide) ?_
                          refine lv_as (y := nI ((i_120 / 20))) (pk_div (by omega) (by omega) (by omega)) ?_
                          refine lv_iload hx hb dL_hangs_337 (lv_at hl 5 rfl) ?_
                          refine lv_bipush (v := nI 20) hx hb dL_hangs_339 (by decide) ?_
                          refine lv_irem hx hb dL_hangs_341 (by decide) ?_
                          refine lv_as (y := nI ((i_120 % 20))) (pk_rem (by omega) (by omega) (by omega)) ?_
                          refine lv_iconst (v := nI 1) hx hb dL_hangs_342 (by decide) ?_
                          refine rg_civd (As := [.int (nI ((i_120 / 20))), .int (nI ((i_120 % 20))), .int (nI 1)]) (rest := []) X hl.1 h (c_X7_rule l J z ad G r hR (nI ((i_120 / 20))) (nI ((i_120 % 20))) (nI 1)) mw_195 mw_196 mw_197 mw_2 mw_198 pdX7_rule (by decide) (xo_0 J ad _) rfl rfl ⟨Nat.le_of_ble_eq_true rfl, Nat.le_of_ble_eq_true rfl⟩ ⟨Nat.le_of_ble_eq_true rfl, Nat.le_of_ble_eq_true rfl⟩ rfl (Nat.le_of_ble_eq_true rfl) dL_hangs_343 (fun H locs h => ?_)
                          refine lv_as (y := nI ((i_120 / 20))) ((ru_1 (show i_120 / 20 < 6 by omega) (show i_120 % 20 < 20 by omega)).trans (rul_of hru)) ?_
                          refine lv_iload hx hb dL_hangs_346 (lv_at hl 1 rfl) ?_
                          refine lv_if_ge (tgt := 356) hx hb dL_hangs_348 (by decide) (fun c_348 => ?_) (fun c_348 => absurd (nI_pos' (by omega)) c_348)
                          refine lv_iload hx hb dL_hangs_356 (lv_at hl 2 rfl) ?_
                          refine lv_if_eq (tgt := 366) hx hb dL_hangs_358 (by decide) (fun c_358 => ?_) (fun c_358 => absurd (by decide) c_358)
                          refine lv_iload hx hb dL_hangs_366 (lv_at hl 5 rfl) ?_
                          refine lv_bipush (v := nI 20) hx hb dL_hangs_368 (by decide) ?_
                          refine lv_idiv hx hb dL_hangs_370 (by decide) ?_
                          refine lv_as (y := nI ((i_120 / 20))) (pk_div (by omega) (by omega) (by omega)) ?_
                          refine lv_icmp_ne (tgt := 409) hx hb dL_hangs_371 (by decide) (fun c_371 => absurd (rfl) c_371) (fun c_371 => ?_)
                          refine lv_aload_n hx hb dL_hangs_374 rfl (lv_at hl 3 rfl) ?_
                          refine lv_iload hx hb dL_hangs_375 (lv_at hl 5 rfl) ?_
                          refine lv_bipush (v := nI 20) hx hb dL_hangs_377 (by decide) ?_
                          refine lv_idiv hx hb dL_hangs_379 (by decide) ?_
                          refine lv_as (y := nI ((i_120 / 20))) (pk_div (by omega) (by omega) (by omega)) ?_
                          refine lv_iload hx hb dL_hangs_380 (lv_at hl 5 rfl) ?_
                          refine lv_bipush (v := nI 20) hx hb dL_hangs_382 (by decide) ?_
                          refine lv_irem hx hb dL_hangs_384 (by decide) ?_
                          refine lv_as (y := nI ((i_120 % 20))) (pk_rem (by omega) (by omega) (by omega)) ?_
                          refine lv_iconst (v := nI 2) hx hb dL_hangs_385 (by decide) ?_
                          refine rg_civd (As := [.int (nI ((i_120 / 20))), .int (nI ((i_120 % 20))), .int (nI 2)]) (rest := []) X hl.1 h (c_X7_rule l J z ad G r hR (nI ((i_120 / 20))) (nI ((i_120 % 20))) (nI 2)) mw_195 mw_196 mw_197 mw_2 mw_198 pdX7_rule (by decide) (xo_0 J ad _) rfl rfl ⟨Nat.le_of_ble_eq_true rfl, Nat.le_of_ble_eq_true rfl⟩ ⟨Nat.le_of_ble_eq_true rfl, Nat.le_of_ble_eq_true rfl⟩ rfl (Nat.le_of_ble_eq_true rfl) dL_hangs_386 (fun H locs h => ?_)
                          refine lv_as (y := r (3 * i_120 + 193)) ((ru_2s (show i_120 / 20 < 6 by omega) (show i_120 % 20 < 20 by omega) hru).trans (congrArg r (by omega))) ?_
                          refine lv_iload hx hb dL_hangs_389 (lv_at hl 1 rfl) ?_
                          refine lv_if_ge (tgt := 399) hx hb dL_hangs_391 (by decide) (fun c_391 => ?_) (fun c_391 => absurd (nI_pos' (by omega)) c_391)
                          refine lv_aload_n hx hb dL_hangs_399 rfl (lv_at hl 3 rfl) ?_
                          refine lv_iload hx hb dL_hangs_400 (lv_at hl 1 rfl) ?_
                          refine lv_iconst (v := nI 3) hx hb dL_hangs_402 (by decide) ?_
                          refine rg_civd (As := [.int (nI ((cnt (LW r) i_120))), .int (nI 3)]) (rest := [.int (r (3 * i_120 + 193))]) X hl.1 h (c_X7_bylaw l J z ad G r hR (nI ((cnt (LW r) i_120))) (nI 3)) mw_157 mw_158 mw_159 mw_2 mw_160 pdX7_bylaw (by decide) (xo_0 J ad _) rfl rfl ⟨Nat.le_of_ble_eq_true rfl, Nat.le_of_ble_eq_true rfl⟩ ⟨Nat.le_of_ble_eq_true rfl, Nat.le_of_ble_eq_true rfl⟩ rfl (Nat.le_of_ble_eq_true rfl) dL_hangs_403 (fun H locs h => ?_)
                          refine lv_as (y := r (3 * i_120 + 193)) ((by_at (show i_120 < 140 by omega) u1 rfl (by omega)).trans byB_3) ?_
                          refine lv_icmp_eq (tgt := 411) hx hb dL_hangs_406 (by decide) (fun c_406 => ?_) (fun c_406 => absurd (rfl) c_406)
                          refine lv_iinc (v := nI (i_120 + 1)) (lv' := [(4, .int (nI (i_120 + 1))), (3, .int (nI ((cnt (fun k => ¬ alw r (k / 20) (k % 20)) (i_120 + 1))))), (8, .int (nI ((cnt (LW r) i_120)))), (7, .int (nI 0)), (0, .ref (ad 0)), (1, .int (nI ((cnt (fun k => r (3 * k + 192) = nI 0) 140)))), (5, .int (nI ((cnt (LW r) i_120)))), (6, .int (nI ((cnt (LW r) (120 + i_120 % 20)))))]) hx hb dL_hangs_411 hl (k := 5) rfl (nI_addc (b := 1) (by omega)) (by decide) rfl (fun ls hl => ?_)
                          refine lv_goto (tgt := 120) hx hb dL_hangs_414 (by decide) ?_
                          exact ih_120 (i_120 + 1) (by omega) (by omega) _ _ _ h (lv_sub hl [4, 5, 1, 0] rfl)
                      · refine lv_iconst (v := nI 1) hx hb dL_hangs_256 (by decide) ?_
                        refine lv_goto (tgt := 261) hx hb dL_hangs_257 (by decide) ?_
                        refine lv_istore (lv' := [(7, .int (nI 1)), (0, .ref (ad 0)), (1, .int (nI ((cnt (fun k => r (3 * k + 192) = nI 0) 140)))), (3, .int (nI ((cnt (fun k => ¬ alw r (k / 20) (k % 20)) i_120)))), (4, .int (nI i_120)), (5, .int (nI ((cnt (LW r) i_120)))), (6, .int (nI ((cnt (LW r) (120 + i_120 % 20)))))]) hx hb dL_hangs_261 hl (by decide) rfl (fun ls hl => ?_)
                        refine lv_iload hx hb dL_hangs_263 (lv_at hl 0 rfl) ?_
                        refine lv_if_eq (tgt := 273) hx hb dL_hangs_265 (by decide) (fun c_265 => absurd c_265 (by decide)) (fun c_265 => ?_)
                        refine lv_iload hx hb dL_hangs_268 (lv_at hl 6 rfl) ?_
                        refine lv_goto (tgt := 275) hx hb dL_hangs_270 (by decide) ?_
                        refine lv_istore (lv' := [(8, .int (nI ((cnt (LW r) (120 + i_120 % 20))))), (7, .int (nI 1)), (0, .ref (ad 0)), (1, .int (nI ((cnt (fun k => r (3 * k + 192) = nI 0) 140)))), (3, .int (nI ((cnt (fun k => ¬ alw r (k / 20) (k % 20)) i_120)))), (4, .int (nI i_120)), (5, .int (nI ((cnt (LW r) i_120)))), (6, .int (nI ((cnt (LW r) (120 + i_120 % 20)))))]) hx hb dL_hangs_275 hl (by decide) rfl (fun ls hl => ?_)
                        have hru := ru_y6 u1 u2 c_253
                        have has := alw_s hru
                        rw [show 60 * 6 + 3 * (i_120 % 20) + 192 = 3 * (120 + i_120 % 20) + 192 by omega] at has
                        obtain ⟨hs, -⟩ := lw_st hR (show (120 + i_120 % 20) < 140 by omega) u2
                        rcases hs with hs | hs
                        · have ha : ¬ alw r (i_120 / 20) (i_120 % 20) := fun q => absurd (hs.symm.trans (has.mp q)) (by decide)
                          refine lv_iload_n hx hb dL_hangs_277 rfl (lv_at hl 4 rfl) ?_
                          refine lv_iconst (v := nI 1) hx hb dL_hangs_278 (by decide) ?_
                          refine lv_aload_n hx hb dL_hangs_279 rfl (lv_at hl 2 rfl) ?_
                          refine lv_iload hx hb dL_hangs_280 (lv_at hl 5 rfl) ?_
                          refine lv_bipush (v := nI 20) hx hb dL_hangs_282 (by decide) ?_
                          refine lv_idiv hx hb dL_hangs_284 (by decide) ?_
                          refine lv_as (y := nI ((i_120 / 20))) (pk_div (by omega) (by omega) (by omega)) ?_
                          refine lv_iload hx hb dL_hangs_285 (lv_at hl 5 rfl) ?_
                          refine lv_bipush (v := nI 20) hx hb dL_hangs_287 (by decide) ?_
                          refine lv_irem hx hb dL_hangs_289 (by decide) ?_
                          refine lv_as (y := nI ((i_120 % 20))) (pk_rem (by omega) (by omega) (by omega)) ?_
                          refine lv_iconst (v := nI 0) hx hb dL_hangs_290 (by decide) ?_
                          refine rg_civd (As := [.int (nI ((i_120 / 20))), .int (nI ((i_120 % 20))), .int (nI 0)]) (rest := [.int (nI 1), .int (nI ((cnt (fun k => ¬ alw r (k / 20) (k % 20)) i_120)))]) X hl.1 h (c_X7_rule l J z ad G r hR (nI ((i_120 / 20))) (nI ((i_120 % 20))) (nI 0)) mw_195 mw_196 mw_197 mw_2 mw_198 pdX7_rule (by decide) (xo_0 J ad _) rfl rfl ⟨Nat.le_of_ble_eq_true rfl, Nat.le_of_ble_eq_true rfl⟩ ⟨Nat.le_of_ble_eq_true rfl, Nat.le_of_ble_eq_true rfl⟩ rfl (Nat.le_of_ble_eq_true rfl) dL_hangs_291 (fun H locs h => ?_)
                          refine lv_as (y := nI 0) ((ru_0 (show i_120 / 20 < 6 by omega) (show i_120 % 20 < 20 by omega)).trans (b2_f ha)) ?_
                          refine lv_isub hx hb dL_hangs_294 ?_
                          refine lv_as (y := nI 1) (nI_subc (by omega)) ?_
                          refine lv_iadd hx hb dL_hangs_295 ?_
                          refine lv_as (y := nI ((cnt (fun k => ¬ alw r (k / 20) (k % 20)) i_120) + 1)) (nI_addc (by omega)) ?_
                          refine lv_as (y := nI ((cnt (fun k => ¬ alw r (k / 20) (k % 20)) (i_120 + 1)))) (congrArg nI (by rw [cnt_t (P := (fun k => ¬ alw r (k / 20) (k % 20))) ha])) ?_
                          refine lv_istore_n (lv' := [(3, .int (nI ((cnt (fun k => ¬ alw r (k / 20) (k % 20)) (i_120 + 1))))), (8, .int (nI ((cnt (LW r) (120 + i_120 % 20))))), (7, .int (nI 1)), (0, .ref (ad 0)), (1, .int (nI ((cnt (fun k => r (3 * k + 192) = nI 0) 140)))), (4, .int (nI i_120)), (5, .int (nI ((cnt (LW r) i_120)))), (6, .int (nI ((cnt (LW r) (120 + i_120 % 20)))))]) hx hb dL_hangs_296 rfl hl (by decide) rfl (fun ls hl => ?_)
                          refine lv_aload_n hx hb dL_hangs_297 rfl (lv_at hl 3 rfl) ?_
                          refine lv_iload hx hb dL_hangs_298 (lv_at hl 5 rfl) ?_
                          refine lv_bipush (v := nI 20) hx hb dL_hangs_300 (by decide) ?_
                          refine lv_idiv hx hb dL_hangs_302 (by decide) ?_
                          refine lv_as (y := nI ((i_120 / 20))) (pk_div (by omega) (by omega) (by omega)) ?_
                          refine lv_iload hx hb dL_hangs_303 (lv_at hl 5 rfl) ?_
                          refine lv_bipush (v := nI 20) hx hb dL_hangs_305 (by decide) ?_
                          refine lv_irem hx hb dL_hangs_307 (by decide) ?_
                          refine lv_as (y := nI ((i_120 % 20))) (pk_rem (by omega) (by omega) (by omega)) ?_
                          refine lv_iconst (v := nI 0) hx hb dL_hangs_308 (by decide) ?_
                          refine rg_civd (As := [.int (nI ((i_120 / 20))), .int (nI ((i_120 % 20))), .int (nI 0)]) (rest := []) X hl.1 h (c_X7_rule l J z ad G r hR (nI ((i_120 / 20))) (nI ((i_120 % 20))) (nI 0)) mw_195 mw_196 mw_197 mw_2 mw_198 pdX7_rule (by decide) (xo_0 J ad _) rfl rfl ⟨Nat.le_of_ble_eq_true rfl, Nat.le_of_ble_eq_true rfl⟩ ⟨Nat.le_of_ble_eq_true rfl, Nat.le_of_ble_eq_true rfl⟩ rfl (Nat.le_of_ble_eq_true rfl) dL_hangs_309 (fun H locs h => ?_)
                          refine lv_as (y := nI 0) ((ru_0 (show i_120 / 20 < 6 by omega) (show i_120 % 20 < 20 by omega)).trans (b2_f ha)) ?_
                          refine lv_iload hx hb dL_hangs_312 (lv_at hl 1 rfl) ?_
                          refine lv_if_ge (tgt := 321) hx hb dL_hangs_314 (by decide) (fun c_314 => ?_) (fun c_314 => absurd (nI_pos' (by omega)) c_314)
                          refine lv_aload_n hx hb dL_hangs_321 rfl (lv_at hl 3 rfl) ?_
                          refine lv_iload hx hb dL_hangs_322 (lv_at hl 1 rfl) ?_
                          refine lv_iconst (v := nI 2) hx hb dL_hangs_324 (by decide) ?_
                          refine rg_civd (As := [.int (nI ((cnt (LW r) (120 + i_120 % 20)))), .int (nI 2)]) (rest := [.int (nI 0)]) X hl.1 h (c_X7_bylaw l J z ad G r hR (nI ((cnt (LW r) (120 + i_120 % 20)))) (nI 2)) mw_157 mw_158 mw_159 mw_2 mw_160 pdX7_bylaw (by decide) (xo_0 J ad _) rfl rfl ⟨Nat.le_of_ble_eq_true rfl, Nat.le_of_ble_eq_true rfl⟩ ⟨Nat.le_of_ble_eq_true rfl, Nat.le_of_ble_eq_true rfl⟩ rfl (Nat.le_of_ble_eq_true rfl) dL_hangs_325 (fun H locs h => ?_)
                          refine lv_as (y := nI 0) ((by_at (show (120 + i_120 % 20) < 140 by omega) u2 rfl (by omega)).trans (byB_2.trans hs)) ?_
                          refine lv_icmp_ne (tgt := 409) hx hb dL_hangs_328 (by decide) (fun c_328 => absurd (by decide) c_328) (fun c_328 => ?_)
                          refine lv_aload_n hx hb dL_hangs_331 rfl (lv_at hl 3 rfl) ?_
                          refine lv_iload hx hb dL_hangs_332 (lv_at hl 5 rfl) ?_
                          refine lv_bipush (v := nI 20) hx hb dL_hangs_334 (by decide) ?_
                          refine lv_idiv hx hb dL_hangs_336 (by decide) ?_
                          refine lv_as (y := nI ((i_120 / 20))) (pk_div (by omega) (by omega) (by omega)) ?_
                          refine lv_iload hx hb dL_hangs_337 (lv_at hl 5 rfl) ?_
                          refine lv_bipush (v := nI 20) hx hb dL_hangs_339 (by decide) ?_
                          refine lv_irem hx hb dL_hangs_341 (by decide) ?_
                          refine lv_as (y := nI ((i_120 % 20))) (pk_rem (by omega) (by omega) (by omega)) ?_
                          refine lv_iconst (v := nI 1) hx hb dL_hangs_342 (by decide) ?_
                          refine rg_civd (As := [.int (nI ((i_120 / 20))), .int (nI ((i_120 % 20))), .int (nI 1)]) (rest := []) X hl.1 h (c_X7_rule l J z ad G r hR (nI ((i_120 / 20))) (nI ((i_120 % 20))) (nI 1)) mw_195 mw_196 mw_197 mw_2 mw_198 pdX7_rule (by decide) (xo_0 J ad _) rfl rfl ⟨Nat.le_of_ble_eq_true rfl, Nat.le_of_ble_eq_true rfl⟩ ⟨Nat.le_of_ble_eq_true rfl, Nat.le_of_ble_eq_true rfl⟩ rfl (Nat.le_of_ble_eq_true rfl) dL_hangs_343 (fun H locs h => ?_)
                          refine lv_as (y := nI 6) ((ru_1 (show i_120 / 20 < 6 by omega) (show i_120 % 20 < 20 by omega)).trans (rul_of hru)) ?_
                          refine lv_iload hx hb dL_hangs_346 (lv_at hl 1 rfl) ?_
                          refine lv_if_ge (tgt := 356) hx hb dL_hangs_348 (by decide) (fun c_348 => ?_) (fun c_348 => absurd (nI_pos' (by omega)) c_348)
                          refine lv_iload hx hb dL_hangs_356 (lv_at hl 2 rfl) ?_
                          refine lv_if_eq (tgt := 366) hx hb dL_hangs_358 (by decide) (fun c_358 => absurd c_358 (by decide)) (fun c_358 => ?_)
                          refine lv_bipush (v := nI 6) hx hb dL_hangs_361 (by decide) ?_
                          refine lv_goto (tgt := 371) hx hb dL_hangs_363 (by decide) ?_
                          refine lv_icmp_ne (tgt := 409) hx hb dL_hangs_371 (by decide) (fun c_371 => absurd (by decide) c_371) (fun c_371 => ?_)
                          refine lv_aload_n hx hb dL_hangs_374 rfl (lv_at hl 3 rfl) ?_
                          refine lv_iload hx hb dL_hangs_375 (lv_at hl 5 rfl) ?_
                          refine lv_bipush (v := nI 20) hx hb dL_hangs_377 (by decide) ?_
                          refine lv_idiv hx hb dL_hangs_379 (by decide) ?_
                          refine lv_as (y := nI ((i_120 / 20))) (pk_div (by omega) (by omega) (by omega)) ?_
                          refine lv_iload hx hb dL_hangs_380 (lv_at hl 5 rfl) ?_
                          refine lv_bipush (v := nI 20) hx hb dL_hangs_382 (by decide) ?_
                          refine lv_irem hx hb dL_hangs_384 (by decide) ?_
                          refine lv_as (y := nI ((i_120 % 20))) (pk_rem (by omega) (by omega) (by omega)) ?_
                          refine lv_iconst (v := nI 2) hx hb dL_hangs_385 (by decide) ?_
                          refine rg_civd (As := [.int (nI ((i_120 / 20))), .int (nI ((i_120 % 20))), .int (nI 2)]) (rest := []) X hl.1 h (c_X7_rule l J z ad G r hR (nI ((i_120 / 20))) (nI ((i_120 % 20))) (nI 2)) mw_195 mw_196 mw_197 mw_2 mw_198 pdX7_rule (by decide) (xo_0 J ad _) rfl rfl ⟨Nat.le_of_ble_eq_true rfl, Nat.le_of_ble_eq_true rfl⟩ ⟨Nat.le_of_ble_eq_true rfl, Nat.le_of_ble_eq_true rfl⟩ rfl (Nat.le_of_ble_eq_true rfl) dL_hangs_386 (fun H locs h => ?_)
                          refine lv_as (y := r (3 * (120 + i_120 % 20) + 193)) ((ru_2s (show i_120 / 20 < 6 by omega) (show i_120 % 20 < 20 by omega) hru).trans (congrArg r (by omega))) ?_
                          refine lv_iload hx hb dL_hangs_389 (lv_at hl 1 rfl) ?_
                          refine lv_if_ge (tgt := 399) hx hb dL_hangs_391 (by decide) (fun c_391 => ?_) (fun c_391 => absurd (nI_pos' (by omega)) c_391)
                          refine lv_aload_n hx hb dL_hangs_399 rfl (lv_at hl 3 rfl) ?_
                          refine lv_iload hx hb dL_hangs_400 (lv_at hl 1 rfl) ?_
                          refine lv_iconst (v := nI 3) hx hb dL_hangs_402 (by decide) ?_
                          refine rg_civd (As := [.int (nI ((cnt (LW r) (120 + i_120 % 20)))), .int (nI 3)]) (rest := [.int (r (3 * (120 + i_120 % 20) + 193))]) X hl.1 h (c_X7_bylaw l J z ad G r hR (nI ((cnt (LW r) (120 + i_120 % 20)))) (nI 3)) mw_157 mw_158 mw_159 mw_2 mw_160 pdX7_bylaw (by decide) (xo_0 J ad _) rfl rfl ⟨Nat.le_of_ble_eq_true rfl, Nat.le_of_ble_eq_true rfl⟩ ⟨Nat.le_of_ble_eq_true rfl, Nat.le_of_ble_eq_true rfl⟩ rfl (Nat.le_of_ble_eq_true rfl) dL_hangs_403 (fun H locs h => ?_)
                          refine lv_as (y := r (3 * (120 + i_120 % 20) + 193)) ((by_at (show (120 + i_120 % 20) < 140 by omega) u2 rfl (by omega)).trans byB_3) ?_
                          refine lv_icmp_eq (tgt := 411) hx hb dL_hangs_406 (by decide) (fun c_406 => ?_) (fun c_406 => absurd (rfl) c_406)
                          refine lv_iinc (v := nI (i_120 + 1)) (lv' := [(4, .int (nI (i_120 + 1))), (3, .int (nI ((cnt (fun k => ¬ alw r (k / 20) (k % 20)) (i_120 + 1))))), (8, .int (nI ((cnt (LW r) (120 + i_120 % 20))))), (7, .int (nI 1)), (0, .ref (ad 0)), (1, .int (nI ((cnt (fun k => r (3 * k + 192) = nI 0) 140)))), (5, .int (nI ((cnt (LW r) i_120)))), (6, .int (nI ((cnt (LW r) (120 + i_120 % 20)))))]) hx hb dL_hangs_411 hl (k := 5) rfl (nI_addc (b := 1) (by omega)) (by decide) rfl (fun ls hl => ?_)
                          refine lv_goto (tgt := 120) hx hb dL_hangs_414 (by decide) ?_
                          exact ih_120 (i_120 + 1) (by omega) (by omega) _ _ _ h (lv_sub hl [4, 5, 1, 0] rfl)
                        · have ha : alw r (i_120 / 20) (i_120 % 20) := has.mpr hs
                          refine lv_iload_n hx hb dL_hangs_277 rfl (lv_at hl 4 rfl) ?_
                          refine lv_iconst (v := nI 1) hx hb dL_hangs_278 (by decide) ?_
                          refine lv_aload_n hx hb dL_hangs_279 rfl (lv_at hl 2 rfl) ?_
                          refine lv_iload hx hb dL_hangs_280 (lv_at hl 5 rfl) ?_
                          refine lv_bipush (v := nI 20) hx hb dL_hangs_282 (by decide) ?_
                          refine lv_idiv hx hb dL_hangs_284 (by decide) ?_
                          refine lv_as (y := nI ((i_120 / 20))) (pk_div (by omega) (by omega) (by omega)) ?_
                          refine lv_iload hx hb dL_hangs_285 (lv_at hl 5 rfl) ?_
                          refine lv_bipush (v := nI 20) hx hb dL_hangs_287 (by decide) ?_
                          refine lv_irem hx hb dL_hangs_289 (by decide) ?_
                          refine lv_as (y := nI ((i_120 % 20))) (pk_rem (by omega) (by omega) (by omega)) ?_
                          refine lv_iconst (v := nI 0) hx hb dL_hangs_290 (by decide) ?_
                          refine rg_civd (As := [.int (nI ((i_120 / 20))), .int (nI ((i_120 % 20))), .int (nI 0)]) (rest := [.int (nI 1), .int (nI ((cnt (fun k => ¬ alw r (k / 20) (k % 20)) i_120)))]) X hl.1 h (c_X7_rule l J z ad G r hR (nI ((i_120 / 20))) (nI ((i_120 % 20))) (nI 0)) mw_195 mw_196 mw_197 mw_2 mw_198 pdX7_rule (by decide) (xo_0 J ad _) rfl rfl ⟨Nat.le_of_ble_eq_true rfl, Nat.le_of_ble_eq_true rfl⟩ ⟨Nat.le_of_ble_eq_true rfl, Nat.le_of_ble_eq_true rfl⟩ rfl (Nat.le_of_ble_eq_true rfl) dL_hangs_291 (fun H locs h => ?_)
                          refine lv_as (y := nI 1) ((ru_0 (show i_120 / 20 < 6 by omega) (show i_120 % 20 < 20 by omega)).trans (b2_t ha)) ?_
                          refine lv_isub hx hb dL_hangs_294 ?_
                          refine lv_as (y := nI 0) (nI_subc (by omega)) ?_
                          refine lv_iadd hx hb dL_hangs_295 ?_
                          refine lv_as (y := nI ((cnt (fun k => ¬ alw r (k / 20) (k % 20)) i_120))) (nI_addc (by omega)) ?_
                          refine lv_as (y := nI ((cnt (fun k => ¬ alw r (k / 20) (k % 20)) (i_120 + 1)))) (congrArg nI (by rw [cnt_f (P := (fun k => ¬ alw r (k / 20) (k % 20))) (fun q => q ha)])) ?_
                          refine lv_istore_n (lv' := [(3, .int (nI ((cnt (fun k => ¬ alw r (k / 20) (k % 20)) (i_120 + 1))))), (8, .int (nI ((cnt (LW r) (120 + i_120 % 20))))), (7, .int (nI 1)), (0, .ref (ad 0)), (1, .int (nI ((cnt (fun k => r (3 * k + 192) = nI 0) 140)))), (4, .int (nI i_120)), (5, .int (nI ((cnt (LW r) i_120)))), (6, .int (nI ((cnt (LW r) (120 + i_120 % 20)))))]) hx hb dL_hangs_296 rfl hl (by decide) rfl (fun ls hl => ?_)
                          refine lv_aload_n hx hb dL_hangs_297 rfl (lv_at hl 3 rfl) ?_
                          refine lv_iload hx hb dL_hangs_298 (lv_at hl 5 rfl) ?_
                          refine lv_bipush (v := nI 20) hx hb dL_hangs_300 (by decide) ?_
                          refine lv_idiv hx hb dL_hangs_302 (by decide) ?_
                          refine lv_as (y := nI ((i_120 / 20))) (pk_div (by omega) (by omega) (by omega)) ?_
                          refine lv_iload hx hb dL_hangs_303 (lv_at hl 5 rfl) ?_
                          refine lv_bipush (v := nI 20) hx hb dL_hangs_305 (by decide) ?_
                          refine lv_irem hx hb dL_hangs_307 (by decide) ?_
                          refine lv_as (y := nI ((i_120 % 20))) (pk_rem (by omega) (by omega) (by omega)) ?_
                          refine lv_iconst (v := nI 0) hx hb dL_hangs_308 (by decide) ?_
                          refine rg_civd (As := [.int (nI ((i_120 / 20))), .int (nI ((i_120 % 20))), .int (nI 0)]) (rest := []) X hl.1 h (c_X7_rule l J z ad G r hR (nI ((i_120 / 20))) (nI ((i_120 % 20))) (nI 0)) mw_195 mw_196 mw_197 mw_2 mw_198 pdX7_rule (by decide) (xo_0 J ad _) rfl rfl ⟨Nat.le_of_ble_eq_true rfl, Nat.le_of_ble_eq_true rfl⟩ ⟨Nat.le_of_ble_eq_true rfl, Nat.le_of_ble_eq_true rfl⟩ rfl (Nat.le_of_ble_eq_true rfl) dL_hangs_309 (fun H locs h => ?_)
                          refine lv_as (y := nI 1) ((ru_0 (show i_120 / 20 < 6 by omega) (show i_120 % 20 < 20 by omega)).trans (b2_t ha)) ?_
                          refine lv_iload hx hb dL_hangs_312 (lv_at hl 1 rfl) ?_
                          refine lv_if_ge (tgt := 321) hx hb dL_hangs_314 (by decide) (fun c_314 => ?_) (fun c_314 => absurd (nI_pos' (by omega)) c_314)
                          refine lv_aload_n hx hb dL_hangs_321 rfl (lv_at hl 3 rfl) ?_
                          refine lv_iload hx hb dL_hangs_322 (lv_at hl 1 rfl) ?_
                          refine lv_iconst (v := nI 2) hx hb dL_hangs_324 (by decide) ?_
                          refine rg_civd (As := [.int (nI ((cnt (LW r) (120 + i_120 % 20)))), .int (nI 2)]) (rest := [.int (nI 1)]) X hl.1 h (c_X7_bylaw l J z ad G r hR (nI ((cnt (LW r) (120 + i_120 % 20)))) (nI 2)) mw_157 mw_158 mw_159 mw_2 mw_160 pdX7_bylaw (by decide) (xo_0 J ad _) rfl rfl ⟨Nat.le_of_ble_eq_true rfl, Nat.le_of_ble_eq_true rfl⟩ ⟨Nat.le_of_ble_eq_true rfl, Nat.le_of_ble_eq_true rfl⟩ rfl (Nat.le_of_ble_eq_true rfl) dL_hangs_325 (fun H locs h => ?_)
                          refine lv_as (y := nI 1) ((by_at (show (120 + i_120 % 20) < 140 by omega) u2 rfl (by omega)).trans (byB_2.trans hs)) ?_
                          refine lv_icmp_ne (tgt := 409) hx hb dL_hangs_328 (by decide) (fun c_328 => absurd (by decide) c_328) (fun c_328 => ?_)
                          refine lv_aload_n hx hb dL_hangs_331 rfl (lv_at hl 3 rfl) ?_
                          refine lv_iload hx hb dL_hangs_332 (lv_at hl 5 rfl) ?_
                          refine lv_bipush (v := nI 20) hx hb dL_hangs_334 (by decide) ?_
                          refine lv_idiv hx hb dL_hangs_336 (by decide) ?_
                          refine lv_as (y := nI ((i_120 / 20))) (pk_div (by omega) (by omega) (by omega)) ?_
                          refine lv_iload hx hb dL_hangs_337 (lv_at hl 5 rfl) ?_
                          refine lv_bipush (v := nI 20) hx hb dL_hangs_339 (by decide) ?_
                          refine lv_irem hx hb dL_hangs_341 (by decide) ?_
                          refine lv_as (y := nI ((i_120 % 20))) (pk_rem (by omega) (by omega) (by omega)) ?_
                          refine lv_iconst (v := nI 1) hx hb dL_hangs_342 (by decide) ?_
                          refine rg_civd (As := [.int (nI ((i_120 / 20))), .int (nI ((i_120 % 20))), .int (nI 1)]) (rest := []) X hl.1 h (c_X7_rule l J z ad G r hR (nI ((i_120 / 20))) (nI ((i_120 % 20))) (nI 1)) mw_195 mw_196 mw_197 mw_2 mw_198 pdX7_rule (by decide) (xo_0 J ad _) rfl rfl ⟨Nat.le_of_ble_eq_true rfl, Nat.le_of_ble_eq_true rfl⟩ ⟨Nat.le_of_ble_eq_true rfl, Nat.le_of_ble_eq_true rfl⟩ rfl (Nat.le_of_ble_eq_true rfl) dL_hangs_343 (fun H locs h => ?_)
                          refine lv_as (y := nI 6) ((ru_1 (show i_120 / 20 < 6 by omega) (show i_120 % 20 < 20 by omega)).trans (rul_of hru)) ?_
                          refine lv_iload hx hb dL_hangs_346 (lv_at hl 1 rfl) ?_
                          refine lv_if_ge (tgt := 356) hx hb dL_hangs_348 (by decide) (fun c_348 => ?_) (fun c_348 => absurd (nI_pos' (by omega)) c_348)
                          refine lv_iload hx hb dL_hangs_356 (lv_at hl 2 rfl) ?_
                          refine lv_if_eq (tgt := 366) hx hb dL_hangs_358 (by decide) (fun c_358 => absurd c_358 (by decide)) (fun c_358 => ?_)
                          refine lv_bipush (v := nI 6) hx hb dL_hangs_361 (by decide) ?_
                          refine lv_goto (tgt := 371) hx hb dL_hangs_363 (by decide) ?_
                          refine lv_icmp_ne (tgt := 409) hx hb dL_hangs_371 (by decide) (fun c_371 => absurd (by decide) c_371) (fun c_371 => ?_)
                          refine lv_aload_n hx hb dL_hangs_374 rfl (lv_at hl 3 rfl) ?_
                          refine lv_iload hx hb dL_hangs_375 (lv_at hl 5 rfl) ?_
                          refine lv_bipush (v := nI 20) hx hb dL_hangs_377 (by decide) ?_
                          refine lv_idiv hx hb dL_hangs_379 (by decide) ?_
                          refine lv_as (y := nI ((i_120 / 20))) (pk_div (by omega) (by omega) (by omega)) ?_
                          refine lv_iload hx hb dL_hangs_380 (lv_at hl 5 rfl) ?_
                          refine lv_bipush (v := nI 20) hx hb dL_hangs_382 (by decide) ?_
                          refine lv_irem hx hb dL_hangs_384 (by decide) ?_
                          refine lv_as (y := nI ((i_120 % 20))) (pk_rem (by omega) (by omega) (by omega)) ?_
                          refine lv_iconst (v := nI 2) hx hb dL_hangs_385 (by decide) ?_
                          refine rg_civd (As := [.int (nI ((i_120 / 20))), .int (nI ((i_120 % 20))), .int (nI 2)]) (rest := []) X hl.1 h (c_X7_rule l J z ad G r hR (nI ((i_120 / 20))) (nI ((i_120 % 20))) (nI 2)) mw_195 mw_196 mw_197 mw_2 mw_198 pdX7_rule (by decide) (xo_0 J ad _) rfl rfl ⟨Nat.le_of_ble_eq_true rfl, Nat.le_of_ble_eq_true rfl⟩ ⟨Nat.le_of_ble_eq_true rfl, Nat.le_of_ble_eq_true rfl⟩ rfl (Nat.le_of_ble_eq_true rfl) dL_hangs_386 (fun H locs h => ?_)
                          refine lv_as (y := r (3 * (120 + i_120 % 20) + 193)) ((ru_2s (show i_120 / 20 < 6 by omega) (show i_120 % 20 < 20 by omega) hru).trans (congrArg r (by omega))) ?_
                          refine lv_iload hx hb dL_hangs_389 (lv_at hl 1 rfl) ?_
                          refine lv_if_ge (tgt := 399) hx hb dL_hangs_391 (by decide) (fun c_391 => ?_) (fun c_391 => absurd (nI_pos' (by omega)) c_391)
                          refine lv_aload_n hx hb dL_hangs_399 rfl (lv_at hl 3 rfl) ?_
                          refine lv_iload hx hb dL_hangs_400 (lv_at hl 1 rfl) ?_
                          refine lv_iconst (v := nI 3) hx hb dL_hangs_402 (by decide) ?_
                          refine rg_civd (As := [.int (nI ((cnt (LW r) (120 + i_120 % 20)))), .int (nI 3)]) (rest := [.int (r (3 * (120 + i_120 % 20) + 193))]) X hl.1 h (c_X7_bylaw l J z ad G r hR (nI ((cnt (LW r) (120 + i_120 % 20)))) (nI 3)) mw_157 mw_158 mw_159 mw_2 mw_160 pdX7_bylaw (by decide) (xo_0 J ad _) rfl rfl ⟨Nat.le_of_ble_eq_true rfl, Nat.le_of_ble_eq_true rfl⟩ ⟨Nat.le_of_ble_eq_true rfl, Nat.le_of_ble_eq_true rfl⟩ rfl (Nat.le_of_ble_eq_true rfl) dL_hangs_403 (fun H locs h => ?_)
                          refine lv_as (y := r (3 * (120 + i_120 % 20) + 193)) ((by_at (show (120 + i_120 % 20) < 140 by omega) u2 rfl (by omega)).trans byB_3) ?_
                          refine lv_icmp_eq (tgt := 411) hx hb dL_hangs_406 (by decide) (fun c_406 => ?_) (fun c_406 => absurd (rfl) c_406)
                          refine lv_iinc (v := nI (i_120 + 1)) (lv' := [(4, .int (nI (i_120 + 1))), (3, .int (nI ((cnt (fun k => ¬ alw r (k / 20) (k % 20)) (i_120 + 1))))), (8, .int (nI ((cnt (LW r) (120 + i_120 % 20))))), (7, .int (nI 1)), (0, .ref (ad 0)), (1, .int (nI ((cnt (fun k => r (3 * k + 192) = nI 0) 140)))), (5, .int (nI ((cnt (LW r) i_120)))), (6, .int (nI ((cnt (LW r) (120 + i_120 % 20)))))]) hx hb dL_hangs_411 hl (k := 5) rfl (nI_addc (b := 1) (by omega)) (by decide) rfl (fun ls hl => ?_)
                          refine lv_goto (tgt := 120) hx hb dL_hangs_414 (by decide) ?_
                          exact ih_120 (i_120 + 1) (by omega) (by omega) _ _ _ h (lv_sub hl [4, 5, 1, 0] rfl)
                    · rw [fW_y (show i_120 < 140 by omega) u1, fW_n u2] at hl
                      refine lv_iload hx hb dL_hangs_229 (lv_at hl 5 rfl) ?_
                      refine lv_if_lt (tgt := 260) hx hb dL_hangs_231 (by decide) (fun c_231 => ?_) (fun c_231 => absurd (by decide) c_231)
                      refine lv_iconst (v := nI 0) hx hb dL_hangs_260 (by decide) ?_
                      refine lv_istore (lv' := [(7, .int (nI 0)), (0, .ref (ad 0)), (1, .int (nI ((cnt (fun k => r (3 * k + 192) = nI 0) 140)))), (3, .int (nI ((cnt (fun k => ¬ alw r (k / 20) (k % 20)) i_120)))), (4, .int (nI i_120)), (5, .int (nI ((cnt (LW r) i_120)))), (6, .int ((-1)))]) hx hb dL_hangs_261 hl (by decide) rfl (fun ls hl => ?_)
                      refine lv_iload hx hb dL_hangs_263 (lv_at hl 0 rfl) ?_
                      refine lv_if_eq (tgt := 273) hx hb dL_hangs_265 (by decide) (fun c_265 => ?_) (fun c_265 => absurd (by decide) c_265)
                      refine lv_iload hx hb dL_hangs_273 (lv_at hl 5 rfl) ?_
                      refine lv_istore (lv' := [(8, .int (nI ((cnt (LW r) i_120)))), (7, .int (nI 0)), (0, .ref (ad 0)), (1, .int (nI ((cnt (fun k => r (3 * k + 192) = nI 0) 140)))), (3, .int (nI ((cnt (fun k => ¬ alw r (k / 20) (k % 20)) i_120)))), (4, .int (nI i_120)), (5, .int (nI ((cnt (LW r) i_120)))), (6, .int ((-1)))]) hx hb dL_hangs_275 hl (by decide) rfl (fun ls hl => ?_)
                      have hru := ru_yn u1 u2
                      have has := alw_s hru
                      rw [show 60 * (i_120 / 20) + 3 * (i_120 % 20) + 192 = 3 * i_120 + 192 by omega] at has
                      obtain ⟨hs, -⟩ := lw_st hR (show i_120 < 140 by omega) u1
                      rcases hs with hs | hs
                      · have ha : ¬ alw r (i_120 / 20) (i_120 % 20) := fun q => absurd (hs.symm.trans (has.mp q)) (by decide)
                        refine lv_iload_n hx hb dL_hangs_277 rfl (lv_at hl 4 rfl) ?_
                        refine lv_iconst (v := nI 1) hx hb dL_hangs_278 (by decide) ?_
                        refine lv_aload_n hx hb dL_hangs_279 rfl (lv_at hl 2 rfl) ?_
                        refine lv_iload hx hb dL_hangs_280 (lv_at hl 5 rfl) ?_
                        refine lv_bipush (v := nI 20) hx hb dL_hangs_282 (by decide) ?_
                        refine lv_idiv hx hb dL_hangs_284 (by decide) ?_
                        refine lv_as (y := nI ((i_120 / 20))) (pk_div (by omega) (by omega) (by omega)) ?_
                        refine lv_iload hx hb dL_hangs_285 (lv_at hl 5 rfl) ?_
                        refine lv_bipush (v := nI 20) hx hb dL_hangs_287 (by decide) ?_
                        refine lv_irem hx hb dL_hangs_289 (by decide) ?_
                        refine lv_as (y := nI ((i_120 % 20))) (pk_rem (by omega) (by omega) (by omega)) ?_
                        refine lv_iconst (v := nI 0) hx hb dL_hangs_290 (by decide) ?_
                        refine rg_civd (As := [.int (nI ((i_120 / 20))), .int (nI ((i_120 % 20))), .int (nI 0)]) (rest := [.int (nI 1), .int (nI ((cnt (fun k => ¬ alw r (k / 20) (k % 20)) i_120)))]) X hl.1 h (c_X7_rule l J z ad G r hR (nI ((i_120 / 20))) (nI ((i_120 % 20))) (nI 0)) mw_195 mw_196 mw_197 mw_2 mw_198 pdX7_rule (by decide) (xo_0 J ad _) rfl rfl ⟨Nat.le_of_ble_eq_true rfl, Nat.le_of_ble_eq_true rfl⟩ ⟨Nat.le_of_ble_eq_true rfl, Nat.le_of_ble_eq_true rfl⟩ rfl (Nat.le_of_ble_eq_true rfl) dL_hangs_291 (fun H locs h => ?_)
                        refine lv_as (y := nI 0) ((ru_0 (show i_120 / 20 < 6 by omega) (show i_120 % 20 < 20 by omega)).trans (b2_f ha)) ?_
                        refine lv_isub hx hb dL_hangs_294 ?_
                        refine lv_as (y := nI 1) (nI_subc (by omega)) ?_
                        refine lv_iadd hx hb dL_hangs_295 ?_
                        refine lv_as (y := nI ((cnt (fun k => ¬ alw r (k / 20) (k % 20)) i_120) + 1)) (nI_addc (by omega)) ?_
                        refine lv_as (y := nI ((cnt (fun k => ¬ alw r (k / 20) (k % 20)) (i_120 + 1)))) (congrArg nI (by rw [cnt_t (P := (fun k => ¬ alw r (k / 20) (k % 20))) ha])) ?_
                        refine lv_istore_n (lv' := [(3, .int (nI ((cnt (fun k => ¬ alw r (k / 20) (k % 20)) (i_120 + 1))))), (8, .int (nI ((cnt (LW r) i_120)))), (7, .int (nI 0)), (0, .ref (ad 0)), (1, .int (nI ((cnt (fun k => r (3 * k + 192) = nI 0) 140)))), (4, .int (nI i_120)), (5, .int (nI ((cnt (LW r) i_120)))), (6, .int ((-1)))]) hx hb dL_hangs_296 rfl hl (by decide) rfl (fun ls hl => ?_)
                        refine lv_aload_n hx hb dL_hangs_297 rfl (lv_at hl 3 rfl) ?_
                        refine lv_iload hx hb dL_hangs_298 (lv_at hl 5 rfl) ?_
                        refine lv_bipush (v := nI 20) hx hb dL_hangs_300 (by decide) ?_
                        refine lv_idiv hx hb dL_hangs_302 (by decide) ?_
                        refine lv_as (y := nI ((i_120 / 20))) (pk_div (by omega) (by omega) (by omega)) ?_
                        refine lv_iload hx hb dL_hangs_303 (lv_at hl 5 rfl) ?_
                        refine lv_bipush (v := nI 20) hx hb dL_hangs_305 (by decide) ?_
                        refine lv_irem hx hb dL_hangs_307 (by decide) ?_
                        refine lv_as (y := nI ((i_120 % 20))) (pk_rem (by omega) (by omega) (by omega)) ?_
                        refine lv_iconst (v := nI 0) hx hb dL_hangs_308 (by decide) ?_
                        refine rg_civd (As := [.int (nI ((i_120 / 20))), .int (nI ((i_120 % 20))), .int (nI 0)]) (rest := []) X hl.1 h (c_X7_rule l J z ad G r hR (nI ((i_120 / 20))) (nI ((i_120 % 20))) (nI 0)) mw_195 mw_196 mw_197 mw_2 mw_198 pdX7_rule (by decide) (xo_0 J ad _) rfl rfl ⟨Nat.le_of_ble_eq_true rfl, Nat.le_of_ble_eq_true rfl⟩ ⟨Nat.le_of_ble_eq_true rfl, Nat.le_of_ble_eq_true rfl⟩ rfl (Nat.le_of_ble_eq_true rfl) dL_hangs_309 (fun H locs h => ?_)
                        refine lv_as (y := nI 0) ((ru_0 (show i_120 / 20 < 6 by omega) (show i_120 % 20 < 20 by omega)).trans (b2_f ha)) ?_
                        refine lv_iload hx hb dL_hangs_312 (lv_at hl 1 rfl) ?_
                        refine lv_if_ge (tgt := 321) hx hb dL_hangs_314 (by decide) (fun c_314 => ?_) (fun c_314 => absurd (nI_pos' (by omega)) c_314)
                        refine lv_aload_n hx hb dL_hangs_321 rfl (lv_at hl 3 rfl) ?_
                        refine lv_iload hx hb dL_hangs_322 (lv_at hl 1 rfl) ?_
                        refine lv_iconst (v := nI 2) hx hb dL_hangs_324 (by decide) ?_
                        refine rg_civd (As := [.int (nI ((cnt (LW r) i_120))), .int (nI 2)]) (rest := [.int (nI 0)]) X hl.1 h (c_X7_bylaw l J z ad G r hR (nI ((cnt (LW r) i_120))) (nI 2)) mw_157 mw_158 mw_159 mw_2 mw_160 pdX7_bylaw (by decide) (xo_0 J ad _) rfl rfl ⟨Nat.le_of_ble_eq_true rfl, Nat.le_of_ble_eq_true rfl⟩ ⟨Nat.le_of_ble_eq_true rfl, Nat.le_of_ble_eq_true rfl⟩ rfl (Nat.le_of_ble_eq_true rfl) dL_hangs_325 (fun H locs h => ?_)
                        refine lv_as (y := nI 0) ((by_at (show i_120 < 140 by omega) u1 rfl (by omega)).trans (byB_2.trans hs)) ?_
                        refine lv_icmp_ne (tgt := 409) hx hb dL_hangs_328 (by decide) (fun c_328 => absurd (by decide) c_328) (fun c_328 => ?_)
                        refine lv_aload_n hx hb dL_hangs_331 rfl (lv_at hl 3 rfl) ?_
                        refine lv_iload hx hb dL_hangs_332 (lv_at hl 5 rfl) ?_
                        refine lv_bipush (v := nI 20) hx hb dL_hangs_334 (by decide) ?_
                        refine lv_idiv hx hb dL_hangs_336 (by decide) ?_
                        refine lv_as (y := nI ((i_120 / 20))) (pk_div (by omega) (by omega) (by omega)) ?_
                        refine lv_iload hx hb dL_hangs_337 (lv_at hl 5 rfl) ?_
                        refine lv_bipush (v := nI 20) hx hb dL_hangs_339 (by decide) ?_
                        refine lv_irem hx hb dL_hangs_341 (by decide) ?_
                        refine lv_as (y := nI ((i_120 % 20))) (pk_rem (by omega) (by omega) (by omega)) ?_
                        refine lv_iconst (v := nI 1) hx hb dL_hangs_342 (by decide) ?_
                        refine rg_civd (As := [.int (nI ((i_120 / 20))), .int (nI ((i_120 % 20))), .int (nI 1)]) (rest := []) X hl.1 h (c_X7_rule l J z ad G r hR (nI ((i_120 / 20))) (nI ((i_120 % 20))) (nI 1)) mw_195 mw_196 mw_197 mw_2 mw_198 pdX7_rule (by decide) (xo_0 J ad _) rfl rfl ⟨Nat.le_of_ble_eq_true rfl, Nat.le_of_ble_eq_true rfl⟩ ⟨Nat.le_of_ble_eq_true rfl, Nat.le_of_ble_eq_true rfl⟩ rfl (Nat.le_of_ble_eq_true rfl) dL_hangs_343 (fun H locs h => ?_)
                        refine lv_as (y := nI ((i_120 / 20))) ((ru_1 (show i_120 / 20 < 6 by omega) (show i_120 % 20 < 20 by omega)).trans (rul_of hru)) ?_
                        refine lv_iload hx hb dL_hangs_346 (lv_at hl 1 rfl) ?_
                        refine lv_if_ge (tgt := 356) hx hb dL_hangs_348 (by decide) (fun c_348 => ?_) (fun c_348 => absurd (nI_pos' (by omega)) c_348)
                        refine lv_iload hx hb dL_hangs_356 (lv_at hl 2 rfl) ?_
                        refine lv_if_eq (tgt := 366) hx hb dL_hangs_358 (by decide) (fun c_358 => ?_) (fun c_358 => absurd (by decide) c_358)
                        refine lv_iload hx hb dL_hangs_366 (lv_at hl 5 rfl) ?_
                        refine lv_bipush (v := nI 20) hx hb dL_hangs_368 (by decide) ?_
                        refine lv_idiv hx hb dL_hangs_370 (by decide) ?_
                        refine lv_as (y := nI ((i_120 / 20))) (pk_div (by omega) (by omega) (by omega)) ?_
                        refine lv_icmp_ne (tgt := 409) hx hb dL_hangs_371 (by decide) (fun c_371 => absurd (rfl) c_371) (fun c_371 => ?_)
                        refine lv_aload_n hx hb dL_hangs_374 rfl (lv_at hl 3 rfl) ?_
                        refine lv_iload hx hb dL_hangs_375 (lv_at hl 5 rfl) ?_
                        refine lv_bipush (v := nI 20) hx hb dL_hangs_377 (by decide) ?_
                        refine lv_idiv hx hb dL_hangs_379 (by decide) ?_
                        refine lv_as (y := nI ((i_120 / 20))) (pk_div (by omega) (by omega) (by omega)) ?_
                        refine lv_iload hx hb dL_hangs_380 (lv_at hl 5 rfl) ?_
                        refine lv_bipush (v := nI 20) hx hb dL_hangs_382 (by decide) ?_
                        refine lv_irem hx hb dL_hangs_384 (by decide) ?_
                        refine lv_as (y := nI ((i_120 % 20))) (pk_rem (by omega) (by omega) (by omega)) ?_
                        refine lv_iconst (v := nI 2) hx hb dL_hangs_385 (by decide) ?_
                        refine rg_civd (As := [.int (nI ((i_120 / 20))), .int (nI ((i_120 % 20))), .int (nI 2)]) (rest := []) X hl.1 h (c_X7_rule l J z ad G r hR (nI ((i_120 / 20))) (nI ((i_120 % 20))) (nI 2)) mw_195 mw_196 mw_197 mw_2 mw_198 pdX7_rule (by decide) (xo_0 J ad _) rfl rfl ⟨Nat.le_of_ble_eq_true rfl, Nat.le_of_ble_eq_true rfl⟩ ⟨Nat.le_of_ble_eq_true rfl, Nat.le_of_ble_eq_true rfl⟩ rfl (Nat.le_of_ble_eq_true rfl) dL_hangs_386 (fun H locs h => ?_)
                        refine lv_as (y := r (3 * i_120 + 193)) ((ru_2s (show i_120 / 20 < 6 by omega) (show i_120 % 20 < 20 by omega) hru).trans (congrArg r (by omega))) ?_
                        refine lv_iload hx hb dL_hangs_389 (lv_at hl 1 rfl) ?_
                        refine lv_if_ge (tgt := 399) hx hb dL_hangs_391 (by decide) (fun c_391 => ?_) (fun c_391 => absurd (nI_pos' (by omega)) c_391)
                        refine lv_aload_n hx hb dL_hangs_399 rfl (lv_at hl 3 rfl) ?_
                        refine lv_iload hx hb dL_hangs_400 (lv_at hl 1 rfl) ?_
                        refine lv_iconst (v := nI 3) hx hb dL_hangs_402 (by decide) ?_
                        refine rg_civd (As := [.int (nI ((cnt (LW r) i_120))), .int (nI 3)]) (rest := [.int (r (3 * i_120 + 193))]) X hl.1 h (c_X7_bylaw l J z ad G r hR (nI ((cnt (LW r) i_120))) (nI 3)) mw_157 mw_158 mw_159 mw_2 mw_160 pdX7_bylaw (by decide) (xo_0 J ad _) rfl rfl ⟨Nat.le_of_ble_eq_true rfl, Nat.le_of_ble_eq_true rfl⟩ ⟨Nat.le_of_ble_eq_true rfl, Nat.le_of_ble_eq_true rfl⟩ rfl (Nat.le_of_ble_eq_true rfl) dL_hangs_403 (fun H locs h => ?_)
                        refine lv_as (y := r (3 * i_120 + 193)) ((by_at (show i_120 < 140 by omega) u1 rfl (by omega)).trans byB_3) ?_
                        refine lv_icmp_eq (tgt := 411) hx hb dL_hangs_406 (by decide) (fun c_406 => ?_) (fun c_406 => absurd (rfl) c_406)
                        refine lv_iinc (v := nI (i_120 + 1)) (lv' := [(4, .int (nI (i_120 + 1))), (3, .int (nI ((cnt (fun k => ¬ alw r (k / 20) (k % 20)) (i_120 + 1))))), (8, .int (nI ((cnt (LW r) i_120)))), (7, .int (nI 0)), (0, .ref (ad 0)), (1, .int (nI ((cnt (fun k => r (3 * k + 192) = nI 0) 140)))), (5, .int (nI ((cnt (LW r) i_120)))), (6, .int ((-1)))]) hx hb dL_hangs_411 hl (k := 5) rfl (nI_addc (b := 1) (by omega)) (by decide) rfl (fun ls hl => ?_)
                        refine lv_goto (tgt := 120) hx hb dL_hangs_414 (by decide) ?_
                        exact ih_120 (i_120 + 1) (by omega) (by omega) _ _ _ h (lv_sub hl [4, 5, 1, 0] rfl)
                      · have ha : alw r (i_120 / 20) (i_120 % 20) := has.mpr hs
                        refine lv_iload_n hx hb dL_hangs_277 rfl (lv_at hl 4 rfl) ?_
                        refine lv_iconst (v := nI 1) hx hb dL_hangs_278 (by decide) ?_
                        refine lv_aload_n hx hb dL_hangs_279 rfl (lv_at hl 2 rfl) ?_
                        refine lv_iload hx hb dL_hangs_280 (lv_at hl 5 rfl) ?_
                        refine lv_bipush (v := nI 20) hx hb dL_hangs_282 (by decide) ?_
                        refine lv_idiv hx hb dL_hangs_284 (by decide) ?_
                        refine lv_as (y := nI ((i_120 / 20))) (pk_div (by omega) (by omega) (by omega)) ?_
                        refine lv_iload hx hb dL_hangs_285 (lv_at hl 5 rfl) ?_
                        refine lv_bipush (v := nI 20) hx hb dL_hangs_287 (by decide) ?_
                        refine lv_irem hx hb dL_hangs_289 (by decide) ?_
                        refine lv_as (y := nI ((i_120 % 20))) (pk_rem (by omega) (by omega) (by omega)) ?_
                        refine lv_iconst (v := nI 0) hx hb dL_hangs_290 (by decide) ?_
                        refine rg_civd (As := [.int (nI ((i_120 / 20))), .int (nI ((i_120 % 20))), .int (nI 0)]) (rest := [.int (nI 1), .int (nI ((cnt (fun k => ¬ alw r (k / 20) (k % 20)) i_120)))]) X hl.1 h (c_X7_rule l J z ad G r hR (nI ((i_120 / 20))) (nI ((i_120 % 20))) (nI 0)) mw_195 mw_196 mw_197 mw_2 mw_198 pdX7_rule (by decide) (xo_0 J ad _) rfl rfl ⟨Nat.le_of_ble_eq_true rfl, Nat.le_of_ble_eq_true rfl⟩ ⟨Nat.le_of_ble_eq_true rfl, Nat.le_of_ble_eq_true rfl⟩ rfl (Nat.le_of_ble_eq_true rfl) dL_hangs_291 (fun H locs h => ?_)
                        refine lv_as (y := nI 1) ((ru_0 (show i_120 / 20 < 6 by omega) (show i_120 % 20 < 20 by omega)).trans (b2_t ha)) ?_
                        refine lv_isub hx hb dL_hangs_294 ?_
                        refine lv_as (y := nI 0) (nI_subc (by omega)) ?_
                        refine lv_iadd hx hb dL_hangs_295 ?_
                        refine lv_as (y := nI ((cnt (fun k => ¬ alw r (k / 20) (k % 20)) i_120))) (nI_addc (by omega)) ?_
                        refine lv_as (y := nI ((cnt (fun k => ¬ alw r (k / 20) (k % 20)) (i_120 + 1)))) (congrArg nI (by rw [cnt_f (P := (fun k => ¬ alw r (k / 20) (k % 20))) (fun q => q ha)])) ?_
                        refine lv_istore_n (lv' := [(3, .int (nI ((cnt (fun k => ¬ alw r (k / 20) (k % 20)) (i_120 + 1))))), (8, .int (nI ((cnt (LW r) i_120)))), (7, .int (nI 0)), (0, .ref (ad 0)), (1, .int (nI ((cnt (fun k => r (3 * k + 192) = nI 0) 140)))), (4, .int (nI i_120)), (5, .int (nI ((cnt (LW r) i_120)))), (6, .int ((-1)))]) hx hb dL_hangs_296 rfl hl (by decide) rfl (fun ls hl => ?_)
                        refine lv_aload_n hx hb dL_hangs_297 rfl (lv_at hl 3 rfl) ?_
                        refine lv_iload hx hb dL_hangs_298 (lv_at hl 5 rfl) ?_
                        refine lv_bipush (v := nI 20) hx hb dL_hangs_300 (by decide) ?_
                        refine lv_idiv hx hb dL_hangs_302 (by decide) ?_
                        refine lv_as (y := nI ((i_120 / 20))) (pk_div (by omega) (by omega) (by omega)) ?_
                        refine lv_iload hx hb dL_hangs_303 (lv_at hl 5 rfl) ?_
                        refine lv_bipush (v := nI 20) hx hb dL_hangs_305 (by decide) ?_
                        refine lv_irem hx hb dL_hangs_307 (by decide) ?_
                        refine lv_as (y := nI ((i_120 % 20))) (pk_rem (by omega) (by omega) (by omega)) ?_
                        refine lv_iconst (v := nI 0) hx hb dL_hangs_308 (by decide) ?_
                        refine rg_civd (As := [.int (nI ((i_120 / 20))), .int (nI ((i_120 % 20))), .int (nI 0)]) (rest := []) X hl.1 h (c_X7_rule l J z ad G r hR (nI ((i_120 / 20))) (nI ((i_120 % 20))) (nI 0)) mw_195 mw_196 mw_197 mw_2 mw_198 pdX7_rule (by decide) (xo_0 J ad _) rfl rfl ⟨Nat.le_of_ble_eq_true rfl, Nat.le_of_ble_eq_true rfl⟩ ⟨Nat.le_of_ble_eq_true rfl, Nat.le_of_ble_eq_true rfl⟩ rfl (Nat.le_of_ble_eq_true rfl) dL_hangs_309 (fun H locs h => ?_)
                        refine lv_as (y := nI 1) ((ru_0 (show i_120 / 20 < 6 by omega) (show i_120 % 20 < 20 by omega)).trans (b2_t ha)) ?_
                        refine lv_iload hx hb dL_hangs_312 (lv_at hl 1 rfl) ?_
                        refine lv_if_ge (tgt := 321) hx hb dL_hangs_314 (by decide) (fun c_314 => ?_) (fun c_314 => absurd (nI_pos' (by omega)) c_314)
                        refine lv_aload_n hx hb dL_hangs_321 rfl (lv_at hl 3 rfl) ?_
                        refine lv_iload hx hb dL_hangs_322 (lv_at hl 1 rfl) ?_
                        refine lv_iconst (v := nI 2) hx hb dL_hangs_324 (by decide) ?_
                        refine rg_civd (As := [.int (nI ((cnt (LW r) i_120))), .int (nI 2)]) (rest := [.int (nI 1)]) X hl.1 h (c_X7_bylaw l J z ad G r hR (nI ((cnt (LW r) i_120))) (nI 2)) mw_157 mw_158 mw_159 mw_2 mw_160 pdX7_bylaw (by decide) (xo_0 J ad _) rfl rfl ⟨Nat.le_of_ble_eq_true rfl, Nat.le_of_ble_eq_true rfl⟩ ⟨Nat.le_of_ble_eq_true rfl, Nat.le_of_ble_eq_true rfl⟩ rfl (Nat.le_of_ble_eq_true rfl) dL_hangs_325 (fun H locs h => ?_)
                        refine lv_as (y := nI 1) ((by_at (show i_120 < 140 by omega) u1 rfl (by omega)).trans (byB_2.trans hs)) ?_
                        refine lv_icmp_ne (tgt := 409) hx hb dL_hangs_328 (by decide) (fun c_328 => absurd (by decide) c_328) (fun c_328 => ?_)
                        refine lv_aload_n hx hb dL_hangs_331 rfl (lv_at hl 3 rfl) ?_
                        refine lv_iload hx hb dL_hangs_332 (lv_at hl 5 rfl) ?_
                        refine lv_bipush (v := nI 20) hx hb dL_hangs_334 (by decide) ?_
                        refine lv_idiv hx hb dL_hangs_336 (by decide) ?_
                        refine lv_as (y := nI ((i_120 / 20))) (pk_div (by omega) (by omega) (by omega)) ?_
                        refine lv_iload hx hb dL_hangs_337 (lv_at hl 5 rfl) ?_
                        refine lv_bipush (v := nI 20) hx hb dL_hangs_339 (by decide) ?_
                        refine lv_irem hx hb dL_hangs_341 (by decide) ?_
                        refine lv_as (y := nI ((i_120 % 20))) (pk_rem (by omega) (by omega) (by omega)) ?_
                        refine lv_iconst (v := nI 1) hx hb dL_hangs_342 (by decide) ?_
                        refine rg_civd (As := [.int (nI ((i_120 / 20))), .int (nI ((i_120 % 20))), .int (nI 1)]) (rest := []) X hl.1 h (c_X7_rule l J z ad G r hR (nI ((i_120 / 20))) (nI ((i_120 % 20))) (nI 1)) mw_195 mw_196 mw_197 mw_2 mw_198 pdX7_rule (by decide) (xo_0 J ad _) rfl rfl ⟨Nat.le_of_ble_eq_true rfl, Nat.le_of_ble_eq_true rfl⟩ ⟨Nat.le_of_ble_eq_true rfl, Nat.le_of_ble_eq_true rfl⟩ rfl (Nat.le_of_ble_eq_true rfl) dL_hangs_343 (fun H locs h => ?_)
                        refine lv_as (y := nI ((i_120 / 20))) ((ru_1 (show i_120 / 20 < 6 by omega) (show i_120 % 20 < 20 by omega)).trans (rul_of hru)) ?_
                        refine lv_iload hx hb dL_hangs_346 (lv_at hl 1 rfl) ?_
                        refine lv_if_ge (tgt := 356) hx hb dL_hangs_348 (by decide) (fun c_348 => ?_) (fun c_348 => absurd (nI_pos' (by omega)) c_348)
                        refine lv_iload hx hb dL_hangs_356 (lv_at hl 2 rfl) ?_
                        refine lv_if_eq (tgt := 366) hx hb dL_hangs_358 (by decide) (fun c_358 => ?_) (fun c_358 => absurd (by decide) c_358)
                        refine lv_iload hx hb dL_hangs_366 (lv_at hl 5 rfl) ?_
                        refine lv_bipush (v := nI 20) hx hb dL_hangs_368 (by decide) ?_
                        refine lv_idiv hx hb dL_hangs_370 (by decide) ?_
                        refine lv_as (y := nI ((i_120 / 20))) (pk_div (by omega) (by omega) (by omega)) ?_
                        refine lv_icmp_ne (tgt := 409) hx hb dL_hangs_371 (by decide) (fun c_371 => absurd (rfl) c_371) (fun c_371 => ?_)
                        refine lv_aload_n hx hb dL_hangs_374 rfl (lv_at hl 3 rfl) ?_
                        refine lv_iload hx hb dL_hangs_375 (lv_at hl 5 rfl) ?_
                        refine lv_bipush (v := nI 20) hx hb dL_hangs_377 (by decide) ?_
                        refine lv_idiv hx hb dL_hangs_379 (by decide) ?_
                        refine lv_as (y := nI ((i_120 / 20))) (pk_div (by omega) (by omega) (by omega)) ?_
                        refine lv_iload hx hb dL_hangs_380 (lv_at hl 5 rfl) ?_
                        refine lv_bipush (v := nI 20) hx hb dL_hangs_382 (by decide) ?_
                        refine lv_irem hx hb dL_hangs_384 (by decide) ?_
                        refine lv_as (y := nI ((i_120 % 20))) (pk_rem (by omega) (by omega) (by omega)) ?_
                        refine lv_iconst (v := nI 2) hx hb dL_hangs_385 (by decide) ?_
                        refine rg_civd (As := [.int (nI ((i_120 / 20))), .int (nI ((i_120 % 20))), .int (nI 2)]) (rest := []) X hl.1 h (c_X7_rule l J z ad G r hR (nI ((i_120 / 20))) (nI ((i_120 % 20))) (nI 2)) mw_195 mw_196 mw_197 mw_2 mw_198 pdX7_rule (by decide) (xo_0 J ad _) rfl rfl ⟨Nat.le_of_ble_eq_true rfl, Nat.le_of_ble_eq_true rfl⟩ ⟨Nat.le_of_ble_eq_true rfl, Nat.le_of_ble_eq_true rfl⟩ rfl (Nat.le_of_ble_eq_true rfl) dL_hangs_386 (fun H locs h => ?_)
                        refine lv_as (y := r (3 * i_120 + 193)) ((ru_2s (show i_120 / 20 < 6 by omega) (show i_120 % 20 < 20 by omega) hru).trans (congrArg r (by omega))) ?_
                        refine lv_iload hx hb dL_hangs_389 (lv_at hl 1 rfl) ?_
                        refine lv_if_ge (tgt := 399) hx hb dL_hangs_391 (by decide) (fun c_391 => ?_) (fun c_391 => absurd (nI_pos' (by omega)) c_391)
                        refine lv_aload_n hx hb dL_hangs_399 rfl (lv_at hl 3 rfl) ?_
                        refine lv_iload hx hb dL_hangs_400 (lv_at hl 1 rfl) ?_
                        refine lv_iconst (v := nI 3) hx hb dL_hangs_402 (by decide) ?_
                        refine rg_civd (As := [.int (nI ((cnt (LW r) i_120))), .int (nI 3)]) (rest := [.int (r (3 * i_120 + 193))]) X hl.1 h (c_X7_bylaw l J z ad G r hR (nI ((cnt (LW r) i_120))) (nI 3)) mw_157 mw_158 mw_159 mw_2 mw_160 pdX7_bylaw (by decide) (xo_0 J ad _) rfl rfl ⟨Nat.le_of_ble_eq_true rfl, Nat.le_of_ble_eq_true rfl⟩ ⟨Nat.le_of_ble_eq_true rfl, Nat.le_of_ble_eq_true rfl⟩ rfl (Nat.le_of_ble_eq_true rfl) dL_hangs_403 (fun H locs h => ?_)
                        refine lv_as (y := r (3 * i_120 + 193)) ((by_at (show i_120 < 140 by omega) u1 rfl (by omega)).trans byB_3) ?_
                        refine lv_icmp_eq (tgt := 411) hx hb dL_hangs_406 (by decide) (fun c_406 => ?_) (fun c_406 => absurd (rfl) c_406)
                        refine lv_iinc (v := nI (i_120 + 1)) (lv' := [(4, .int (nI (i_120 + 1))), (3, .int (nI ((cnt (fun k => ¬ alw r (k / 20) (k % 20)) (i_120 + 1))))), (8, .int (nI ((cnt (LW r) i_120)))), (7, .int (nI 0)), (0, .ref (ad 0)), (1, .int (nI ((cnt (fun k => r (3 * k + 192) = nI 0) 140)))), (5, .int (nI ((cnt (LW r) i_120)))), (6, .int ((-1)))]) hx hb dL_hangs_411 hl (k := 5) rfl (nI_addc (b := 1) (by omega)) (by decide) rfl (fun ls hl => ?_)
                        refine lv_goto (tgt := 120) hx hb dL_hangs_414 (by decide) ?_
                        exact ih_120 (i_120 + 1) (by omega) (by omega) _ _ _ h (lv_sub hl [4, 5, 1, 0] rfl)
                    · rw [fW_n u1, fW_y (show (120 + i_120 % 20) < 140 by omega) u2] at hl
                      refine lv_iload hx hb dL_hangs_229 (lv_at hl 5 rfl) ?_
                      refine lv_if_lt (tgt := 260) hx hb dL_hangs_231 (by decide) (fun c_231 => absurd c_231 (nI_nn (by omega))) (fun c_231 => ?_)
                      refine lv_iload hx hb dL_hangs_234 (lv_at hl 4 rfl) ?_
                      refine lv_if_lt (tgt := 256) hx hb dL_hangs_236 (by decide) (fun c_236 => ?_) (fun c_236 => absurd (by decide) c_236)
                      refine lv_iconst (v := nI 1) hx hb dL_hangs_256 (by decide) ?_
                      refine lv_goto (tgt := 261) hx hb dL_hangs_257 (by decide) ?_
                      refine lv_istore (lv' := [(7, .int (nI 1)), (0, .ref (ad 0)), (1, .int (nI ((cnt (fun k => r (3 * k + 192) = nI 0) 140)))), (3, .int (nI ((cnt (fun k => ¬ alw r (k / 20) (k % 20)) i_120)))), (4, .int (nI i_120)), (5, .int ((-1))), (6, .int (nI ((cnt (LW r) (120 + i_120 % 20)))))]) hx hb dL_hangs_261 hl (by decide) rfl (fun ls hl => ?_)
                      refine lv_iload hx hb dL_hangs_263 (lv_at hl 0 rfl) ?_
                      refine lv_if_eq (tgt := 273) hx hb dL_hangs_265 (by decide) (fun c_265 => absurd c_265 (by decide)) (fun c_265 => ?_)
                      refine lv_iload hx hb dL_hangs_268 (lv_at hl 6 rfl) ?_
                      refine lv_goto (tgt := 275) hx hb dL_hangs_270 (by decide) ?_
                      refine lv_istore (lv' := [(8, .int (nI ((cnt (LW r) (120 + i_120 % 20))))), (7, .int (nI 1)), (0, .ref (ad 0)), (1, .int (nI ((cnt (fun k => r (3 * k + 192) = nI 0) 140)))), (3, .int (nI ((cnt (fun k => ¬ alw r (k / 20) (k % 20)) i_120)))), (4, .int (nI i_120)), (5, .int ((-1))), (6, .int (nI ((cnt (LW r) (120 + i_120 % 20)))))]) hx hb dL_hangs_275 hl (by decide) rfl (fun ls hl => ?_)
                      have hru := ru_ny u1 u2
                      have has := alw_s hru
                      rw [show 60 * 6 + 3 * (i_120 % 20) + 192 = 3 * (120 + i_120 % 20) + 192 by omega] at has
                      obtain ⟨hs, -⟩ := lw_st hR (show (120 + i_120 % 20) < 140 by omega) u2
                      rcases hs with hs | hs
                      · have ha : ¬ alw r (i_120 / 20) (i_120 % 20) := fun q => absurd (hs.symm.trans (has.mp q)) (by decide)
                        refine lv_iload_n hx hb dL_hangs_277 rfl (lv_at hl 4 rfl) ?_
                        refine lv_iconst (v := nI 1) hx hb dL_hangs_278 (by decide) ?_
                        refine lv_aload_n hx hb dL_hangs_279 rfl (lv_at hl 2 rfl) ?_
                        refine lv_iload hx hb dL_hangs_280 (lv_at hl 5 rfl) ?_
                        refine lv_bipush (v := nI 20) hx hb dL_hangs_282 (by decide) ?_
                        refine lv_idiv hx hb dL_hangs_284 (by decide) ?_
                        refine lv_as (y := nI ((i_120 / 20))) (pk_div (by omega) (by omega) (by omega)) ?_
                        refine lv_iload hx hb dL_hangs_285 (lv_at hl 5 rfl) ?_
                        refine lv_bipush (v := nI 20) hx hb dL_hangs_287 (by decide) ?_
                        refine lv_irem hx hb dL_hangs_289 (by decide) ?_
                        refine lv_as (y := nI ((i_120 % 20))) (pk_rem (by omega) (by omega) (by omega)) ?_
                        refine lv_iconst (v := nI 0) hx hb dL_hangs_290 (by decide) ?_
                        refine rg_civd (As := [.int (nI ((i_120 / 20))), .int (nI ((i_120 % 20))), .int (nI 0)]) (rest := [.int (nI 1), .int (nI ((cnt (fun k => ¬ alw r (k / 20) (k % 20)) i_120)))]) X hl.1 h (c_X7_rule l J z ad G r hR (nI ((i_120 / 20))) (nI ((i_120 % 20))) (nI 0)) mw_195 mw_196 mw_197 mw_2 mw_198 pdX7_rule (by decide) (xo_0 J ad _) rfl rfl ⟨Nat.le_of_ble_eq_true rfl, Nat.le_of_ble_eq_true rfl⟩ ⟨Nat.le_of_ble_eq_true rfl, Nat.le_of_ble_eq_true rfl⟩ rfl (Nat.le_of_ble_eq_true rfl) dL_hangs_291 (fun H locs h => ?_)
                        refine lv_as (y := nI 0) ((ru_0 (show i_120 / 20 < 6 by omega) (show i_120 % 20 < 20 by omega)).trans (b2_f ha)) ?_
                        refine lv_isub hx hb dL_hangs_294 ?_
                        refine lv_as (y := nI 1) (nI_subc (by omega)) ?_
                        refine lv_iadd hx hb dL_hangs_295 ?_
                        refine lv_as (y := nI ((cnt (fun k => ¬ alw r (k / 20) (k % 20)) i_120) + 1)) (nI_addc (by omega)) ?_
                        refine lv_as (y := nI ((cnt (fun k => ¬ alw r (k / 20) (k % 20)) (i_120 + 1)))) (congrArg nI (by rw [cnt_t (P := (fun k => ¬ alw r (k / 20) (k % 20))) ha])) ?_
                        refine lv_istore_n (lv' := [(3, .int (nI ((cnt (fun k => ¬ alw r (k / 20) (k % 20)) (i_120 + 1))))), (8, .int (nI ((cnt (LW r) (120 + i_120 % 20))))), (7, .int (nI 1)), (0, .ref (ad 0)), (1, .int (nI ((cnt (fun k => r (3 * k + 192) = nI 0) 140)))), (4, .int (nI i_120)), (5, .int ((-1))), (6, .int (nI ((cnt (LW r) (120 + i_120 % 20)))))]) hx hb dL_hangs_296 rfl hl (by decide) rfl (fun ls hl => ?_)
                        refine lv_aload_n hx hb dL_hangs_297 rfl (lv_at hl 3 rfl) ?_
                        refine lv_iload hx hb dL_hangs_298 (lv_at hl 5 rfl) ?_
                        refine lv_bipush (v := nI 20) hx hb dL_hangs_300 (by decide) ?_
                        refine lv_idiv hx hb dL_hangs_302 (by decide) ?_
                        refine lv_as (y := nI ((i_120 / 20))) (pk_div (by omega) (by omega) (by omega)) ?_
                        refine lv_iload hx hb dL_hangs_303 (lv_at hl 5 rfl) ?_
                        refine lv_bipush (v := nI 20) hx hb dL_hangs_305 (by decide) ?_
                        refine lv_irem hx hb dL_hangs_307 (by decide) ?_
                        refine lv_as (y := nI ((i_120 % 20))) (pk_rem (by omega) (by omega) (by omega)) ?_
                        refine lv_iconst (v := nI 0) hx hb dL_hangs_308 (by decide) ?_
                        refine rg_civd (As := [.int (nI ((i_120 / 20))), .int (nI ((i_120 % 20))), .int (nI 0)]) (rest := []) X hl.1 h (c_X7_rule l J z ad G r hR (nI ((i_120 / 20))) (nI ((i_120 % 20))) (nI 0)) mw_195 mw_196 mw_197 mw_2 mw_198 pdX7_rule (by decide) (xo_0 J ad _) rfl rfl ⟨Nat.le_of_ble_eq_true rfl, Nat.le_of_ble_eq_true rfl⟩ ⟨Nat.le_of_ble_eq_true rfl, Nat.le_of_ble_eq_true rfl⟩ rfl (Nat.le_of_ble_eq_true rfl) dL_hangs_309 (fun H locs h => ?_)
                        refine lv_as (y := nI 0) ((ru_0 (show i_120 / 20 < 6 by omega) (show i_120 % 20 < 20 by omega)).trans (b2_f ha)) ?_
                        refine lv_iload hx hb dL_hangs_312 (lv_at hl 1 rfl) ?_
                        refine lv_if_ge (tgt := 321) hx hb dL_hangs_314 (by decide) (fun c_314 => ?_) (fun c_314 => absurd (nI_pos' (by omega)) c_314)
                        refine lv_aload_n hx hb dL_hangs_321 rfl (lv_at hl 3 rfl) ?_
                        refine lv_iload hx hb dL_hangs_322 (lv_at hl 1 rfl) ?_
                        refine lv_iconst (v := nI 2) hx hb dL_hangs_324 (by decide) ?_
                        refine rg_civd (As := [.int (nI ((cnt (LW r) (120 + i_120 % 20)))), .int (nI 2)]) (rest := [.int (nI 0)]) X hl.1 h (c_X7_bylaw l J z ad G r hR (nI ((cnt (LW r) (120 + i_120 % 20)))) (nI 2)) mw_157 mw_158 mw_159 mw_2 mw_160 pdX7_bylaw (by decide) (xo_0 J ad _) rfl rfl ⟨Nat.le_of_ble_eq_true rfl, Nat.le_of_ble_eq_true rfl⟩ ⟨Nat.le_of_ble_eq_true rfl, Nat.le_of_ble_eq_true rfl⟩ rfl (Nat.le_of_ble_eq_true rfl) dL_hangs_325 (fun H locs h => ?_)
                        refine lv_as (y := nI 0) ((by_at (show (120 + i_120 % 20) < 140 by omega) u2 rfl (by omega)).trans (byB_2.trans hs)) ?_
                        refine lv_icmp_ne (tgt := 409) hx hb dL_hangs_328 (by decide) (fun c_328 => absurd (by decide) c_328) (fun c_328 => ?_)
                        refine lv_aload_n hx hb dL_hangs_331 rfl (lv_at hl 3 rfl) ?_
                        refine lv_iload hx hb dL_hangs_332 (lv_at hl 5 rfl) ?_
                        refine lv_bipush (v := nI 20) hx hb dL_hangs_334 (by decide) ?_
                        refine lv_idiv hx hb dL_hangs_336 (by decide) ?_
                        refine lv_as (y := nI ((i_120 / 20))) (pk_div (by omega) (by omega) (by omega)) ?_
                        refine lv_iload hx hb dL_hangs_337 (lv_at hl 5 rfl) ?_
                        refine lv_bipush (v := nI 20) hx hb dL_hangs_339 (by decide) ?_
                        refine lv_irem hx hb dL_hangs_341 (by decide) ?_
                        refine lv_as (y := nI ((i_120 % 20))) (pk_rem (by omega) (by omega) (by omega)) ?_
                        refine lv_iconst (v := nI 1) hx hb dL_hangs_342 (by decide) ?_
                        refine rg_civd (As := [.int (nI ((i_120 / 20))), .int (nI ((i_120 % 20))), .int (nI 1)]) (rest := []) X hl.1 h (c_X7_rule l J z ad G r hR (nI ((i_120 / 20))) (nI ((i_120 % 20))) (nI 1)) mw_195 mw_196 mw_197 mw_2 mw_198 pdX7_rule (by decide) (xo_0 J ad _) rfl rfl ⟨Nat.le_of_ble_eq_true rfl, Nat.le_of_ble_eq_true rfl⟩ ⟨Nat.le_of_ble_eq_true rfl, Nat.le_of_ble_eq_true rfl⟩ rfl (Nat.le_of_ble_eq_true rfl) dL_hangs_343 (fun H locs h => ?_)
                        refine lv_as (y := nI 6) ((ru_1 (show i_120 / 20 < 6 by omega) (show i_120 % 20 < 20 by omega)).trans (rul_of hru)) ?_
                        refine lv_iload hx hb dL_hangs_346 (lv_at hl 1 rfl) ?_
                        refine lv_if_ge (tgt := 356) hx hb dL_hangs_348 (by decide) (fun c_348 => ?_) (fun c_348 => absurd (nI_pos' (by omega)) c_348)
                        refine lv_iload hx hb dL_hangs_356 (lv_at hl 2 rfl) ?_
                        refine lv_if_eq (tgt := 366) hx hb dL_hangs_358 (by decide) (fun c_358 => absurd c_358 (by decide)) (fun c_358 => ?_)
                        refine lv_bipush (v := nI 6) hx hb dL_hangs_361 (by decide) ?_
                        refine lv_goto (tgt := 371) hx hb dL_hangs_363 (by decide) ?_
                        refine lv_icmp_ne (tgt := 409) hx hb dL_hangs_371 (by decide) (fun c_371 => absurd (by decide) c_371) (fun c_371 => ?_)
                        refine lv_aload_n hx hb dL_hangs_374 rfl (lv_at hl 3 rfl) ?_
                        refine lv_iload hx hb dL_hangs_375 (lv_at hl 5 rfl) ?_
                        refine lv_bipush (v := nI 20) hx hb dL_hangs_377 (by decide) ?_
                        refine lv_idiv hx hb dL_hangs_379 (by decide) ?_
                        refine lv_as (y := nI ((i_120 / 20))) (pk_div (by omega) (by omega) (by omega)) ?_
                        refine lv_iload hx hb dL_hangs_380 (lv_at hl 5 rfl) ?_
                        refine lv_bipush (v := nI 20) hx hb dL_hangs_382 (by decide) ?_
                        refine lv_irem hx hb dL_hangs_384 (by decide) ?_
                        refine lv_as (y := nI ((i_120 % 20))) (pk_rem (by omega) (by omega) (by omega)) ?_
                        refine lv_iconst (v := nI 2) hx hb dL_hangs_385 (by decide) ?_
                        refine rg_civd (As := [.int (nI ((i_120 / 20))), .int (nI ((i_120 % 20))), .int (nI 2)]) (rest := []) X hl.1 h (c_X7_rule l J z ad G r hR (nI ((i_120 / 20))) (nI ((i_120 % 20))) (nI 2)) mw_195 mw_196 mw_197 mw_2 mw_198 pdX7_rule (by decide) (xo_0 J ad _) rfl rfl ⟨Nat.le_of_ble_eq_true rfl, Nat.le_of_ble_eq_true rfl⟩ ⟨Nat.le_of_ble_eq_true rfl, Nat.le_of_ble_eq_true rfl⟩ rfl (Nat.le_of_ble_eq_true rfl) dL_hangs_386 (fun H locs h => ?_)
                        refine lv_as (y := r (3 * (120 + i_120 % 20) + 193)) ((ru_2s (show i_120 / 20 < 6 by omega) (show i_120 % 20 < 20 by omega) hru).trans (congrArg r (by omega))) ?_
                        refine lv_iload hx hb dL_hangs_389 (lv_at hl 1 rfl) ?_
                        refine lv_if_ge (tgt := 399) hx hb dL_hangs_391 (by decide) (fun c_391 => ?_) (fun c_391 => absurd (nI_pos' (by omega)) c_391)
                        refine lv_aload_n hx hb dL_hangs_399 rfl (lv_at hl 3 rfl) ?_
                        refine lv_iload hx hb dL_hangs_400 (lv_at hl 1 rfl) ?_
                        refine lv_iconst (v := nI 3) hx hb dL_hangs_402 (by decide) ?_
                        refine rg_civd (As := [.int (nI ((cnt (LW r) (120 + i_120 % 20)))), .int (nI 3)]) (rest := [.int (r (3 * (120 + i_120 % 20) + 193))]) X hl.1 h (c_X7_bylaw l J z ad G r hR (nI ((cnt (LW r) (120 + i_120 % 20)))) (nI 3)) mw_157 mw_158 mw_159 mw_2 mw_160 pdX7_bylaw (by decide) (xo_0 J ad _) rfl rfl ⟨Nat.le_of_ble_eq_true rfl, Nat.le_of_ble_eq_true rfl⟩ ⟨Nat.le_of_ble_eq_true rfl, Nat.le_of_ble_eq_true rfl⟩ rfl (Nat.le_of_ble_eq_true rfl) dL_hangs_403 (fun H locs h => ?_)
                        refine lv_as (y := r (3 * (120 + i_120 % 20) + 193)) ((by_at (show (120 + i_120 % 20) < 140 by omega) u2 rfl (by omega)).trans byB_3) ?_
                        refine lv_icmp_eq (tgt := 411) hx hb dL_hangs_406 (by decide) (fun c_406 => ?_) (fun c_406 => absurd (rfl) c_406)
                        refine lv_iinc (v := nI (i_120 + 1)) (lv' := [(4, .int (nI (i_120 + 1))), (3, .int (nI ((cnt (fun k => ¬ alw r (k / 20) (k % 20)) (i_120 + 1))))), (8, .int (nI ((cnt (LW r) (120 + i_120 % 20))))), (7, .int (nI 1)), (0, .ref (ad 0)), (1, .int (nI ((cnt (fun k => r (3 * k + 192) = nI 0) 140)))), (5, .int ((-1))), (6, .int (nI ((cnt (LW r) (120 + i_120 % 20)))))]) hx hb dL_hangs_411 hl (k := 5) rfl (nI_addc (b := 1) (by omega)) (by decide) rfl (fun ls hl => ?_)
                        refine lv_goto (tgt := 120) hx hb dL_hangs_414 (by decide) ?_
                        exact ih_120 (i_120 + 1) (by omega) (by omega) _ _ _ h (lv_sub hl [4, 5, 1, 0] rfl)
                      · have ha : alw r (i_120 / 20) (i_120 % 20) := has.mpr hs
                        refine lv_iload_n hx hb dL_hangs_277 rfl (lv_at hl 4 rfl) ?_
                        refine lv_iconst (v := nI 1) hx hb dL_hangs_278 (by decide) ?_
                        refine lv_aload_n hx hb dL_hangs_279 rfl (lv_at hl 2 rfl) ?_
                        refine lv_iload hx hb dL_hangs_280 (lv_at hl 5 rfl) ?_
                        refine lv_bipush (v := nI 20) hx hb dL_hangs_282 (by decide) ?_
                        refine lv_idiv hx hb dL_hangs_284 (by decide) ?_
                        refine lv_as (y := nI ((i_120 / 20))) (pk_div (by omega) (by omega) (by omega)) ?_
                        refine lv_iload hx hb dL_hangs_285 (lv_at hl 5 rfl) ?_
                        refine lv_bipush (v := nI 20) hx hb dL_hangs_287 (by decide) ?_
                        refine lv_irem hx hb dL_hangs_289 (by decide) ?_
                        refine lv_as (y := nI ((i_120 % 20))) (pk_rem (by omega) (by omega) (by omega)) ?_
                        refine lv_iconst (v := nI 0) hx hb dL_hangs_290 (by decide) ?_
                        refine rg_civd (As := [.int (nI ((i_120 / 20))), .int (nI ((i_120 % 20))), .int (nI 0)]) (rest := [.int (nI 1), .int (nI ((cnt (fun k => ¬ alw r (k / 20) (k % 20)) i_120)))]) X hl.1 h (c_X7_rule l J z ad G r hR (nI ((i_120 / 20))) (nI ((i_120 % 20))) (nI 0)) mw_195 mw_196 mw_197 mw_2 mw_198 pdX7_rule (by decide) (xo_0 J ad _) rfl rfl ⟨Nat.le_of_ble_eq_true rfl, Nat.le_of_ble_eq_true rfl⟩ ⟨Nat.le_of_ble_eq_true rfl, Nat.le_of_ble_eq_true rfl⟩ rfl (Nat.le_of_ble_eq_true rfl) dL_hangs_291 (fun H locs h => ?_)
                        refine lv_as (y := nI 1) ((ru_0 (show i_120 / 20 < 6 by omega) (show i_120 % 20 < 20 by omega)).trans (b2_t ha)) ?_
                        refine lv_isub hx hb dL_hangs_294 ?_
                        refine lv_as (y := nI 0) (nI_subc (by omega)) ?_
                        refine lv_iadd hx hb dL_hangs_295 ?_
                        refine lv_as (y := nI ((cnt (fun k => ¬ alw r (k / 20) (k % 20)) i_120))) (nI_addc (by omega)) ?_
                        refine lv_as (y := nI ((cnt (fun k => ¬ alw r (k / 20) (k % 20)) (i_120 + 1)))) (congrArg nI (by rw [cnt_f (P := (fun k => ¬ alw r (k / 20) (k % 20))) (fun q => q ha)])) ?_
                        refine lv_istore_n (lv' := [(3, .int (nI ((cnt (fun k => ¬ alw r (k / 20) (k % 20)) (i_120 + 1))))), (8, .int (nI ((cnt (LW r) (120 + i_120 % 20))))), (7, .int (nI 1)), (0, .ref (ad 0)), (1, .int (nI ((cnt (fun k => r (3 * k + 192) = nI 0) 140)))), (4, .int (nI i_120)), (5, .int ((-1))), (6, .int (nI ((cnt (LW r) (120 + i_120 % 20)))))]) hx hb dL_hangs_296 rfl hl (by decide) rfl (fun ls hl => ?_)
                        refine lv_aload_n hx hb dL_hangs_297 rfl (lv_at hl 3 rfl) ?_
                        refine lv_iload hx hb dL_hangs_298 (lv_at hl 5 rfl) ?_
                        refine lv_bipush (v := nI 20) hx hb dL_hangs_300 (by decide) ?_
                        refine lv_idiv hx hb dL_hangs_302 (by decide) ?_
                        refine lv_as (y := nI ((i_120 / 20))) (pk_div (by omega) (by omega) (by omega)) ?_
                        refine lv_iload hx hb dL_hangs_303 (lv_at hl 5 rfl) ?_
                        refine lv_bipush (v := nI 20) hx hb dL_hangs_305 (by decide) ?_
                        refine lv_irem hx hb dL_hangs_307 (by decide) ?_
                        refine lv_as (y := nI ((i_120 % 20))) (pk_rem (by omega) (by omega) (by omega)) ?_
                        refine lv_iconst (v := nI 0) hx hb dL_hangs_308 (by decide) ?_
                        refine rg_civd (As := [.int (nI ((i_120 / 20))), .int (nI ((i_120 % 20))), .int (nI 0)]) (rest := []) X hl.1 h (c_X7_rule l J z ad G r hR (nI ((i_120 / 20))) (nI ((i_120 % 20))) (nI 0)) mw_195 mw_196 mw_197 mw_2 mw_198 pdX7_rule (by decide) (xo_0 J ad _) rfl rfl ⟨Nat.le_of_ble_eq_true rfl, Nat.le_of_ble_eq_true rfl⟩ ⟨Nat.le_of_ble_eq_true rfl, Nat.le_of_ble_eq_true rfl⟩ rfl (Nat.le_of_ble_eq_true rfl) dL_hangs_309 (fun H locs h => ?_)
                        refine lv_as (y := nI 1) ((ru_0 (show i_120 / 20 < 6 by omega) (show i_120 % 20 < 20 by omega)).trans (b2_t ha)) ?_
                        refine lv_iload hx hb dL_hangs_312 (lv_at hl 1 rfl) ?_
                        refine lv_if_ge (tgt := 321) hx hb dL_hangs_314 (by decide) (fun c_314 => ?_) (fun c_314 => absurd (nI_pos' (by omega)) c_314)
                        refine lv_aload_n hx hb dL_hangs_321 rfl (lv_at hl 3 rfl) ?_
                        refine lv_iload hx hb dL_hangs_322 (lv_at hl 1 rfl) ?_
                        refine lv_iconst (v := nI 2) hx hb dL_hangs_324 (by decide) ?_
                        refine rg_civd (As := [.int (nI ((cnt (LW r) (120 + i_120 % 20)))), .int (nI 2)]) (rest := [.int (nI 1)]) X hl.1 h (c_X7_bylaw l J z ad G r hR (nI ((cnt (LW r) (120 + i_120 % 20)))) (nI 2)) mw_157 mw_158 mw_159 mw_2 mw_160 pdX7_bylaw (by decide) (xo_0 J ad _) rfl rfl ⟨Nat.le_of_ble_eq_true rfl, Nat.le_of_ble_eq_true rfl⟩ ⟨Nat.le_of_ble_eq_true rfl, Nat.le_of_ble_eq_true rfl⟩ rfl (Nat.le_of_ble_eq_true rfl) dL_hangs_325 (fun H locs h => ?_)
                        refine lv_as (y := nI 1) ((by_at (show (120 + i_120 % 20) < 140 by omega) u2 rfl (by omega)).trans (byB_2.trans hs)) ?_
                        refine lv_icmp_ne (tgt := 409) hx hb dL_hangs_328 (by decide) (fun c_328 => absurd (by decide) c_328) (fun c_328 => ?_)
                        refine lv_aload_n hx hb dL_hangs_331 rfl (lv_at hl 3 rfl) ?_
                        refine lv_iload hx hb dL_hangs_332 (lv_at hl 5 rfl) ?_
                        refine lv_bipush (v := nI 20) hx hb dL_hangs_334 (by decide) ?_
                        refine lv_idiv hx hb dL_hangs_336 (by decide) ?_
                        refine lv_as (y := nI ((i_120 / 20))) (pk_div (by omega) (by omega) (by omega)) ?_
                        refine lv_iload hx hb dL_hangs_337 (lv_at hl 5 rfl) ?_
                        refine lv_bipush (v := nI 20) hx hb dL_hangs_339 (by decide) ?_
                        refine lv_irem hx hb dL_hangs_341 (by decide) ?_
                        refine lv_as (y := nI ((i_120 % 20))) (pk_rem (by omega) (by omega) (by omega)) ?_
                        refine lv_iconst (v := nI 1) hx hb dL_hangs_342 (by decide) ?_
                        refine rg_civd (As := [.int (nI ((i_120 / 20))), .int (nI ((i_120 % 20))), .int (nI 1)]) (rest := []) X hl.1 h (c_X7_rule l J z ad G r hR (nI ((i_120 / 20))) (nI ((i_120 % 20))) (nI 1)) mw_195 mw_196 mw_197 mw_2 mw_198 pdX7_rule (by decide) (xo_0 J ad _) rfl rfl ⟨Nat.le_of_ble_eq_true rfl, Nat.le_of_ble_eq_true rfl⟩ ⟨Nat.le_of_ble_eq_true rfl, Nat.le_of_ble_eq_true rfl⟩ rfl (Nat.le_of_ble_eq_true rfl) dL_hangs_343 (fun H locs h => ?_)
                        refine lv_as (y := nI 6) ((ru_1 (show i_120 / 20 < 6 by omega) (show i_120 % 20 < 20 by omega)).trans (rul_of hru)) ?_
                        refine lv_iload hx hb dL_hangs_346 (lv_at hl 1 rfl) ?_
                        refine lv_if_ge (tgt := 356) hx hb dL_hangs_348 (by decide) (fun c_348 => ?_) (fun c_348 => absurd (nI_pos' (by omega)) c_348)
                        refine lv_iload hx hb dL_hangs_356 (lv_at hl 2 rfl) ?_
                        refine lv_if_eq (tgt := 366) hx hb dL_hangs_358 (by decide) (fun c_358 => absurd c_358 (by decide)) (fun c_358 => ?_)
                        refine lv_bipush (v := nI 6) hx hb dL_hangs_361 (by decide) ?_
                        refine lv_goto (tgt := 371) hx hb dL_hangs_363 (by decide) ?_
                        refine lv_icmp_ne (tgt := 409) hx hb dL_hangs_371 (by decide) (fun c_371 => absurd (by decide) c_371) (fun c_371 => ?_)
                        refine lv_aload_n hx hb dL_hangs_374 rfl (lv_at hl 3 rfl) ?_
                        refine lv_iload hx hb dL_hangs_375 (lv_at hl 5 rfl) ?_
                        refine lv_bipush (v := nI 20) hx hb dL_hangs_377 (by decide) ?_
                        refine lv_idiv hx hb dL_hangs_379 (by decide) ?_
                        refine lv_as (y := nI ((i_120 / 20))) (pk_div (by omega) (by omega) (by omega)) ?_
                        refine lv_iload hx hb dL_hangs_380 (lv_at hl 5 rfl) ?_
                        refine lv_bipush (v := nI 20) hx hb dL_hangs_382 (by decide) ?_
                        refine lv_irem hx hb dL_hangs_384 (by decide) ?_
                        refine lv_as (y := nI ((i_120 % 20))) (pk_rem (by omega) (by omega) (by omega)) ?_
                        refine lv_iconst (v := nI 2) hx hb dL_hangs_385 (by decide) ?_
                        refine rg_civd (As := [.int (nI ((i_120 / 20))), .int (nI ((i_120 % 20))), .int (nI 2)]) (rest := []) X hl.1 h (c_X7_rule l J z ad G r hR (nI ((i_120 / 20))) (nI ((i_120 % 20))) (nI 2)) mw_195 mw_196 mw_197 mw_2 mw_198 pdX7_rule (by decide) (xo_0 J ad _) rfl rfl ⟨Nat.le_of_ble_eq_true rfl, Nat.le_of_ble_eq_true rfl⟩ ⟨Nat.le_of_ble_eq_true rfl, Nat.le_of_ble_eq_true rfl⟩ rfl (Nat.le_of_ble_eq_true rfl) dL_hangs_386 (fun H locs h => ?_)
                        refine lv_as (y := r (3 * (120 + i_120 % 20) + 193)) ((ru_2s (show i_120 / 20 < 6 by omega) (show i_120 % 20 < 20 by omega) hru).trans (congrArg r (by omega))) ?_
                        refine lv_iload hx hb dL_hangs_389 (lv_at hl 1 rfl) ?_
                        refine lv_if_ge (tgt := 399) hx hb dL_hangs_391 (by decide) (fun c_391 => ?_) (fun c_391 => absurd (nI_pos' (by omega)) c_391)
                        refine lv_aload_n hx hb dL_hangs_399 rfl (lv_at hl 3 rfl) ?_
                        refine lv_iload hx hb dL_hangs_400 (lv_at hl 1 rfl) ?_
                        refine lv_iconst (v := nI 3) hx hb dL_hangs_402 (by decide) ?_
                        refine rg_civd (As := [.int (nI ((cnt (LW r) (120 + i_120 % 20)))), .int (nI 3)]) (rest := [.int (r (3 * (120 + i_120 % 20) + 193))]) X hl.1 h (c_X7_bylaw l J z ad G r hR (nI ((cnt (LW r) (120 + i_120 % 20)))) (nI 3)) mw_157 mw_158 mw_159 mw_2 mw_160 pdX7_bylaw (by decide) (xo_0 J ad _) rfl rfl ⟨Nat.le_of_ble_eq_true rfl, Nat.le_of_ble_eq_true rfl⟩ ⟨Nat.le_of_ble_eq_true rfl, Nat.le_of_ble_eq_true rfl⟩ rfl (Nat.le_of_ble_eq_true rfl) dL_hangs_403 (fun H locs h => ?_)
                        refine lv_as (y := r (3 * (120 + i_120 % 20) + 193)) ((by_at (show (120 + i_120 % 20) < 140 by omega) u2 rfl (by omega)).trans byB_3) ?_
                        refine lv_icmp_eq (tgt := 411) hx hb dL_hangs_406 (by decide) (fun c_406 => ?_) (fun c_406 => absurd (rfl) c_406)
                        refine lv_iinc (v := nI (i_120 + 1)) (lv' := [(4, .int (nI (i_120 + 1))), (3, .int (nI ((cnt (fun k => ¬ alw r (k / 20) (k % 20)) (i_120 + 1))))), (8, .int (nI ((cnt (LW r) (120 + i_120 % 20))))), (7, .int (nI 1)), (0, .ref (ad 0)), (1, .int (nI ((cnt (fun k => r (3 * k + 192) = nI 0) 140)))), (5, .int ((-1))), (6, .int (nI ((cnt (LW r) (120 + i_120 % 20)))))]) hx hb dL_hangs_411 hl (k := 5) rfl (nI_addc (b := 1) (by omega)) (by decide) rfl (fun ls hl => ?_)
                        refine lv_goto (tgt := 120) hx hb dL_hangs_414 (by decide) ?_
                        exact ih_120 (i_120 + 1) (by omega) (by omega) _ _ _ h (lv_sub hl [4, 5, 1, 0] rfl)
                    · rw [fW_n u1, fW_n u2] at hl
                      refine lv_iload hx hb dL_hangs_229 (lv_at hl 5 rfl) ?_
                      refine lv_if_lt (tgt := 260) hx hb dL_hangs_231 (by decide) (fun c_231 => ?_) (fun c_231 => absurd (by decide) c_231)
                      refine lv_iconst (v := nI 0) hx hb dL_hangs_260 (by decide) ?_
                      refine lv_istore (lv' := [(7, .int (nI 0)), (0, .ref (ad 0)), (1, .int (nI ((cnt (fun k => r (3 * k + 192) = nI 0) 140)))), (3, .int (nI ((cnt (fun k => ¬ alw r (k / 20) (k % 20)) i_120)))), (4, .int (nI i_120)), (5, .int ((-1))), (6, .int ((-1)))]) hx hb dL_hangs_261 hl (by decide) rfl (fun ls hl => ?_)
                      refine lv_iload hx hb dL_hangs_263 (lv_at hl 0 rfl) ?_
                      refine lv_if_eq (tgt := 273) hx hb dL_hangs_265 (by decide) (fun c_265 => ?_) (fun c_265 => absurd (by decide) c_265)
                      refine lv_iload hx hb dL_hangs_273 (lv_at hl 5 rfl) ?_
                      refine lv_istore (lv' := [(8, .int ((-1))), (7, .int (nI 0)), (0, .ref (ad 0)), (1, .int (nI ((cnt (fun k => r (3 * k + 192) = nI 0) 140)))), (3, .int (nI ((cnt (fun k => ¬ alw r (k / 20) (k % 20)) i_120)))), (4, .int (nI i_120)), (5, .int ((-1))), (6, .int ((-1)))]) hx hb dL_hangs_275 hl (by decide) rfl (fun ls hl => ?_)
                      have hru := ru_nn u1 u2
                      have ha := alw_n hru
                      refine lv_iload_n hx hb dL_hangs_277 rfl (lv_at hl 4 rfl) ?_
                      refine lv_iconst (v := nI 1) hx hb dL_hangs_278 (by decide) ?_
                      refine lv_aload_n hx hb dL_hangs_279 rfl (lv_at hl 2 rfl) ?_
                      refine lv_iload hx hb dL_hangs_280 (lv_at hl 5 rfl) ?_
                      refine lv_bipush (v := nI 20) hx hb dL_hangs_282 (by decide) ?_
                      refine lv_idiv hx hb dL_hangs_284 (by decide) ?_
                      refine lv_as (y := nI ((i_120 / 20))) (pk_div (by omega) (by omega) (by omega)) ?_
                      refine lv_iload hx hb dL_hangs_285 (lv_at hl 5 rfl) ?_
                      refine lv_bipush (v := nI 20) hx hb dL_hangs_287 (by decide) ?_
                      refine lv_irem hx hb dL_hangs_289 (by decide) ?_
                      refine lv_as (y := nI ((i_120 % 20))) (pk_rem (by omega) (by omega) (by omega)) ?_
                      refine lv_iconst (v := nI 0) hx hb dL_hangs_290 (by decide) ?_
                      refine rg_civd (As := [.int (nI ((i_120 / 20))), .int (nI ((i_120 % 20))), .int (nI 0)]) (rest := [.int (nI 1), .int (nI ((cnt (fun k => ¬ alw r (k / 20) (k % 20)) i_120)))]) X hl.1 h (c_X7_rule l J z ad G r hR (nI ((i_120 / 20))) (nI ((i_120 % 20))) (nI 0)) mw_195 mw_196 mw_197 mw_2 mw_198 pdX7_rule (by decide) (xo_0 J ad _) rfl rfl ⟨Nat.le_of_ble_eq_true rfl, Nat.le_of_ble_eq_true rfl⟩ ⟨Nat.le_of_ble_eq_true rfl, Nat.le_of_ble_eq_true rfl⟩ rfl (Nat.le_of_ble_eq_true rfl) dL_hangs_291 (fun H locs h => ?_)
                      refine lv_as (y := nI 1) ((ru_0 (show i_120 / 20 < 6 by omega) (show i_120 % 20 < 20 by omega)).trans (b2_t ha)) ?_
                      refine lv_isub hx hb dL_hangs_294 ?_
                      refine lv_as (y := nI 0) (nI_subc (by omega)) ?_
                      refine lv_iadd hx hb dL_hangs_295 ?_
                      refine lv_as (y := nI ((cnt (fun k => ¬ alw r (k / 20) (k % 20)) i_120))) (nI_addc (by omega)) ?_
                      refine lv_as (y := nI ((cnt (fun k => ¬ alw r (k / 20) (k % 20)) (i_120 + 1)))) (congrArg nI (by rw [cnt_f (P := (fun k => ¬ alw r (k / 20) (k % 20))) (fun q => q ha)])) ?_
                      refine lv_istore_n (lv' := [(3, .int (nI ((cnt (fun k => ¬ alw r (k / 20) (k % 20)) (i_120 + 1))))), (8, .int ((-1))), (7, .int (nI 0)), (0, .ref (ad 0)), (1, .int (nI ((cnt (fun k => r (3 * k + 192) = nI 0) 140)))), (4, .int (nI i_120)), (5, .int ((-1))), (6, .int ((-1)))]) hx hb dL_hangs_296 rfl hl (by decide) rfl (fun ls hl => ?_)
                      refine lv_aload_n hx hb dL_hangs_297 rfl (lv_at hl 3 rfl) ?_
                      refine lv_iload hx hb dL_hangs_298 (lv_at hl 5 rfl) ?_
                      refine lv_bipush (v := nI 20) hx hb dL_hangs_300 (by decide) ?_
                      refine lv_idiv hx hb dL_hangs_302 (by decide) ?_
                      refine lv_as (y := nI ((i_120 / 20))) (pk_div (by omega) (by omega) (by omega)) ?_
                      refine lv_iload hx hb dL_hangs_303 (lv_at hl 5 rfl) ?_
                      refine lv_bipush (v := nI 20) hx hb dL_hangs_305 (by decide) ?_
                      refine lv_irem hx hb dL_hangs_307 (by decide) ?_
                      refine lv_as (y := nI ((i_120 % 20))) (pk_rem (by omega) (by omega) (by omega)) ?_
                      refine lv_iconst (v := nI 0) hx hb dL_hangs_308 (by decide) ?_
                      refine rg_civd (As := [.int (nI ((i_120 / 20))), .int (nI ((i_120 % 20))), .int (nI 0)]) (rest := []) X hl.1 h (c_X7_rule l J z ad G r hR (nI ((i_120 / 20))) (nI ((i_120 % 20))) (nI 0)) mw_195 mw_196 mw_197 mw_2 mw_198 pdX7_rule (by decide) (xo_0 J ad _) rfl rfl ⟨Nat.le_of_ble_eq_true rfl, Nat.le_of_ble_eq_true rfl⟩ ⟨Nat.le_of_ble_eq_true rfl, Nat.le_of_ble_eq_true rfl⟩ rfl (Nat.le_of_ble_eq_true rfl) dL_hangs_309 (fun H locs h => ?_)
                      refine lv_as (y := nI 1) ((ru_0 (show i_120 / 20 < 6 by omega) (show i_120 % 20 < 20 by omega)).trans (b2_t ha)) ?_
                      refine lv_iload hx hb dL_hangs_312 (lv_at hl 1 rfl) ?_
                      refine lv_if_ge (tgt := 321) hx hb dL_hangs_314 (by decide) (fun c_314 => absurd c_314 (by decide)) (fun c_314 => ?_)
                      refine lv_iconst (v := nI 1) hx hb dL_hangs_317 (by decide) ?_
                      refine lv_goto (tgt := 328) hx hb dL_hangs_318 (by decide) ?_
                      refine lv_icmp_ne (tgt := 409) hx hb dL_hangs_328 (by decide) (fun c_328 => absurd (by decide) c_328) (fun c_328 => ?_)
                      refine lv_aload_n hx hb dL_hangs_331 rfl (lv_at hl 3 rfl) ?_
                      refine lv_iload hx hb dL_hangs_332 (lv_at hl 5 rfl) ?_
                      refine lv_bipush (v := nI 20) hx hb dL_hangs_334 (by decide) ?_
                      refine lv_idiv hx hb dL_hangs_336 (by decide) ?_
                      refine lv_as (y := nI ((i_120 / 20))) (pk_div (by omega) (by omega) (by omega)) ?_
                      refine lv_iload hx hb dL_hangs_337 (lv_at hl 5 rfl) ?_
                      refine lv_bipush (v := nI 20) hx hb dL_hangs_339 (by decide) ?_
                      refine lv_irem hx hb dL_hangs_341 (by decide) ?_
                      refine lv_as (y := nI ((i_120 % 20))) (pk_rem (by omega) (by omega) (by omega)) ?_
                      refine lv_iconst (v := nI 1) hx hb dL_hangs_342 (by decide) ?_
                      refine rg_civd (As := [.int (nI ((i_120 / 20))), .int (nI ((i_120 % 20))), .int (nI 1)]) (rest := []) X hl.1 h (c_X7_rule l J z ad G r hR (nI ((i_120 / 20))) (nI ((i_120 % 20))) (nI 1)) mw_195 mw_196 mw_197 mw_2 mw_198 pdX7_rule (by decide) (xo_0 J ad _) rfl rfl ⟨Nat.le_of_ble_eq_true rfl, Nat.le_of_ble_eq_true rfl⟩ ⟨Nat.le_of_ble_eq_true rfl, Nat.le_of_ble_eq_true rfl⟩ rfl (Nat.le_of_ble_eq_true rfl) dL_hangs_343 (fun H locs h => ?_)
                      refine lv_as (y := (-5)) ((ru_1 (show i_120 / 20 < 6 by omega) (show i_120 % 20 < 20 by omega)).trans (by rw [hru]; rfl)) ?_
                      refine lv_iload hx hb dL_hangs_346 (lv_at hl 1 rfl) ?_
                      refine lv_if_ge (tgt := 356) hx hb dL_hangs_348 (by decide) (fun c_348 => absurd c_348 (by decide)) (fun c_348 => ?_)
                      refine lv_bipush (v := (-5)) hx hb dL_hangs_351 (by decide) ?_
                      refine lv_goto (tgt := 371) hx hb dL_hangs_353 (by decide) ?_
                      refine lv_icmp_ne (tgt := 409) hx hb dL_hangs_371 (by decide) (fun c_371 => absurd (by decide) c_371) (fun c_371 => ?_)
                      refine lv_aload_n hx hb dL_hangs_374 rfl (lv_at hl 3 rfl) ?_
                      refine lv_iload hx hb dL_hangs_375 (lv_at hl 5 rfl) ?_
                      refine lv_bipush (v := nI 20) hx hb dL_hangs_377 (by decide) ?_
                      refine lv_idiv hx hb dL_hangs_379 (by decide) ?_
                      refine lv_as (y := nI ((i_120 / 20))) (pk_div (by omega) (by omega) (by omega)) ?_
                      refine lv_iload hx hb dL_hangs_380 (lv_at hl 5 rfl) ?_
                      refine lv_bipush (v := nI 20) hx hb dL_hangs_382 (by decide) ?_
                      refine lv_irem hx hb dL_hangs_384 (by decide) ?_
                      refine lv_as (y := nI ((i_120 % 20))) (pk_rem (by omega) (by omega) (by omega)) ?_
                      refine lv_iconst (v := nI 2) hx hb dL_hangs_385 (by decide) ?_
                      refine rg_civd (As := [.int (nI ((i_120 / 20))), .int (nI ((i_120 % 20))), .int (nI 2)]) (rest := []) X hl.1 h (c_X7_rule l J z ad G r hR (nI ((i_120 / 20))) (nI ((i_120 % 20))) (nI 2)) mw_195 mw_196 mw_197 mw_2 mw_198 pdX7_rule (by decide) (xo_0 J ad _) rfl rfl ⟨Nat.le_of_ble_eq_true rfl, Nat.le_of_ble_eq_true rfl⟩ ⟨Nat.le_of_ble_eq_true rfl, Nat.le_of_ble_eq_true rfl⟩ rfl (Nat.le_of_ble_eq_true rfl) dL_hangs_386 (fun H locs h => ?_)
                      refine lv_as (y := (-5)) (ru_2n (show i_120 / 20 < 6 by omega) (show i_120 % 20 < 20 by omega) hru) ?_
                      refine lv_iload hx hb dL_hangs_389 (lv_at hl 1 rfl) ?_
                      refine lv_if_ge (tgt := 399) hx hb dL_hangs_391 (by decide) (fun c_391 => absurd c_391 (by decide)) (fun c_391 => ?_)
                      refine lv_bipush (v := (-5)) hx hb dL_hangs_394 (by decide) ?_
                      refine lv_goto (tgt := 406) hx hb dL_hangs_396 (by decide) ?_
                      refine lv_icmp_eq (tgt := 411) hx hb dL_hangs_406 (by decide) (fun c_406 => ?_) (fun c_406 => absurd (by decide) c_406)
                      refine lv_iinc (v := nI (i_120 + 1)) (lv' := [(4, .int (nI (i_120 + 1))), (3, .int (nI ((cnt (fun k => ¬ alw r (k / 20) (k % 20)) (i_120 + 1))))), (8, .int ((-1))), (7, .int (nI 0)), (0, .ref (ad 0)), (1, .int (nI ((cnt (fun k => r (3 * k + 192) = nI 0) 140)))), (5, .int ((-1))), (6, .int ((-1)))]) hx hb dL_hangs_411 hl (k := 5) rfl (nI_addc (b := 1) (by omega)) (by decide) rfl (fun ls hl => ?_)
                      refine lv_goto (tgt := 120) hx hb dL_hangs_414 (by decide) ?_
                      exact ih_120 (i_120 + 1) (by omega) (by omega) _ _ _ h (lv_sub hl [4, 5, 1, 0] rfl)
                  · rw [nI_leI (by omega) (by omega)] at c_143
                    obtain ⟨t, t1, t2, t3⟩ := cnt_at (P := LW r) (show i_136 < cnt (LW r) 140 by omega)
                    refine lv_aload_n hx hb dL_hangs_146 rfl (lv_at hl 0 rfl) ?_
                    refine lv_iload hx hb dL_hangs_147 (lv_at hl 6 rfl) ?_
                    refine lv_iconst (v := nI 1) hx hb dL_hangs_149 (by decide) ?_
                    refine rg_civd (As := [.int (nI i_136), .int (nI 1)]) (rest := []) X hl.1 h (c_X7_bylaw l J z ad G r hR (nI i_136) (nI 1)) mw_157 mw_158 mw_159 mw_2 mw_160 pdX7_bylaw (by decide) (xo_0 J ad _) rfl rfl ⟨Nat.le_of_ble_eq_true rfl, Nat.le_of_ble_eq_true rfl⟩ ⟨Nat.le_of_ble_eq_true rfl, Nat.le_of_ble_eq_true rfl⟩ rfl (Nat.le_of_ble_eq_true rfl) dL_hangs_150 (fun H locs h => ?_)
                    refine lv_as (y := nI ((t % 20))) ((by_at t1 t2 t3 (by omega)).trans byB_1) ?_
                    refine lv_iload hx hb dL_hangs_153 (lv_at hl 3 rfl) ?_
                    refine lv_bipush (v := nI 20) hx hb dL_hangs_155 (by decide) ?_
                    refine lv_irem hx hb dL_hangs_157 (by decide) ?_
                    refine lv_as (y := nI ((i_120 % 20))) (pk_rem (by omega) (by omega) (by omega)) ?_
                    refine lv_icmp_ne (tgt := 165) hx hb dL_hangs_158 (by decide) (fun c_158 => ?_) (fun c_158 => ?_)
                    · rw [nI_eq (by omega) (by omega)] at c_158
                      refine lv_iconst (v := nI 0) hx hb dL_hangs_165 (by decide) ?_
                      refine lv_istore (lv' := [(8, .int (nI 0)), (0, .ref (ad 0)), (1, .int (nI ((cnt (fun k => r (3 * k + 192) = nI 0) 140)))), (3, .int (nI ((cnt (fun k => ¬ alw r (k / 20) (k % 20)) i_120)))), (4, .int (nI i_120)), (5, .int (fW r i_120 i_136)), (6, .int (fW r (120 + i_120 % 20) i_136)), (7, .int (nI i_136))]) hx hb dL_hangs_166 hl (by decide) rfl (fun ls hl => ?_)
                      refine lv_iload hx hb dL_hangs_168 (lv_at hl 0 rfl) ?_
                      refine lv_if_eq (tgt := 193) hx hb dL_hangs_170 (by decide) (fun c_170 => ?_) (fun c_170 => absurd (by decide) c_170)
                      refine lv_iload hx hb dL_hangs_193 (lv_at hl 5 rfl) ?_
                      refine lv_as (y := fW r i_120 (i_136 + 1)) (fW_f t2 t3 (fun e => c_158 (by rw [e]))) ?_
                      refine lv_istore (lv' := [(5, .int (fW r i_120 (i_136 + 1))), (8, .int (nI 0)), (0, .ref (ad 0)), (1, .int (nI ((cnt (fun k => r (3 * k + 192) = nI 0) 140)))), (3, .int (nI ((cnt (fun k => ¬ alw r (k / 20) (k % 20)) i_120)))), (4, .int (nI i_120)), (6, .int (fW r (120 + i_120 % 20) i_136)), (7, .int (nI i_136))]) hx hb dL_hangs_195 hl (by decide) rfl (fun ls hl => ?_)
                      refine lv_iload hx hb dL_hangs_197 (lv_at hl 1 rfl) ?_
                      refine lv_if_eq (tgt := 219) hx hb dL_hangs_199 (by decide) (fun c_199 => ?_) (fun c_199 => absurd (by decide) c_199)
                      refine lv_iload hx hb dL_hangs_219 (lv_at hl 6 rfl) ?_
                      refine lv_as (y := fW r (120 + i_120 % 20) (i_136 + 1)) (fW_f t2 t3 (fun e => c_158 (by omega))) ?_
                      refine lv_istore (lv' := [(6, .int (fW r (120 + i_120 % 20) (i_136 + 1))), (5, .int (fW r i_120 (i_136 + 1))), (8, .int (nI 0)), (0, .ref (ad 0)), (1, .int (nI ((cnt (fun k => r (3 * k + 192) = nI 0) 140)))), (3, .int (nI ((cnt (fun k => ¬ alw r (k / 20) (k % 20)) i_120)))), (4, .int (nI i_120)), (7, .int (nI i_136))]) hx hb dL_hangs_221 hl (by decide) rfl (fun ls hl => ?_)
                      refine lv_iinc (v := nI (i_136 + 1)) (lv' := [(7, .int (nI (i_136 + 1))), (6, .int (fW r (120 + i_120 % 20) (i_136 + 1))), (5, .int (fW r i_120 (i_136 + 1))), (8, .int (nI 0)), (0, .ref (ad 0)), (1, .int (nI ((cnt (fun k => r (3 * k + 192) = nI 0) 140)))), (3, .int (nI ((cnt (fun k => ¬ alw r (k / 20) (k % 20)) i_120)))), (4, .int (nI i_120))]) hx hb dL_hangs_223 hl (k := 7) rfl (nI_addc (b := 1) (by omega)) (by decide) rfl (fun ls hl => ?_)
                      refine lv_goto (tgt := 136) hx hb dL_hangs_226 (by decide) ?_
                      exact ih_136 (i_136 + 1) (by omega) (by omega) _ _ _ h (lv_sub hl [4, 5, 6, 7, 2, 1, 0] rfl)
                    · rw [nI_eq (by omega) (by omega)] at c_158
                      refine lv_iconst (v := nI 1) hx hb dL_hangs_161 (by decide) ?_
                      refine lv_goto (tgt := 166) hx hb dL_hangs_162 (by decide) ?_
                      refine lv_istore (lv' := [(8, .int (nI 1)), (0, .ref (ad 0)), (1, .int (nI ((cnt (fun k => r (3 * k + 192) = nI 0) 140)))), (3, .int (nI ((cnt (fun k => ¬ alw r (k / 20) (k % 20)) i_120)))), (4, .int (nI i_120)), (5, .int (fW r i_120 i_136)), (6, .int (fW r (120 + i_120 % 20) i_136)), (7, .int (nI i_136))]) hx hb dL_hangs_166 hl (by decide) rfl (fun ls hl => ?_)
                      refine lv_iload hx hb dL_hangs_168 (lv_at hl 0 rfl) ?_
                      refine lv_if_eq (tgt := 193) hx hb dL_hangs_170 (by decide) (fun c_170 => absurd c_170 (by decide)) (fun c_170 => ?_)
                      refine lv_aload_n hx hb dL_hangs_173 rfl (lv_at hl 1 rfl) ?_
                      refine lv_iload hx hb dL_hangs_174 (lv_at hl 7 rfl) ?_
                      refine lv_iconst (v := nI 0) hx hb dL_hangs_176 (by decide) ?_
                      refine rg_civd (As := [.int (nI i_136), .int (nI 0)]) (rest := []) X hl.1 h (c_X7_bylaw l J z ad G r hR (nI i_136) (nI 0)) mw_157 mw_158 mw_159 mw_2 mw_160 pdX7_bylaw (by decide) (xo_0 J ad _) rfl rfl ⟨Nat.le_of_ble_eq_true rfl, Nat.le_of_ble_eq_true rfl⟩ ⟨Nat.le_of_ble_eq_true rfl, Nat.le_of_ble_eq_true rfl⟩ rfl (Nat.le_of_ble_eq_true rfl) dL_hangs_177 (fun H locs h => ?_)
                      refine lv_as (y := nI ((t / 20))) ((by_at t1 t2 t3 (by omega)).trans byB_0) ?_
                      refine lv_iload hx hb dL_hangs_180 (lv_at hl 4 rfl) ?_
                      refine lv_bipush (v := nI 20) hx hb dL_hangs_182 (by decide) ?_
                      refine lv_idiv hx hb dL_hangs_184 (by decide) ?_
                      refine lv_as (y := nI ((i_120 / 20))) (pk_div (by omega) (by omega) (by omega)) ?_
                      refine lv_icmp_ne (tgt := 193) hx hb dL_hangs_185 (by decide) (fun c_185 => ?_) (fun c_185 => ?_)
                      · rw [nI_eq (by omega) (by omega)] at c_185
                        refine lv_iload hx hb dL_hangs_193 (lv_at hl 5 rfl) ?_
                        refine lv_as (y := fW r i_120 (i_136 + 1)) (fW_f t2 t3 (fun e => c_185 (by rw [e]))) ?_
                        refine lv_istore (lv' := [(5, .int (fW r i_120 (i_136 + 1))), (8, .int (nI 1)), (0, .ref (ad 0)), (1, .int (nI ((cnt (fun k => r (3 * k + 192) = nI 0) 140)))), (3, .int (nI ((cnt (fun k => ¬ alw r (k / 20) (k % 20)) i_120)))), (4, .int (nI i_120)), (6, .int (fW r (120 + i_120 % 20) i_136)), (7, .int (nI i_136))]) hx hb dL_hangs_195 hl (by decide) rfl (fun ls hl => ?_)
                        refine lv_iload hx hb dL_hangs_197 (lv_at hl 1 rfl) ?_
                        refine lv_if_eq (tgt := 219) hx hb dL_hangs_199 (by decide) (fun c_199 => absurd c_199 (by decide)) (fun c_199 => ?_)
                        refine lv_aload_n hx hb dL_hangs_202 rfl (lv_at hl 2 rfl) ?_
                        refine lv_iload hx hb dL_hangs_203 (lv_at hl 7 rfl) ?_
                        refine lv_iconst (v := nI 0) hx hb dL_hangs_205 (by decide) ?_
                        refine rg_civd (As := [.int (nI i_136), .int (nI 0)]) (rest := []) X hl.1 h (c_X7_bylaw l J z ad G r hR (nI i_136) (nI 0)) mw_157 mw_158 mw_159 mw_2 mw_160 pdX7_bylaw (by decide) (xo_0 J ad _) rfl rfl ⟨Nat.le_of_ble_eq_true rfl, Nat.le_of_ble_eq_true rfl⟩ ⟨Nat.le_of_ble_eq_true rfl, Nat.le_of_ble_eq_true rfl⟩ rfl (Nat.le_of_ble_eq_true rfl) dL_hangs_206 (fun H locs h => ?_)
                        refine lv_as (y := nI ((t / 20))) ((by_at t1 t2 t3 (by omega)).trans byB_0) ?_
                        refine lv_bipush (v := nI 6) hx hb dL_hangs_209 (by decide) ?_
                        refine lv_icmp_ne (tgt := 219) hx hb dL_hangs_211 (by decide) (fun c_211 => ?_) (fun c_211 => ?_)
                        · rw [nI_eq (by omega) (by omega)] at c_211
                          refine lv_iload hx hb dL_hangs_219 (lv_at hl 6 rfl) ?_
                          refine lv_as (y := fW r (120 + i_120 % 20) (i_136 + 1)) (fW_f t2 t3 (fun e => c_211 (by omega))) ?_
                          refine lv_istore (lv' := [(6, .int (fW r (120 + i_120 % 20) (i_136 + 1))), (5, .int (fW r i_120 (i_136 + 1))), (8, .int (nI 1)), (0, .ref (ad 0)), (1, .int (nI ((cnt (fun k => r (3 * k + 192) = nI 0) 140)))), (3, .int (nI ((cnt (fun k => ¬ alw r (k / 20) (k % 20)) i_120)))), (4, .int (nI i_120)), (7, .int (nI i_136))]) hx hb dL_hangs_221 hl (by decide) rfl (fun ls hl => ?_)
                          refine lv_iinc (v := nI (i_136 + 1)) (lv' := [(7, .int (nI (i_136 + 1))), (6, .int (fW r (120 + i_120 % 20) (i_136 + 1))), (5, .int (fW r i_120 (i_136 + 1))), (8, .int (nI 1)), (0, .ref (ad 0)), (1, .int (nI ((cnt (fun k => r (3 * k + 192) = nI 0) 140)))), (3, .int (nI ((cnt (fun k => ¬ alw r (k / 20) (k % 20)) i_120)))), (4, .int (nI i_120))]) hx hb dL_hangs_223 hl (k := 7) rfl (nI_addc (b := 1) (by omega)) (by decide) rfl (fun ls hl => ?_)
                          refine lv_goto (tgt := 136) hx hb dL_hangs_226 (by decide) ?_
                          exact ih_136 (i_136 + 1) (by omega) (by omega) _ _ _ h (lv_sub hl [4, 5, 6, 7, 2, 1, 0] rfl)
                        · rw [nI_eq (by omega) (by omega)] at c_211
                          refine lv_iload hx hb dL_hangs_214 (lv_at hl 7 rfl) ?_
                          refine lv_goto (tgt := 221) hx hb dL_hangs_216 (by decide) ?_
                          refine lv_as (y := fW r (120 + i_120 % 20) (i_136 + 1)) (fW_t t2 t3 (by omega)) ?_
                          refine lv_istore (lv' := [(6, .int (fW r (120 + i_120 % 20) (i_136 + 1))), (5, .int (fW r i_120 (i_136 + 1))), (8, .int (nI 1)), (0, .ref (ad 0)), (1, .int (nI ((cnt (fun k => r (3 * k + 192) = nI 0) 140)))), (3, .int (nI ((cnt (fun k => ¬ alw r (k / 20) (k % 20)) i_120)))), (4, .int (nI i_120)), (7, .int (nI i_136))]) hx hb dL_hangs_221 hl (by decide) rfl (fun ls hl => ?_)
                          refine lv_iinc (v := nI (i_136 + 1)) (lv' := [(7, .int (nI (i_136 + 1))), (6, .int (fW r (120 + i_120 % 20) (i_136 + 1))), (5, .int (fW r i_120 (i_136 + 1))), (8, .int (nI 1)), (0, .ref (ad 0)), (1, .int (nI ((cnt (fun k => r (3 * k + 192) = nI 0) 140)))), (3, .int (nI ((cnt (fun k => ¬ alw r (k / 20) (k % 20)) i_120)))), (4, .int (nI i_120))]) hx hb dL_hangs_223 hl (k := 7) rfl (nI_addc (b := 1) (by omega)) (by decide) rfl (fun ls hl => ?_)
                          refine lv_goto (tgt := 136) hx hb dL_hangs_226 (by decide) ?_
                          exact ih_136 (i_136 + 1) (by omega) (by omega) _ _ _ h (lv_sub hl [4, 5, 6, 7, 2, 1, 0] rfl)
                      · rw [nI_eq (by omega) (by omega)] at c_185
                        refine lv_iload hx hb dL_hangs_188 (lv_at hl 7 rfl) ?_
                        refine lv_goto (tgt := 195) hx hb dL_hangs_190 (by decide) ?_
                        refine lv_as (y := fW r i_120 (i_136 + 1)) (fW_t t2 t3 (by omega)) ?_
                        refine lv_istore (lv' := [(5, .int (fW r i_120 (i_136 + 1))), (8, .int (nI 1)), (0, .ref (ad 0)), (1, .int (nI ((cnt (fun k => r (3 * k + 192) = nI 0) 140)))), (3, .int (nI ((cnt (fun k => ¬ alw r (k / 20) (k % 20)) i_120)))), (4, .int (nI i_120)), (6, .int (fW r (120 + i_120 % 20) i_136)), (7, .int (nI i_136))]) hx hb dL_hangs_195 hl (by decide) rfl (fun ls hl => ?_)
                        refine lv_iload hx hb dL_hangs_197 (lv_at hl 1 rfl) ?_
                        refine lv_if_eq (tgt := 219) hx hb dL_hangs_199 (by decide) (fun c_199 => absurd c_199 (by decide)) (fun c_199 => ?_)
                        refine lv_aload_n hx hb dL_hangs_202 rfl (lv_at hl 2 rfl) ?_
                        refine lv_iload hx hb dL_hangs_203 (lv_at hl 7 rfl) ?_
                        refine lv_iconst (v := nI 0) hx hb dL_hangs_205 (by decide) ?_
                        refine rg_civd (As := [.int (nI i_136), .int (nI 0)]) (rest := []) X hl.1 h (c_X7_bylaw l J z ad G r hR (nI i_136) (nI 0)) mw_157 mw_158 mw_159 mw_2 mw_160 pdX7_bylaw (by decide) (xo_0 J ad _) rfl rfl ⟨Nat.le_of_ble_eq_true rfl, Nat.le_of_ble_eq_true rfl⟩ ⟨Nat.le_of_ble_eq_true rfl, Nat.le_of_ble_eq_true rfl⟩ rfl (Nat.le_of_ble_eq_true rfl) dL_hangs_206 (fun H locs h => ?_)
                        refine lv_as (y := nI ((t / 20))) ((by_at t1 t2 t3 (by omega)).trans byB_0) ?_
                        refine lv_bipush (v := nI 6) hx hb dL_hangs_209 (by decide) ?_
                        refine lv_icmp_ne (tgt := 219) hx hb dL_hangs_211 (by decide) (fun c_211 => ?_) (fun c_211 => ?_)
                        · rw [nI_eq (by omega) (by omega)] at c_211
                          refine lv_iload hx hb dL_hangs_219 (lv_at hl 6 rfl) ?_
                          refine lv_as (y := fW r (120 + i_120 % 20) (i_136 + 1)) (fW_f t2 t3 (fun e => c_211 (by omega))) ?_
                          refine lv_istore (lv' := [(6, .int (fW r (120 + i_120 % 20) (i_136 + 1))), (5, .int (fW r i_120 (i_136 + 1))), (8, .int (nI 1)), (0, .ref (ad 0)), (1, .int (nI ((cnt (fun k => r (3 * k + 192) = nI 0) 140)))), (3, .int (nI ((cnt (fun k => ¬ alw r (k / 20) (k % 20)) i_120)))), (4, .int (nI i_120)), (7, .int (nI i_136))]) hx hb dL_hangs_221 hl (by decide) rfl (fun ls hl => ?_)
                          refine lv_iinc (v := nI (i_136 + 1)) (lv' := [(7, .int (nI (i_136 + 1))), (6, .int (fW r (120 + i_120 % 20) (i_136 + 1))), (5, .int (fW r i_120 (i_136 + 1))), (8, .int (nI 1)), (0, .ref (ad 0)), (1, .int (nI ((cnt (fun k => r (3 * k + 192) = nI 0) 140)))), (3, .int (nI ((cnt (fun k => ¬ alw r (k / 20) (k % 20)) i_120)))), (4, .int (nI i_120))]) hx hb dL_hangs_223 hl (k := 7) rfl (nI_addc (b := 1) (by omega)) (by decide) rfl (fun ls hl => ?_)
                          refine lv_goto (tgt := 136) hx hb dL_hangs_226 (by decide) ?_
                          exact ih_136 (i_136 + 1) (by omega) (by omega) _ _ _ h (lv_sub hl [4, 5, 6, 7, 2, 1, 0] rfl)
                        · rw [nI_eq (by omega) (by omega)] at c_211
                          refine lv_iload hx hb dL_hangs_214 (lv_at hl 7 rfl) ?_
                          refine lv_goto (tgt := 221) hx hb dL_hangs_216 (by decide) ?_
                          refine lv_as (y := fW r (120 + i_120 % 20) (i_136 + 1)) (fW_t t2 t3 (by omega)) ?_
                          refine lv_istore (lv' := [(6, .int (fW r (120 + i_120 % 20) (i_136 + 1))), (5, .int (fW r i_120 (i_136 + 1))), (8, .int (nI 1)), (0, .ref (ad 0)), (1, .int (nI ((cnt (fun k => r (3 * k + 192) = nI 0) 140)))), (3, .int (nI ((cnt (fun k => ¬ alw r (k / 20) (k % 20)) i_120)))), (4, .int (nI i_120)), (7, .int (nI i_136))]) hx hb dL_hangs_221 hl (by decide) rfl (fun ls hl => ?_)
                          refine lv_iinc (v := nI (i_136 + 1)) (lv' := [(7, .int (nI (i_136 + 1))), (6, .int (fW r (120 + i_120 % 20) (i_136 + 1))), (5, .int (fW r i_120 (i_136 + 1))), (8, .int (nI 1)), (0, .ref (ad 0)), (1, .int (nI ((cnt (fun k => r (3 * k + 192) = nI 0) 140)))), (3, .int (nI ((cnt (fun k => ¬ alw r (k / 20) (k % 20)) i_120)))), (4, .int (nI i_120))]) hx hb dL_hangs_223 hl (k := 7) rfl (nI_addc (b := 1) (by omega)) (by decide) rfl (fun ls hl => ?_)
                          refine lv_goto (tgt := 136) hx hb dL_hangs_226 (by decide) ?_
                          exact ih_136 (i_136 + 1) (by omega) (by omega) _ _ _ h (lv_sub hl [4, 5, 6, 7, 2, 1, 0] rfl)
              exact LP_136 ((cnt (LW r) 140) + 1) 0 (by omega) (by omega) _ _ _ h (lv_sub hl [3, 4, 5, 6, 2, 1, 0] rfl)
        exact LP_120 (120 + 1) 0 (by omega) (by omega) _ _ _ h (lv_sub hl [2, 3, 1, 0] rfl)
      · rw [nI_leI (by omega) (by omega)] at c_12
        obtain ⟨k, k1, k2, k3⟩ := cnt_at (P := LW r) (show i_6 < cnt (LW r) 140 by omega)
        have hpk := lw_le hp2 k3 k2
        have hg := lw_gap (hp2.trans k3.symm) hpk (fun k => r (3 * k + 192) = nI 0) (fun j q => st_0 q)
        obtain ⟨hs, hs3⟩ := lw_st hR k1 k2
        have hbp := hce p
        rcases hs with hs | hs
        · have h_case := hs
          refine lv_aload_n hx hb dL_hangs_15 rfl (lv_at hl 0 rfl) ?_
          refine lv_iload_n hx hb dL_hangs_16 rfl (lv_at hl 3 rfl) ?_
          refine lv_iconst (v := nI 0) hx hb dL_hangs_17 (by decide) ?_
          refine rg_civd (As := [.int (nI i_6), .int (nI 0)]) (rest := []) X hl.1 h (c_X7_bylaw l J z ad G r hR (nI i_6) (nI 0)) mw_157 mw_158 mw_159 mw_2 mw_160 pdX7_bylaw (by decide) (xo_0 J ad _) rfl rfl ⟨Nat.le_of_ble_eq_true rfl, Nat.le_of_ble_eq_true rfl⟩ ⟨Nat.le_of_ble_eq_true rfl, Nat.le_of_ble_eq_true rfl⟩ rfl (Nat.le_of_ble_eq_true rfl) dL_hangs_18 (fun H locs h => ?_)
          refine lv_as (y := nI ((k / 20))) ((by_at k1 k2 k3 (by omega)).trans byB_0) ?_
          refine lv_istore (lv' := [(4, .int (nI ((k / 20)))), (0, .ref (ad 0)), (1, .int (nI ((cnt (fun k => r (3 * k + 192) = nI 0) p)))), (2, .int (nI p - nI 1)), (3, .int (nI i_6))]) hx hb dL_hangs_21 hl (by decide) rfl (fun ls hl => ?_)
          refine lv_bipush (v := nI 20) hx hb dL_hangs_23 (by decide) ?_
          refine lv_iload hx hb dL_hangs_25 (lv_at hl 0 rfl) ?_
          refine lv_imul hx hb dL_hangs_27 ?_
          refine lv_as (y := nI (20 * (k / 20))) (nI_mulc (by omega)) ?_
          refine lv_aload_n hx hb dL_hangs_28 rfl (lv_at hl 1 rfl) ?_
          refine lv_iload_n hx hb dL_hangs_29 rfl (lv_at hl 4 rfl) ?_
          refine lv_iconst (v := nI 1) hx hb dL_hangs_30 (by decide) ?_
          refine rg_civd (As := [.int (nI i_6), .int (nI 1)]) (rest := [.int (nI (20 * (k / 20)))]) X hl.1 h (c_X7_bylaw l J z ad G r hR (nI i_6) (nI 1)) mw_157 mw_158 mw_159 mw_2 mw_160 pdX7_bylaw (by decide) (xo_0 J ad _) rfl rfl ⟨Nat.le_of_ble_eq_true rfl, Nat.le_of_ble_eq_true rfl⟩ ⟨Nat.le_of_ble_eq_true rfl, Nat.le_of_ble_eq_true rfl⟩ rfl (Nat.le_of_ble_eq_true rfl) dL_hangs_31 (fun H locs h => ?_)
          refine lv_as (y := nI ((k % 20))) ((by_at k1 k2 k3 (by omega)).trans byB_1) ?_
          refine lv_iadd hx hb dL_hangs_34 ?_
          refine lv_as (y := nI ((k % 20) + 20 * (k / 20))) (nI_addc (by omega)) ?_
          refine lv_as (y := nI k) (congrArg nI (by omega)) ?_
          refine lv_istore (lv' := [(5, .int (nI k)), (4, .int (nI ((k / 20)))), (0, .ref (ad 0)), (1, .int (nI ((cnt (fun k => r (3 * k + 192) = nI 0) p)))), (2, .int (nI p - nI 1)), (3, .int (nI i_6))]) hx hb dL_hangs_35 hl (by decide) rfl (fun ls hl => ?_)
          refine lv_iload_n hx hb dL_hangs_37 rfl (lv_at hl 3 rfl) ?_
          refine lv_iconst (v := nI 1) hx hb dL_hangs_38 (by decide) ?_
          refine lv_aload_n hx hb dL_hangs_39 rfl (lv_at hl 2 rfl) ?_
          refine lv_iload_n hx hb dL_hangs_40 rfl (lv_at hl 5 rfl) ?_
          refine lv_iconst (v := nI 2) hx hb dL_hangs_41 (by decide) ?_
          refine rg_civd (As := [.int (nI i_6), .int (nI 2)]) (rest := [.int (nI 1), .int (nI ((cnt (fun k => r (3 * k + 192) = nI 0) p)))]) X hl.1 h (c_X7_bylaw l J z ad G r hR (nI i_6) (nI 2)) mw_157 mw_158 mw_159 mw_2 mw_160 pdX7_bylaw (by decide) (xo_0 J ad _) rfl rfl ⟨Nat.le_of_ble_eq_true rfl, Nat.le_of_ble_eq_true rfl⟩ ⟨Nat.le_of_ble_eq_true rfl, Nat.le_of_ble_eq_true rfl⟩ rfl (Nat.le_of_ble_eq_true rfl) dL_hangs_42 (fun H locs h => ?_)
          refine lv_as (y := nI 0) ((by_at k1 k2 k3 (by omega)).trans (byB_2.trans hs)) ?_
          refine lv_isub hx hb dL_hangs_45 ?_
          refine lv_as (y := nI 1) (nI_subc (by omega)) ?_
          refine lv_iadd hx hb dL_hangs_46 ?_
          refine lv_as (y := nI ((cnt (fun k => r (3 * k + 192) = nI 0) p) + 1)) (nI_addc (by omega)) ?_
          refine lv_as (y := nI ((cnt (fun k => r (3 * k + 192) = nI 0) (k + 1)))) (congrArg nI (by rw [cnt_t (P := (fun k => r (3 * k + 192) = nI 0)) hs, hg])) ?_
          refine lv_istore_n (lv' := [(1, .int (nI ((cnt (fun k => r (3 * k + 192) = nI 0) (k + 1))))), (5, .int (nI k)), (4, .int (nI ((k / 20)))), (0, .ref (ad 0)), (2, .int (nI p - nI 1)), (3, .int (nI i_6))]) hx hb dL_hangs_47 rfl hl (by decide) rfl (fun ls hl => ?_)
          refine lv_iload hx hb dL_hangs_48 (lv_at hl 1 rfl) ?_
          refine lv_iload_n hx hb dL_hangs_50 rfl (lv_at hl 4 rfl) ?_
          refine lv_icmp_le (tgt := 104) hx hb dL_hangs_51 (by decide) (fun c_51 => absurd c_51 (at_bef hpk k1)) (fun c_51 => ?_)
          refine lv_iload hx hb dL_hangs_54 (lv_at hl 2 rfl) ?_
          refine lv_if_lt (tgt := 104) hx hb dL_hangs_56 (by decide) (fun c_56 => absurd c_56 (nI_nn (by omega))) (fun c_56 => ?_)
          refine lv_iload hx hb dL_hangs_59 (lv_at hl 2 rfl) ?_
          refine lv_bipush (v := nI 6) hx hb dL_hangs_61 (by decide) ?_
          refine lv_icmp_gt (tgt := 104) hx hb dL_hangs_63 (by decide) (fun c_63 => absurd c_63 (fun q => by have := (nI_ltI (by omega) (by omega)).mp q; omega)) (fun c_63 => ?_)
          refine lv_aload_n hx hb dL_hangs_66 rfl (lv_at hl 3 rfl) ?_
          refine lv_iload_n hx hb dL_hangs_67 rfl (lv_at hl 5 rfl) ?_
          refine lv_iconst (v := nI 3) hx hb dL_hangs_68 (by decide) ?_
          refine rg_civd (As := [.int (nI i_6), .int (nI 3)]) (rest := []) X hl.1 h (c_X7_bylaw l J z ad G r hR (nI i_6) (nI 3)) mw_157 mw_158 mw_159 mw_2 mw_160 pdX7_bylaw (by decide) (xo_0 J ad _) rfl rfl ⟨Nat.le_of_ble_eq_true rfl, Nat.le_of_ble_eq_true rfl⟩ ⟨Nat.le_of_ble_eq_true rfl, Nat.le_of_ble_eq_true rfl⟩ rfl (Nat.le_of_ble_eq_true rfl) dL_hangs_69 (fun H locs h => ?_)
          refine lv_as (y := r (3 * k + 193)) ((by_at k1 k2 k3 (by omega)).trans byB_3) ?_
          refine lv_if_lt (tgt := 104) hx hb dL_hangs_72 (by decide) (fun c_72 => absurd c_72 (hs3)) (fun c_72 => ?_)
          refine lv_aload_n hx hb dL_hangs_75 rfl (lv_at hl 3 rfl) ?_
          refine lv_iload_n hx hb dL_hangs_76 rfl (lv_at hl 5 rfl) ?_
          refine lv_iconst (v := nI 4) hx hb dL_hangs_77 (by decide) ?_
          refine rg_civd (As := [.int (nI i_6), .int (nI 4)]) (rest := []) X hl.1 h (c_X7_bylaw l J z ad G r hR (nI i_6) (nI 4)) mw_157 mw_158 mw_159 mw_2 mw_160 pdX7_bylaw (by decide) (xo_0 J ad _) rfl rfl ⟨Nat.le_of_ble_eq_true rfl, Nat.le_of_ble_eq_true rfl⟩ ⟨Nat.le_of_ble_eq_true rfl, Nat.le_of_ble_eq_true rfl⟩ rfl (Nat.le_of_ble_eq_true rfl) dL_hangs_78 (fun H locs h => ?_)
          refine lv_as (y := r (3 * k + 194)) ((by_at k1 k2 k3 (by omega)).trans byB_4) ?_
          refine lv_aload_n hx hb dL_hangs_81 rfl (lv_at hl 3 rfl) ?_
          refine lv_iconst (v := nI 1) hx hb dL_hangs_82 (by decide) ?_
          refine rg_civd (As := [.int (nI 1)]) (rest := [.int (r (3 * k + 194))]) X hl.1 h (c_X7_count l J z ad G r hR (nI n) (G 203 1) h14 rfl (nI 1)) mw_103 mw_104 mw_105 mw_2 mw_106 pdX7_count (by decide) (xo_0 J ad _) rfl rfl ⟨Nat.le_of_ble_eq_true rfl, Nat.le_of_ble_eq_true rfl⟩ ⟨Nat.le_of_ble_eq_true rfl, Nat.le_of_ble_eq_true rfl⟩ rfl (Nat.le_of_ble_eq_true rfl) dL_hangs_83 (fun H locs h => ?_)
          refine lv_as (y := r 3) (ct_at (by omega)) ?_
          refine lv_icmp_ge (tgt := 104) hx hb dL_hangs_86 (by decide) (fun c_86 => absurd c_86 (lw_se hI.2.2.1 hB k1 k2)) (fun c_86 => ?_)
          refine lv_aload_n hx hb dL_hangs_89 rfl (lv_at hl 3 rfl) ?_
          refine lv_iload_n hx hb dL_hangs_90 rfl (lv_at hl 5 rfl) ?_
          refine lv_iconst (v := nI 5) hx hb dL_hangs_91 (by decide) ?_
          refine rg_civd (As := [.int (nI i_6), .int (nI 5)]) (rest := []) X hl.1 h (c_X7_bylaw l J z ad G r hR (nI i_6) (nI 5)) mw_157 mw_158 mw_159 mw_2 mw_160 pdX7_bylaw (by decide) (xo_0 J ad _) rfl rfl ⟨Nat.le_of_ble_eq_true rfl, Nat.le_of_ble_eq_true rfl⟩ ⟨Nat.le_of_ble_eq_true rfl, Nat.le_of_ble_eq_true rfl⟩ rfl (Nat.le_of_ble_eq_true rfl) dL_hangs_92 (fun H locs h => ?_)
          refine lv_as (y := wgt r (nI (k / 20))) ((by_at k1 k2 k3 (by omega)).trans byB_5) ?_
          refine lv_aload_n hx hb dL_hangs_95 rfl (lv_at hl 3 rfl) ?_
          refine lv_iload hx hb dL_hangs_96 (lv_at hl 2 rfl) ?_
          refine rg_cisd (As := [.ref (ad 0), .int (nI ((k / 20)))]) (rest := [.int (wgt r (nI (k / 20)))]) X hl.1 h (c_L_weight l J z ad G hz r n B hv hI (k / 20) (by omega)) mw_173 mw_174 mw_101 mw_175 pdL_weight ⟨Nat.le_of_ble_eq_true rfl, Nat.le_of_ble_eq_true rfl⟩ ⟨Nat.le_of_ble_eq_true rfl, Nat.le_of_ble_eq_true rfl⟩ rfl (Nat.le_of_ble_eq_true rfl) dL_hangs_98 (fun H locs h => ?_)
          refine lv_icmp_eq (tgt := 106) hx hb dL_hangs_101 (by decide) (fun c_101 => ?_) (fun c_101 => absurd (rfl) c_101)
          refine lv_iload hx hb dL_hangs_106 (lv_at hl 1 rfl) ?_
          refine lv_as (y := nI (k + 1) - nI 1) ((nI_subc (by omega)).symm) ?_
          refine lv_istore_n (lv' := [(2, .int (nI (k + 1) - nI 1)), (1, .int (nI ((cnt (fun k => r (3 * k + 192) = nI 0) (k + 1))))), (5, .int (nI k)), (4, .int (nI ((k / 20)))), (0, .ref (ad 0)), (3, .int (nI i_6))]) hx hb dL_hangs_108 rfl hl (by decide) rfl (fun ls hl => ?_)
          refine lv_iinc (v := nI (i_6 + 1)) (lv' := [(3, .int (nI (i_6 + 1))), (2, .int (nI (k + 1) - nI 1)), (1, .int (nI ((cnt (fun k => r (3 * k + 192) = nI 0) (k + 1))))), (5, .int (nI k)), (4, .int (nI ((k / 20)))), (0, .ref (ad 0))]) hx hb dL_hangs_109 hl (k := 5) rfl (nI_addc (b := 1) (by omega)) (by decide) rfl (fun ls hl => ?_)
          refine lv_goto (tgt := 6) hx hb dL_hangs_112 (by decide) ?_
          exact ih_6 (i_6 + 1) (by omega) (by omega) (k + 1) (by omega) ((cnt_t k2).trans (congrArg (· + 1) k3)) _ _ _ h (lv_sub hl [5, 2, 1, 0] rfl)
        · have h_case := hs
          refine lv_aload_n hx hb dL_hangs_15 rfl (lv_at hl 0 rfl) ?_
          refine lv_iload_n hx hb dL_hangs_16 rfl (lv_at hl 3 rfl) ?_
          refine lv_iconst (v := nI 0) hx hb dL_hangs_17 (by decide) ?_
          refine rg_civd (As := [.int (nI i_6), .int (nI 0)]) (rest := []) X hl.1 h (c_X7_bylaw l J z ad G r hR (nI i_6) (nI 0)) mw_157 mw_158 mw_159 mw_2 mw_160 pdX7_bylaw (by decide) (xo_0 J ad _) rfl rfl ⟨Nat.le_of_ble_eq_true rfl, Nat.le_of_ble_eq_true rfl⟩ ⟨Nat.le_of_ble_eq_true rfl, Nat.le_of_ble_eq_true rfl⟩ rfl (Nat.le_of_ble_eq_true rfl) dL_hangs_18 (fun H locs h => ?_)
          refine lv_as (y := nI ((k / 20))) ((by_at k1 k2 k3 (by omega)).trans byB_0) ?_
          refine lv_istore (lv' := [(4, .int (nI ((k / 20)))), (0, .ref (ad 0)), (1, .int (nI ((cnt (fun k => r (3 * k + 192) = nI 0) p)))), (2, .int (nI p - nI 1)), (3, .int (nI i_6))]) hx hb dL_hangs_21 hl (by decide) rfl (fun ls hl => ?_)
          refine lv_bipush (v := nI 20) hx hb dL_hangs_23 (by decide) ?_
          refine lv_iload hx hb dL_hangs_25 (lv_at hl 0 rfl) ?_
          refine lv_imul hx hb dL_hangs_27 ?_
          refine lv_as (y := nI (20 * (k / 20))) (nI_mulc (by omega)) ?_
          refine lv_aload_n hx hb dL_hangs_28 rfl (lv_at hl 1 rfl) ?_
          refine lv_iload_n hx hb dL_hangs_29 rfl (lv_at hl 4 rfl) ?_
          refine lv_iconst (v := nI 1) hx hb dL_hangs_30 (by decide) ?_
          refine rg_civd (As := [.int (nI i_6), .int (nI 1)]) (rest := [.int (nI (20 * (k / 20)))]) X hl.1 h (c_X7_bylaw l J z ad G r hR (nI i_6) (nI 1)) mw_157 mw_158 mw_159 mw_2 mw_160 pdX7_bylaw (by decide) (xo_0 J ad _) rfl rfl ⟨Nat.le_of_ble_eq_true rfl, Nat.le_of_ble_eq_true rfl⟩ ⟨Nat.le_of_ble_eq_true rfl, Nat.le_of_ble_eq_true rfl⟩ rfl (Nat.le_of_ble_eq_true rfl) dL_hangs_31 (fun H locs h => ?_)
          refine lv_as (y := nI ((k % 20))) ((by_at k1 k2 k3 (by omega)).trans byB_1) ?_
          refine lv_iadd hx hb dL_hangs_34 ?_
          refine lv_as (y := nI ((k % 20) + 20 * (k / 20))) (nI_addc (by omega)) ?_
          refine lv_as (y := nI k) (congrArg nI (by omega)) ?_
          refine lv_istore (lv' := [(5, .int (nI k)), (4, .int (nI ((k / 20)))), (0, .ref (ad 0)), (1, .int (nI ((cnt (fun k => r (3 * k + 192) = nI 0) p)))), (2, .int (nI p - nI 1)), (3, .int (nI i_6))]) hx hb dL_hangs_35 hl (by decide) rfl (fun ls hl => ?_)
          refine lv_iload_n hx hb dL_hangs_37 rfl (lv_at hl 3 rfl) ?_
          refine lv_iconst (v := nI 1) hx hb dL_hangs_38 (by decide) ?_
          refine lv_aload_n hx hb dL_hangs_39 rfl (lv_at hl 2 rfl) ?_
          refine lv_iload_n hx hb dL_hangs_40 rfl (lv_at hl 5 rfl) ?_
          refine lv_iconst (v := nI 2) hx hb dL_hangs_41 (by decide) ?_
          refine rg_civd (As := [.int (nI i_6), .int (nI 2)]) (rest := [.int (nI 1), .int (nI ((cnt (fun k => r (3 * k + 192) = nI 0) p)))]) X hl.1 h (c_X7_bylaw l J z ad G r hR (nI i_6) (nI 2)) mw_157 mw_158 mw_159 mw_2 mw_160 pdX7_bylaw (by decide) (xo_0 J ad _) rfl rfl ⟨Nat.le_of_ble_eq_true rfl, Nat.le_of_ble_eq_true rfl⟩ ⟨Nat.le_of_ble_eq_true rfl, Nat.le_of_ble_eq_true rfl⟩ rfl (Nat.le_of_ble_eq_true rfl) dL_hangs_42 (fun H locs h => ?_)
          refine lv_as (y := nI 1) ((by_at k1 k2 k3 (by omega)).trans (byB_2.trans hs)) ?_
          refine lv_isub hx hb dL_hangs_45 ?_
          refine lv_as (y := nI 0) (nI_subc (by omega)) ?_
          refine lv_iadd hx hb dL_hangs_46 ?_
          refine lv_as (y := nI ((cnt (fun k => r (3 * k + 192) = nI 0) p))) (nI_addc (by omega)) ?_
          refine lv_as (y := nI ((cnt (fun k => r (3 * k + 192) = nI 0) (k + 1)))) (congrArg nI (by rw [cnt_f (P := (fun k => r (3 * k + 192) = nI 0)) (fun q => absurd ((hs.symm.trans q : nI 1 = nI 0)) (by decide)), hg])) ?_
          refine lv_istore_n (lv' := [(1, .int (nI ((cnt (fun k => r (3 * k + 192) = nI 0) (k + 1))))), (5, .int (nI k)), (4, .int (nI ((k / 20)))), (0, .ref (ad 0)), (2, .int (nI p - nI 1)), (3, .int (nI i_6))]) hx hb dL_hangs_47 rfl hl (by decide) rfl (fun ls hl => ?_)
          refine lv_iload hx hb dL_hangs_48 (lv_at hl 1 rfl) ?_
          refine lv_iload_n hx hb dL_hangs_50 rfl (lv_at hl 4 rfl) ?_
          refine lv_icmp_le (tgt := 104) hx hb dL_hangs_51 (by decide) (fun c_51 => absurd c_51 (at_bef hpk k1)) (fun c_51 => ?_)
          refine lv_iload hx hb dL_hangs_54 (lv_at hl 2 rfl) ?_
          refine lv_if_lt (tgt := 104) hx hb dL_hangs_56 (by decide) (fun c_56 => absurd c_56 (nI_nn (by omega))) (fun c_56 => ?_)
          refine lv_iload hx hb dL_hangs_59 (lv_at hl 2 rfl) ?_
          refine lv_bipush (v := nI 6) hx hb dL_hangs_61 (by decide) ?_
          refine lv_icmp_gt (tgt := 104) hx hb dL_hangs_63 (by decide) (fun c_63 => absurd c_63 (fun q => by have := (nI_ltI (by omega) (by omega)).mp q; omega)) (fun c_63 => ?_)
          refine lv_aload_n hx hb dL_hangs_66 rfl (lv_at hl 3 rfl) ?_
          refine lv_iload_n hx hb dL_hangs_67 rfl (lv_at hl 5 rfl) ?_
          refine lv_iconst (v := nI 3) hx hb dL_hangs_68 (by decide) ?_
          refine rg_civd (As := [.int (nI i_6), .int (nI 3)]) (rest := []) X hl.1 h (c_X7_bylaw l J z ad G r hR (nI i_6) (nI 3)) mw_157 mw_158 mw_159 mw_2 mw_160 pdX7_bylaw (by decide) (xo_0 J ad _) rfl rfl ⟨Nat.le_of_ble_eq_true rfl, Nat.le_of_ble_eq_true rfl⟩ ⟨Nat.le_of_ble_eq_true rfl, Nat.le_of_ble_eq_true rfl⟩ rfl (Nat.le_of_ble_eq_true rfl) dL_hangs_69 (fun H locs h => ?_)
          refine lv_as (y := r (3 * k + 193)) ((by_at k1 k2 k3 (by omega)).trans byB_3) ?_
          refine lv_if_lt (tgt := 104) hx hb dL_hangs_72 (by decide) (fun c_72 => absurd c_72 (hs3)) (fun c_72 => ?_)
          refine lv_aload_n hx hb dL_hangs_75 rfl (lv_at hl 3 rfl) ?_
          refine lv_iload_n hx hb dL_hangs_76 rfl (lv_at hl 5 rfl) ?_
          refine lv_iconst (v := nI 4) hx hb dL_hangs_77 (by decide) ?_
          refine rg_civd (As := [.int (nI i_6), .int (nI 4)]) (rest := []) X hl.1 h (c_X7_bylaw l J z ad G r hR (nI i_6) (nI 4)) mw_157 mw_158 mw_159 mw_2 mw_160 pdX7_bylaw (by decide) (xo_0 J ad _) rfl rfl ⟨Nat.le_of_ble_eq_true rfl, Nat.le_of_ble_eq_true rfl⟩ ⟨Nat.le_of_ble_eq_true rfl, Nat.le_of_ble_eq_true rfl⟩ rfl (Nat.le_of_ble_eq_true rfl) dL_hangs_78 (fun H locs h => ?_)
          refine lv_as (y := r (3 * k + 194)) ((by_at k1 k2 k3 (by omega)).trans byB_4) ?_
          refine lv_aload_n hx hb dL_hangs_81 rfl (lv_at hl 3 rfl) ?_
          refine lv_iconst (v := nI 1) hx hb dL_hangs_82 (by decide) ?_
          refine rg_civd (As := [.int (nI 1)]) (rest := [.int (r (3 * k + 194))]) X hl.1 h (c_X7_count l J z ad G r hR (nI n) (G 203 1) h14 rfl (nI 1)) mw_103 mw_104 mw_105 mw_2 mw_106 pdX7_count (by decide) (xo_0 J ad _) rfl rfl ⟨Nat.le_of_ble_eq_true rfl, Nat.le_of_ble_eq_true rfl⟩ ⟨Nat.le_of_ble_eq_true rfl, Nat.le_of_ble_eq_true rfl⟩ rfl (Nat.le_of_ble_eq_true rfl) dL_hangs_83 (fun H locs h => ?_)
          refine lv_as (y := r 3) (ct_at (by omega)) ?_
          refine lv_icmp_ge (tgt := 104) hx hb dL_hangs_86 (by decide) (fun c_86 => absurd c_86 (lw_se hI.2.2.1 hB k1 k2)) (fun c_86 => ?_)
          refine lv_aload_n hx hb dL_hangs_89 rfl (lv_at hl 3 rfl) ?_
          refine lv_iload_n hx hb dL_hangs_90 rfl (lv_at hl 5 rfl) ?_
          refine lv_iconst (v := nI 5) hx hb dL_hangs_91 (by decide) ?_
          refine rg_civd (As := [.int (nI i_6), .int (nI 5)]) (rest := []) X hl.1 h (c_X7_bylaw l J z ad G r hR (nI i_6) (nI 5)) mw_157 mw_158 mw_159 mw_2 mw_160 pdX7_bylaw (by decide) (xo_0 J ad _) rfl rfl ⟨Nat.le_of_ble_eq_true rfl, Nat.le_of_ble_eq_true rfl⟩ ⟨Nat.le_of_ble_eq_true rfl, Nat.le_of_ble_eq_true rfl⟩ rfl (Nat.le_of_ble_eq_true rfl) dL_hangs_92 (fun H locs h => ?_)
          refine lv_as (y := wgt r (nI (k / 20))) ((by_at k1 k2 k3 (by omega)).trans byB_5) ?_
          refine lv_aload_n hx hb dL_hangs_95 rfl (lv_at hl 3 rfl) ?_
          refine lv_iload hx hb dL_hangs_96 (lv_at hl 2 rfl) ?_
          refine rg_cisd (As := [.ref (ad 0), .int (nI ((k / 20)))]) (rest := [.int (wgt r (nI (k / 20)))]) X hl.1 h (c_L_weight l J z ad G hz r n B hv hI (k / 20) (by omega)) mw_173 mw_174 mw_101 mw_175 pdL_weight ⟨Nat.le_of_ble_eq_true rfl, Nat.le_of_ble_eq_true rfl⟩ ⟨Nat.le_of_ble_eq_true rfl, Nat.le_of_ble_eq_true rfl⟩ rfl (Nat.le_of_ble_eq_true rfl) dL_hangs_98 (fun H locs h => ?_)
          refine lv_icmp_eq (tgt := 106) hx hb dL_hangs_101 (by decide) (fun c_101 => ?_) (fun c_101 => absurd (rfl) c_101)
          refine lv_iload hx hb dL_hangs_106 (lv_at hl 1 rfl) ?_
          refine lv_as (y := nI (k + 1) - nI 1) ((nI_subc (by omega)).symm) ?_
          refine lv_istore_n (lv' := [(2, .int (nI (k + 1) - nI 1)), (1, .int (nI ((cnt (fun k => r (3 * k + 192) = nI 0) (k + 1))))), (5, .int (nI k)), (4, .int (nI ((k / 20)))), (0, .ref (ad 0)), (3, .int (nI i_6))]) hx hb dL_hangs_108 rfl hl (by decide) rfl (fun ls hl => ?_)
          refine lv_iinc (v := nI (i_6 + 1)) (lv' := [(3, .int (nI (i_6 + 1))), (2, .int (nI (k + 1) - nI 1)), (1, .int (nI ((cnt (fun k => r (3 * k + 192) = nI 0) (k + 1))))), (5, .int (nI k)), (4, .int (nI ((k / 20)))), (0, .ref (ad 0))]) hx hb dL_hangs_109 hl (k := 5) rfl (nI_addc (b := 1) (by omega)) (by decide) rfl (fun ls hl => ?_)
          refine lv_goto (tgt := 6) hx hb dL_hangs_112 (by decide) ?_
          exact ih_6 (i_6 + 1) (by omega) (by omega) (k + 1) (by omega) ((cnt_t k2).trans (congrArg (· + 1) k3)) _ _ _ h (lv_sub hl [5, 2, 1, 0] rfl)
  exact LP_6 ((cnt (LW r) 140) + 1) 0 (by omega) (by omega) 0 (by omega) rfl _ _ _ h (lv_sub hl [3, 2, 1, 0] rfl)
