/-! petitions: what the law asks of drones and petitions -/
theorem or_bit {σ : Nat → Nat} {i : Nat} (hi : i < 32) : ∀ m, (∀ j, j < m → σ j < 32) → (bt (itr (fun j a => a ||| (nI 1 <<< (nI (σ j) &&& 31))) (nI 0) m) i = true ↔ ∃ j, j < m ∧ σ j = i) := by
  intro m
  induction m with
  | zero =>
    intro _
    have : bt (itr (fun j a => a ||| (nI 1 <<< (nI (σ j) &&& 31))) (nI 0) 0) i = false := b_0 i
    rw [this]
    exact iff_of_false (by decide) (fun ⟨j, h, _⟩ => absurd h (Nat.not_lt_zero _))
  | succ m ih =>
    intro h
    show bt (itr _ _ m ||| (nI 1 <<< (nI (σ m) &&& 31))) i = true ↔ _
    rw [bt_set (h m (by omega)) hi, Bool.or_eq_true, ih (fun j hj => h j (by omega)), decide_eq_true_iff]
    constructor
    · rintro (⟨j, h1, h2⟩ | h1)
      · exact ⟨j, by omega, h2⟩
      · exact ⟨m, by omega, h1.symm⟩
    · rintro ⟨j, h1, h2⟩
      by_cases g : j = m
      · subst g
        exact Or.inr h2.symm
      · exact Or.inl ⟨j, by omega, h2⟩
def hdI (r : Nat → Int32) (σ : Nat → Nat) (m : Nat) : Int32 := itr (fun j a => a ||| (nI 1 <<< (nI (σ j) &&& 31))) (nI 0) m
theorem hd_all {r : Nat → Int32} (hm : mn r ≤ 12) : hdI r (sg r) (mn r) = (nI 1 <<< (nI (mn r) &&& 31)) - nI 1 := by
  refine b_ext (fun i hi => ?_)
  obtain ⟨s1, s2, s3⟩ := sg_ok r
  rw [ones_bit _ (by omega) i hi, Bool.eq_iff_iff, decide_eq_true_iff]
  refine (or_bit hi (mn r) (fun j hj => by have := s1 j hj; omega)).trans ⟨?_, ?_⟩
  · rintro ⟨j, h1, h2⟩
    rw [← h2]
    exact s1 j h1
  · exact fun h => ord_sur (sg_ok r) h
theorem sum_cut {f : Nat → Int32} {K : Nat} : ∀ m, (∀ j, K ≤ j → j < K + m → f j = nI 0) → sumN f (K + m) = sumN f K := by
  intro m
  induction m with
  | zero => exact fun _ => rfl
  | succ m ih =>
    intro h
    show sumN f (K + m) + f (K + m) = _
    rw [ih (fun j a b => h j a (by omega)), h (K + m) (by omega) (by omega)]
    exact Int32.add_zero _
theorem sum_12 {f g : Nat → Int32} {K : Nat} (hK : K ≤ 12) (h : ∀ d, d < K → f d = g d) (h0 : ∀ d, K ≤ d → d < 12 → f d = nI 0) : sumN g K = sumN f 12 := by
  have := sum_cut (f := f) (K := K) (12 - K) (fun j a b => h0 j a (by omega))
  rw [show K + (12 - K) = 12 by omega] at this
  rw [this]
  exact sumN_congr (fun j hj => (h j hj).symm)
theorem sums {G : GG} {r : Nat → Int32} (hR : Rep G 1 r) : sumN (fun d => r (6 * d + 15)) (kn r) = r 7 ∧ sumN (fun d => r (6 * d + 16)) (kn r) = r 8 ∧ sumN (fun d => r (6 * d + 17)) (kn r) = r 9 := by
  obtain ⟨hI, ⟨s1, s2, s3, s4, s5, s6⟩, -⟩ := hR
  have hk := hI.1.1.2
  exact ⟨(sum_12 hk (fun d hd => (s2 d hd).2.2.1) (fun d a b => (s3 d a b).1)).trans s4, (sum_12 hk (fun d hd => (s2 d hd).2.2.2.1) (fun d a b => (s3 d a b).2.1)).trans s5, (sum_12 hk (fun d hd => (s2 d hd).2.2.2.2.1) (fun d a b => (s3 d a b).2.2)).trans s6⟩
theorem sum_n1 {r : Nat → Int32} (h : n1 r) (hI : RI r) : sumN (fun d => r (6 * d + 15)) (kn r) = sumN (fun d => r (6 * d + 16)) (kn r) + sumN (fun d => r (6 * d + 17)) (kn r) + nI (mn r) := by
  have key : ∀ n, n ≤ kn r → sumN (fun d => r (6 * d + 15)) n = sumN (fun d => r (6 * d + 16)) n + sumN (fun d => r (6 * d + 17)) n + nI (cnt (fun d => r (6 * d + 14) ≠ (-5)) n) := by
    intro n
    induction n with
    | zero => exact fun _ => rfl
    | succ n ih =>
      intro hn
      show sumN (fun d => r (6 * d + 15)) n + r (6 * n + 15) = sumN (fun d => r (6 * d + 16)) n + r (6 * n + 16) + (sumN (fun d => r (6 * d + 17)) n + r (6 * n + 17)) + nI (cnt (fun d => r (6 * d + 14) ≠ (-5)) (n + 1))
      rw [ih (by omega), h n (by omega)]
      have ac : ∀ a b c x y w : Int32, a + b + c + (x + y + w) = a + x + (b + y) + (c + w) := fun a b c x y w => by ac_rfl
      rw [ac]
      congr 1
      by_cases e : r (6 * n + 14) = (-5)
      · rw [if_pos e, cnt_f (P := fun d => r (6 * d + 14) ≠ (-5)) (fun q => q e)]
        exact nI_addc (b := 0) rfl
      · rw [if_neg e, cnt_t (P := fun d => r (6 * d + 14) ≠ (-5)) e]
        exact nI_addc rfl
  rw [key _ (Nat.le_refl _), hI.2.2.2]
theorem mn_kn {r : Nat → Int32} (hI : RI r) : mn r ≤ kn r := by
  rw [← hI.2.2.2]
  exact cnt_le _ _
theorem le10 {B : Nat} {r : Nat → Int32} (h : n2 B r) (hB : B ≤ 99999) : ¬ r 10 > r 8 := by
  obtain ⟨D, S, e, a, b, ⟨D1, D2⟩, ⟨S1, S2⟩, -, ⟨a1, b1, ab, b2⟩, -⟩ := h
  show ¬ r 8 < r 10
  rw [a1, b1, nI_ltI (by omega) (by omega)]
  omega
noncomputable def frI (r : Nat → Int32) (m : Nat) : Int32 := itr (fun d a => a ||| (b2 (r (6 * d + 14) = (-5)) <<< (nI d &&& 31))) (nI 0) m
def suI (r : Nat → Int32) (q n : Nat) : Int32 := itr (fun d a => a + ((r (5 * q + 88) >>> (nI d &&& 31)) &&& nI 1) * r (6 * d + 13)) (r (6 * (pd r q) + 13)) n
theorem frI_f {r : Nat → Int32} {d : Nat} (h : ¬ r (6 * d + 14) = (-5)) : frI r d ||| nI 0 = frI r (d + 1) := by
  show _ = frI r d ||| (b2 (r (6 * d + 14) = (-5)) <<< (nI d &&& 31))
  rw [b2_shl, cif_f h]
  rfl
theorem frI_t {r : Nat → Int32} {d : Nat} (h : r (6 * d + 14) = (-5)) : frI r d ||| (nI 1 <<< (nI d &&& 31)) = frI r (d + 1) := by
  show _ = frI r d ||| (b2 (r (6 * d + 14) = (-5)) <<< (nI d &&& 31))
  rw [b2_shl, cif_t h]
theorem suI_t {r : Nat → Int32} {q d : Nat} (h : (r (5 * q + 88) >>> (nI d &&& 31)) &&& nI 1 = nI 1) : suI r q d + r (6 * d + 13) = suI r q (d + 1) := by
  show _ = suI r q d + ((r (5 * q + 88) >>> (nI d &&& 31)) &&& nI 1) * r (6 * d + 13)
  rw [h]
  congr 1
  exact (Int32.one_mul _).symm
theorem suI_f {r : Nat → Int32} {q d : Nat} (h : ¬ (r (5 * q + 88) >>> (nI d &&& 31)) &&& nI 1 = nI 1) : suI r q d + nI 0 = suI r q (d + 1) := by
  show _ = suI r q d + ((r (5 * q + 88) >>> (nI d &&& 31)) &&& nI 1) * r (6 * d + 13)
  rw [(and1 _).resolve_right h]
  congr 1
  exact Int32.zero_mul.symm
theorem bef_gt {f : Nat → Int32} {o q : Nat} (h : bef f o q) : ¬ f q > f o := by
  show ¬ f o < f q
  rcases h with h | ⟨h, -⟩
  · rw [i32_lt] at *
    omega
  · rw [h, i32_lt]
    omega
theorem bef_ge {f : Nat → Int32} {o q : Nat} (h : bef f o q) (e : f q = f o) : o ≤ q := by
  rcases h with h | ⟨-, h⟩
  · rw [e, i32_lt] at h
    omega
  · omega
set_option maxHeartbeats 4000000 in
set_option maxRecDepth 100000 in
theorem c_L_petitions (l : Launch) (J : JJ) (z : ZZ) (ad : Nat → Nat) (G : GG) (hz : z.2 ≤ 1) (r : Nat → Int32) (n B : Nat) (hv : Hv G r n) (hI : Iv B r) (hB : B ≤ 99999) : MI l J z ad yL_petitions cL_petitions 11 .boolean 5 [.ref (ad 0)] G (fun ans uG => ans = (nI 1) ∧ uG = (G)) := by
  refine MZ.go (by decide) (Nat.le_of_ble_eq_true rfl) ?_
  intro pr e s m args below meth c ls Q X h hl hret
  have hx := X.1
  have hb := X.2.1
  have hown := X.2.2.2.1
  have hts := X.2.2.2.2
  have hl : lv_has ls 11 [(0, .ref (ad 0))] := hl
  have hR := hv.rep
  have h14 := hv.at
  have hW := hI.1.1
  obtain ⟨⟨w1, w2⟩, ⟨w3, w4⟩, ⟨w5, w6⟩, w7, w8⟩ := hI.1.1
  have hnn := hv.2.2.1
  have o1 := hI.1.2.1
  have o2 := hI.1.2.2.1
  have hmk := mn_kn hI.1
  obtain ⟨s1, s2, s3⟩ := sg_ok r
  refine lv_iconst (v := nI 0) hx hb dL_petitions_0 (by decide) ?_
  refine lv_istore_n (lv' := [(1, .int (nI 0)), (0, .ref (ad 0))]) hx hb dL_petitions_1 rfl hl (by decide) rfl (fun ls hl => ?_)
  refine lv_iconst (v := nI 0) hx hb dL_petitions_2 (by decide) ?_
  refine lv_istore_n (lv' := [(2, .int (nI 0)), (1, .int (nI 0)), (0, .ref (ad 0))]) hx hb dL_petitions_3 rfl hl (by decide) rfl (fun ls hl => ?_)
  refine lv_iconst (v := nI 0) hx hb dL_petitions_4 (by decide) ?_
  refine lv_istore_n (lv' := [(3, .int (nI 0)), (2, .int (nI 0)), (1, .int (nI 0)), (0, .ref (ad 0))]) hx hb dL_petitions_5 rfl hl (by decide) rfl (fun ls hl => ?_)
  refine lv_iconst (v := nI 0) hx hb dL_petitions_6 (by decide) ?_
  refine lv_istore (lv' := [(4, .int (nI 0)), (3, .int (nI 0)), (2, .int (nI 0)), (1, .int (nI 0)), (0, .ref (ad 0))]) hx hb dL_petitions_7 hl (by decide) rfl (fun ls hl => ?_)
  refine lv_iconst (v := nI 0) hx hb dL_petitions_9 (by decide) ?_
  refine lv_istore (lv' := [(5, .int (nI 0)), (4, .int (nI 0)), (3, .int (nI 0)), (2, .int (nI 0)), (1, .int (nI 0)), (0, .ref (ad 0))]) hx hb dL_petitions_10 hl (by decide) rfl (fun ls hl => ?_)
  have hl : lv_has ls 11 [(5, .int (nI 0)), (4, .int (sumN (fun d => r (6 * d + 17)) 0)), (3, .int (sumN (fun d => r (6 * d + 16)) 0)), (2, .int (sumN (fun d => r (6 * d + 15)) 0)), (1, .int (frI r 0)), (0, .ref (ad 0))] := hl
  have LP_12 : ∀ (k_12 i_12 : Nat), (kn r) + 1 ≤ i_12 + k_12 → i_12 ≤ (kn r) → ∀ (H : Heap) (locs : List Loc) (ls : Array Slot), HG J z ad s G H locs → lv_has ls 11 [(0, .ref (ad 0)), (1, .int (frI r i_12)), (2, .int (sumN (fun d => r (6 * d + 15)) i_12)), (3, .int (sumN (fun d => r (6 * d + 16)) i_12)), (4, .int (sumN (fun d => r (6 * d + 17)) i_12)), (5, .int (nI i_12))] → W pr l e (rmD 5 0 0) s m args below meth c H locs 0 0 Q (F0 m 12 ls []) := by
    intro k_12
    induction k_12 with
    | zero =>
      intro i_12 g1 g2
      exact absurd g1 (by omega)
    | succ k_12 ih_12 =>
      intro i_12 g1_12 g2_12  H locs ls h hl
      refine lv_iload hx hb dL_petitions_12 (lv_at hl 5 rfl) ?_
      refine lv_aload_n hx hb dL_petitions_14 rfl (lv_at hl 0 rfl) ?_
      refine lv_iconst (v := nI 3) hx hb dL_petitions_15 (by decide) ?_
      refine rg_civd (As := [.int (nI 3)]) (rest := [.int (nI i_12)]) X hl.1 h (c_X7_count l J z ad G r hR (nI n) (G 203 1) h14 rfl (nI 3)) mw_103 mw_104 mw_105 mw_2 mw_106 pdX7_count (by decide) (xo_0 J ad _) rfl rfl ⟨Nat.le_of_ble_eq_true rfl, Nat.le_of_ble_eq_true rfl⟩ ⟨Nat.le_of_ble_eq_true rfl, Nat.le_of_ble_eq_true rfl⟩ rfl (Nat.le_of_ble_eq_true rfl) dL_petitions_16 (fun H locs h => ?_)
      refine lv_as (y := nI ((kn r))) (kn_ct hI.1) ?_
      refine lv_icmp_ge (tgt := 144) hx hb dL_petitions_19 (by decide) (fun c_19 => ?_) (fun c_19 => ?_)
      · rw [nI_leI (by omega) (by omega)] at c_19
        have ex_12 : i_12 = kn r := by omega
        rw [ex_12] at hl
        refine lv_iconst (v := nI 0) hx hb dL_petitions_144 (by decide) ?_
        refine lv_istore (lv' := [(5, .int (nI 0)), (0, .ref (ad 0)), (1, .int (frI r (kn r))), (2, .int (sumN (fun d => r (6 * d + 15)) (kn r))), (3, .int (sumN (fun d => r (6 * d + 16)) (kn r))), (4, .int (sumN (fun d => r (6 * d + 17)) (kn r)))]) hx hb dL_petitions_145 hl (by decide) rfl (fun ls hl => ?_)
        refine lv_iconst (v := nI 0) hx hb dL_petitions_147 (by decide) ?_
        refine lv_istore (lv' := [(6, .int (nI 0)), (5, .int (nI 0)), (0, .ref (ad 0)), (1, .int (frI r (kn r))), (2, .int (sumN (fun d => r (6 * d + 15)) (kn r))), (3, .int (sumN (fun d => r (6 * d + 16)) (kn r))), (4, .int (sumN (fun d => r (6 * d + 17)) (kn r)))]) hx hb dL_petitions_148 hl (by decide) rfl (fun ls hl => ?_)
        have hl : lv_has ls 11 [(6, .int (nI 0)), (5, .int (hdI r (sg r) 0)), (0, .ref (ad 0)), (1, .int (frI r (kn r))), (2, .int (sumN (fun d => r (6 * d + 15)) (kn r))), (3, .int (sumN (fun d => r (6 * d + 16)) (kn r))), (4, .int (sumN (fun d => r (6 * d + 17)) (kn r)))] := hl
        have LP_150 : ∀ (k_150 i_150 : Nat), (mn r) + 1 ≤ i_150 + k_150 → i_150 ≤ (mn r) → ∀ (H : Heap) (locs : List Loc) (ls : Array Slot), HG J z ad s G H locs → lv_has ls 11 [(0, .ref (ad 0)), (1, .int (frI r (kn r))), (2, .int (sumN (fun d => r (6 * d + 15)) (kn r))), (3, .int (sumN (fun d => r (6 * d + 16)) (kn r))), (4, .int (sumN (fun d => r (6 * d + 17)) (kn r))), (5, .int (hdI r (sg r) i_150)), (6, .int (nI i_150))] → W pr l e (rmD 5 0 0) s m args below meth c H locs 0 0 Q (F0 m 150 ls []) := by
          intro k_150
          induction k_150 with
          | zero =>
            intro i_150 g1 g2
            exact absurd g1 (by omega)
          | succ k_150 ih_150 =>
            intro i_150 g1_150 g2_150  H locs ls h hl
            refine lv_iload hx hb dL_petitions_150 (lv_at hl 6 rfl) ?_
            refine lv_aload_n hx hb dL_petitions_152 rfl (lv_at hl 0 rfl) ?_
            refine lv_bipush (v := nI 6) hx hb dL_petitions_153 (by decide) ?_
            refine rg_civd (As := [.int (nI 6)]) (rest := [.int (nI i_150)]) X hl.1 h (c_X7_count l J z ad G r hR (nI n) (G 203 1) h14 rfl (nI 6)) mw_103 mw_104 mw_105 mw_2 mw_106 pdX7_count (by decide) (xo_0 J ad _) rfl rfl ⟨Nat.le_of_ble_eq_true rfl, Nat.le_of_ble_eq_true rfl⟩ ⟨Nat.le_of_ble_eq_true rfl, Nat.le_of_ble_eq_true rfl⟩ rfl (Nat.le_of_ble_eq_true rfl) dL_petitions_155 (fun H locs h => ?_)
            refine lv_as (y := nI ((mn r))) (mn_ct hI.1) ?_
            refine lv_icmp_ge (tgt := 406) hx hb dL_petitions_158 (by decide) (fun c_158 => ?_) (fun c_158 => ?_)
            · rw [nI_leI (by omega) (by omega)] at c_158
              have ex_150 : i_150 = mn r := by omega
              rw [ex_150] at hl
              refine lv_iload hx hb dL_petitions_406 (lv_at hl 5 rfl) ?_
              refine lv_iconst (v := nI 1) hx hb dL_petitions_408 (by decide) ?_
              refine lv_aload_n hx hb dL_petitions_409 rfl (lv_at hl 0 rfl) ?_
              refine lv_bipush (v := nI 6) hx hb dL_petitions_410 (by decide) ?_
              refine rg_civd (As := [.int (nI 6)]) (rest := [.int (nI 1), .int (hdI r (sg r) (mn r))]) X hl.1 h (c_X7_count l J z ad G r hR (nI n) (G 203 1) h14 rfl (nI 6)) mw_103 mw_104 mw_105 mw_2 mw_106 pdX7_count (by decide) (xo_0 J ad _) rfl rfl ⟨Nat.le_of_ble_eq_true rfl, Nat.le_of_ble_eq_true rfl⟩ ⟨Nat.le_of_ble_eq_true rfl, Nat.le_of_ble_eq_true rfl⟩ rfl (Nat.le_of_ble_eq_true rfl) dL_petitions_412 (fun H locs h => ?_)
              refine lv_as (y := nI ((mn r))) (mn_ct hI.1) ?_
              refine lv_ishl hx hb dL_petitions_415 ?_
              refine lv_iconst (v := nI 1) hx hb dL_petitions_416 (by decide) ?_
              refine lv_isub hx hb dL_petitions_417 ?_
              refine lv_icmp_ne (tgt := 508) hx hb dL_petitions_418 (by decide) (fun c_418 => absurd (hd_all w4) c_418) (fun c_418 => ?_)
              refine lv_aload_n hx hb dL_petitions_421 rfl (lv_at hl 0 rfl) ?_
              refine rg_civd (As := []) (rest := []) X hl.1 h (c_X7_free l J z ad G r hR ) mw_246 mw_247 mw_248 mw_2 mw_249 pdX7_free (by decide) (xo_0 J ad _) rfl rfl ⟨Nat.le_of_ble_eq_true rfl, Nat.le_of_ble_eq_true rfl⟩ ⟨Nat.le_of_ble_eq_true rfl, Nat.le_of_ble_eq_true rfl⟩ rfl (Nat.le_of_ble_eq_true rfl) dL_petitions_422 (fun H locs h => ?_)
              refine lv_iload_n hx hb dL_petitions_425 rfl (lv_at hl 1 rfl) ?_
              refine lv_icmp_ne (tgt := 508) hx hb dL_petitions_426 (by decide) (fun c_426 => absurd (rfl) c_426) (fun c_426 => ?_)
              refine lv_iload_n hx hb dL_petitions_429 rfl (lv_at hl 2 rfl) ?_
              refine lv_aload_n hx hb dL_petitions_430 rfl (lv_at hl 0 rfl) ?_
              refine lv_bipush (v := nI 7) hx hb dL_petitions_431 (by decide) ?_
              refine rg_civd (As := [.int (nI 7)]) (rest := [.int (sumN (fun d => r (6 * d + 15)) (kn r))]) X hl.1 h (c_X7_count l J z ad G r hR (nI n) (G 203 1) h14 rfl (nI 7)) mw_103 mw_104 mw_105 mw_2 mw_106 pdX7_count (by decide) (xo_0 J ad _) rfl rfl ⟨Nat.le_of_ble_eq_true rfl, Nat.le_of_ble_eq_true rfl⟩ ⟨Nat.le_of_ble_eq_true rfl, Nat.le_of_ble_eq_true rfl⟩ rfl (Nat.le_of_ble_eq_true rfl) dL_petitions_433 (fun H locs h => ?_)
              refine lv_as (y := r 7) (ct_at (by omega)) ?_
              refine lv_icmp_ne (tgt := 508) hx hb dL_petitions_436 (by decide) (fun c_436 => absurd ((sums hR).1) c_436) (fun c_436 => ?_)
              refine lv_iload_n hx hb dL_petitions_439 rfl (lv_at hl 3 rfl) ?_
              refine lv_aload_n hx hb dL_petitions_440 rfl (lv_at hl 0 rfl) ?_
              refine lv_bipush (v := nI 8) hx hb dL_petitions_441 (by decide) ?_
              refine rg_civd (As := [.int (nI 8)]) (rest := [.int (sumN (fun d => r (6 * d + 16)) (kn r))]) X hl.1 h (c_X7_count l J z ad G r hR (nI n) (G 203 1) h14 rfl (nI 8)) mw_103 mw_104 mw_105 mw_2 mw_106 pdX7_count (by decide) (xo_0 J ad _) rfl rfl ⟨Nat.le_of_ble_eq_true rfl, Nat.le_of_ble_eq_true rfl⟩ ⟨Nat.le_of_ble_eq_true rfl, Nat.le_of_ble_eq_true rfl⟩ rfl (Nat.le_of_ble_eq_true rfl) dL_petitions_443 (fun H locs h => ?_)
              refine lv_as (y := r 8) (ct_at (by omega)) ?_
              refine lv_icmp_ne (tgt := 508) hx hb dL_petitions_446 (by decide) (fun c_446 => absurd ((sums hR).2.1) c_446) (fun c_446 => ?_)
              refine lv_iload hx hb dL_petitions_449 (lv_at hl 4 rfl) ?_
              refine lv_aload_n hx hb dL_petitions_451 rfl (lv_at hl 0 rfl) ?_
              refine lv_bipush (v := nI 9) hx hb dL_petitions_452 (by decide) ?_
              refine rg_civd (As := [.int (nI 9)]) (rest := [.int (sumN (fun d => r (6 * d + 17)) (kn r))]) X hl.1 h (c_X7_count l J z ad G r hR (nI n) (G 203 1) h14 rfl (nI 9)) mw_103 mw_104 mw_105 mw_2 mw_106 pdX7_count (by decide) (xo_0 J ad _) rfl rfl ⟨Nat.le_of_ble_eq_true rfl, Nat.le_of_ble_eq_true rfl⟩ ⟨Nat.le_of_ble_eq_true rfl, Nat.le_of_ble_eq_true rfl⟩ rfl (Nat.le_of_ble_eq_true rfl) dL_petitions_454 (fun H locs h => ?_)
              refine lv_as (y := r 9) (ct_at (by omega)) ?_
              refine lv_icmp_ne (tgt := 508) hx hb dL_petitions_457 (by decide) (fun c_457 => absurd ((sums hR).2.2) c_457) (fun c_457 => ?_)
              refine lv_iload_n hx hb dL_petitions_460 rfl (lv_at hl 2 rfl) ?_
              refine lv_iload_n hx hb dL_petitions_461 rfl (lv_at hl 3 rfl) ?_
              refine lv_iload hx hb dL_petitions_462 (lv_at hl 4 rfl) ?_
              refine lv_iadd hx hb dL_petitions_464 ?_
              refine lv_aload_n hx hb dL_petitions_465 rfl (lv_at hl 0 rfl) ?_
              refine lv_bipush (v := nI 6) hx hb dL_petitions_466 (by decide) ?_
              refine rg_civd (As := [.int (nI 6)]) (rest := [.int ((sumN (fun d => r (6 * d + 16)) (kn r)) + (sumN (fun d => r (6 * d + 17)) (kn r))), .int (sumN (fun d => r (6 * d + 15)) (kn r))]) X hl.1 h (c_X7_count l J z ad G r hR (nI n) (G 203 1) h14 rfl (nI 6)) mw_103 mw_104 mw_105 mw_2 mw_106 pdX7_count (by decide) (xo_0 J ad _) rfl rfl ⟨Nat.le_of_ble_eq_true rfl, Nat.le_of_ble_eq_true rfl⟩ ⟨Nat.le_of_ble_eq_true rfl, Nat.le_of_ble_eq_true rfl⟩ rfl (Nat.le_of_ble_eq_true rfl) dL_petitions_468 (fun H locs h => ?_)
              refine lv_as (y := nI ((mn r))) (mn_ct hI.1) ?_
              refine lv_iadd hx hb dL_petitions_471 ?_
              refine lv_icmp_ne (tgt := 508) hx hb dL_petitions_472 (by decide) (fun c_472 => absurd (sum_n1 hI.2.1 hI.1) c_472) (fun c_472 => ?_)
              refine lv_aload_n hx hb dL_petitions_475 rfl (lv_at hl 0 rfl) ?_
              refine lv_bipush (v := nI 10) hx hb dL_petitions_476 (by decide) ?_
              refine rg_civd (As := [.int (nI 10)]) (rest := []) X hl.1 h (c_X7_count l J z ad G r hR (nI n) (G 203 1) h14 rfl (nI 10)) mw_103 mw_104 mw_105 mw_2 mw_106 pdX7_count (by decide) (xo_0 J ad _) rfl rfl ⟨Nat.le_of_ble_eq_true rfl, Nat.le_of_ble_eq_true rfl⟩ ⟨Nat.le_of_ble_eq_true rfl, Nat.le_of_ble_eq_true rfl⟩ rfl (Nat.le_of_ble_eq_true rfl) dL_petitions_478 (fun H locs h => ?_)
              refine lv_as (y := r 10) (ct_at (by omega)) ?_
              refine lv_aload_n hx hb dL_petitions_481 rfl (lv_at hl 0 rfl) ?_
              refine lv_bipush (v := nI 8) hx hb dL_petitions_482 (by decide) ?_
              refine rg_civd (As := [.int (nI 8)]) (rest := [.int (r 10)]) X hl.1 h (c_X7_count l J z ad G r hR (nI n) (G 203 1) h14 rfl (nI 8)) mw_103 mw_104 mw_105 mw_2 mw_106 pdX7_count (by decide) (xo_0 J ad _) rfl rfl ⟨Nat.le_of_ble_eq_true rfl, Nat.le_of_ble_eq_true rfl⟩ ⟨Nat.le_of_ble_eq_true rfl, Nat.le_of_ble_eq_true rfl⟩ rfl (Nat.le_of_ble_eq_true rfl) dL_petitions_484 (fun H locs h => ?_)
              refine lv_as (y := r 8) (ct_at (by omega)) ?_
              refine lv_icmp_gt (tgt := 508) hx hb dL_petitions_487 (by decide) (fun c_487 => absurd c_487 (le10 hI.2.2.1 hB)) (fun c_487 => ?_)
              refine lv_aload_n hx hb dL_petitions_490 rfl (lv_at hl 0 rfl) ?_
              refine lv_bipush (v := nI 6) hx hb dL_petitions_491 (by decide) ?_
              refine rg_civd (As := [.int (nI 6)]) (rest := []) X hl.1 h (c_X7_count l J z ad G r hR (nI n) (G 203 1) h14 rfl (nI 6)) mw_103 mw_104 mw_105 mw_2 mw_106 pdX7_count (by decide) (xo_0 J ad _) rfl rfl ⟨Nat.le_of_ble_eq_true rfl, Nat.le_of_ble_eq_true rfl⟩ ⟨Nat.le_of_ble_eq_true rfl, Nat.le_of_ble_eq_true rfl⟩ rfl (Nat.le_of_ble_eq_true rfl) dL_petitions_493 (fun H locs h => ?_)
              refine lv_as (y := nI ((mn r))) (mn_ct hI.1) ?_
              refine lv_aload_n hx hb dL_petitions_496 rfl (lv_at hl 0 rfl) ?_
              refine lv_iconst (v := nI 3) hx hb dL_petitions_497 (by decide) ?_
              refine rg_civd (As := [.int (nI 3)]) (rest := [.int (nI ((mn r)))]) X hl.1 h (c_X7_count l J z ad G r hR (nI n) (G 203 1) h14 rfl (nI 3)) mw_103 mw_104 mw_105 mw_2 mw_106 pdX7_count (by decide) (xo_0 J ad _) rfl rfl ⟨Nat.le_of_ble_eq_true rfl, Nat.le_of_ble_eq_true rfl⟩ ⟨Nat.le_of_ble_eq_true rfl, Nat.le_of_ble_eq_true rfl⟩ rfl (Nat.le_of_ble_eq_true rfl) dL_petitions_498 (fun H locs h => ?_)
              refine lv_as (y := nI ((kn r))) (kn_ct hI.1) ?_
              refine lv_icmp_gt (tgt := 508) hx hb dL_petitions_501 (by decide) (fun c_501 => absurd c_501 (fun q => by have := (nI_ltI (by omega) (by omega)).mp q; omega)) (fun c_501 => ?_)
              refine lv_iconst (v := nI 1) hx hb dL_petitions_504 (by decide) ?_
              refine lv_goto (tgt := 509) hx hb dL_petitions_505 (by decide) ?_
              exact hret (nI 1) G _ _ 509 _ (⟨rfl, rfl⟩) h rfl dL_petitions_509
            · rw [nI_leI (by omega) (by omega)] at c_158
              have v_0 := (w7 i_150 (by omega)).1
              have v_1 := (w7 i_150 (by omega)).2.1
              refine lv_aload_n hx hb dL_petitions_161 rfl (lv_at hl 0 rfl) ?_
              refine lv_aload_n hx hb dL_petitions_162 rfl (lv_at hl 0 rfl) ?_
              refine lv_iload hx hb dL_petitions_163 (lv_at hl 6 rfl) ?_
              refine lv_iconst (v := nI 0) hx hb dL_petitions_165 (by decide) ?_
              refine rg_civd (As := [.int (nI i_150), .int (nI 0)]) (rest := [.ref (ad 0)]) X hl.1 h (c_X7_petitionOf l J z ad G r hR (nI i_150) (nI 0)) mw_220 mw_221 mw_222 mw_2 mw_223 pdX7_petitionOf (by decide) (xo_0 J ad _) rfl rfl ⟨Nat.le_of_ble_eq_true rfl, Nat.le_of_ble_eq_true rfl⟩ ⟨Nat.le_of_ble_eq_true rfl, Nat.le_of_ble_eq_true rfl⟩ rfl (Nat.le_of_ble_eq_true rfl) dL_petitions_166 (fun H locs h => ?_)
              refine lv_as (y := nI ((pd r i_150))) ((po_lo w4 (by omega) (by omega)).trans ((congrArg r (by omega)).trans v_0)) ?_
              refine lv_iconst (v := nI 1) hx hb dL_petitions_169 (by decide) ?_
              refine rg_civd (As := [.int (nI ((pd r i_150))), .int (nI 1)]) (rest := []) X hl.1 h (c_X7_drone l J z ad G r hR (nI ((pd r i_150))) (nI 1)) mw_176 mw_177 mw_178 mw_2 mw_179 pdX7_drone (by decide) (xo_0 J ad _) rfl rfl ⟨Nat.le_of_ble_eq_true rfl, Nat.le_of_ble_eq_true rfl⟩ ⟨Nat.le_of_ble_eq_true rfl, Nat.le_of_ble_eq_true rfl⟩ rfl (Nat.le_of_ble_eq_true rfl) dL_petitions_170 (fun H locs h => ?_)
              refine lv_as (y := r (6 * (pd r i_150) + 13)) ((dr_lo w2 (by omega) (by omega)).trans (congrArg r (by omega))) ?_
              refine lv_istore (lv' := [(7, .int (r (6 * (pd r i_150) + 13))), (0, .ref (ad 0)), (1, .int (frI r (kn r))), (2, .int (sumN (fun d => r (6 * d + 15)) (kn r))), (3, .int (sumN (fun d => r (6 * d + 16)) (kn r))), (4, .int (sumN (fun d => r (6 * d + 17)) (kn r))), (5, .int (hdI r (sg r) i_150)), (6, .int (nI i_150))]) hx hb dL_petitions_173 hl (by decide) rfl (fun ls hl => ?_)
              refine lv_aload_n hx hb dL_petitions_175 rfl (lv_at hl 1 rfl) ?_
              refine lv_iload hx hb dL_petitions_176 (lv_at hl 7 rfl) ?_
              refine lv_iconst (v := nI 5) hx hb dL_petitions_178 (by decide) ?_
              refine rg_civd (As := [.int (nI i_150), .int (nI 5)]) (rest := []) X hl.1 h (c_X7_petitionOf l J z ad G r hR (nI i_150) (nI 5)) mw_220 mw_221 mw_222 mw_2 mw_223 pdX7_petitionOf (by decide) (xo_0 J ad _) rfl rfl ⟨Nat.le_of_ble_eq_true rfl, Nat.le_of_ble_eq_true rfl⟩ ⟨Nat.le_of_ble_eq_true rfl, Nat.le_of_ble_eq_true rfl⟩ rfl (Nat.le_of_ble_eq_true rfl) dL_petitions_179 (fun H locs h => ?_)
              refine lv_as (y := r (5 * i_150 + 88)) (po_5 w4 (by omega)) ?_
              refine lv_istore (lv' := [(8, .int (r (5 * i_150 + 88))), (7, .int (r (6 * (pd r i_150) + 13))), (0, .ref (ad 0)), (1, .int (frI r (kn r))), (2, .int (sumN (fun d => r (6 * d + 15)) (kn r))), (3, .int (sumN (fun d => r (6 * d + 16)) (kn r))), (4, .int (sumN (fun d => r (6 * d + 17)) (kn r))), (5, .int (hdI r (sg r) i_150)), (6, .int (nI i_150))]) hx hb dL_petitions_182 hl (by decide) rfl (fun ls hl => ?_)
              refine lv_iconst (v := nI 0) hx hb dL_petitions_184 (by decide) ?_
              refine lv_istore (lv' := [(9, .int (nI 0)), (8, .int (r (5 * i_150 + 88))), (7, .int (r (6 * (pd r i_150) + 13))), (0, .ref (ad 0)), (1, .int (frI r (kn r))), (2, .int (sumN (fun d => r (6 * d + 15)) (kn r))), (3, .int (sumN (fun d => r (6 * d + 16)) (kn r))), (4, .int (sumN (fun d => r (6 * d + 17)) (kn r))), (5, .int (hdI r (sg r) i_150)), (6, .int (nI i_150))]) hx hb dL_petitions_185 hl (by decide) rfl (fun ls hl => ?_)
              have hl : lv_has ls 11 [(9, .int (nI 0)), (8, .int (r (5 * i_150 + 88))), (7, .int (suI r i_150 0)), (0, .ref (ad 0)), (1, .int (frI r (kn r))), (2, .int (sumN (fun d => r (6 * d + 15)) (kn r))), (3, .int (sumN (fun d => r (6 * d + 16)) (kn r))), (4, .int (sumN (fun d => r (6 * d + 17)) (kn r))), (5, .int (hdI r (sg r) i_150)), (6, .int (nI i_150))] := hl
              have LP_187 : ∀ (k_187 i_187 : Nat), (kn r) + 1 ≤ i_187 + k_187 → i_187 ≤ (kn r) → ∀ (H : Heap) (locs : List Loc) (ls : Array Slot), HG J z ad s G H locs → lv_has ls 11 [(0, .ref (ad 0)), (1, .int (frI r (kn r))), (2, .int (sumN (fun d => r (6 * d + 15)) (kn r))), (3, .int (sumN (fun d => r (6 * d + 16)) (kn r))), (4, .int (sumN (fun d => r (6 * d + 17)) (kn r))), (5, .int (hdI r (sg r) i_150)), (6, .int (nI i_150)), (7, .int (suI r i_150 i_187)), (8, .int (r (5 * i_150 + 88))), (9, .int (nI i_187))] → W pr l e (rmD 5 0 0) s m args below meth c H locs 0 0 Q (F0 m 187 ls []) := by
                intro k_187
                induction k_187 with
                | zero =>
                  intro i_187 g1 g2
                  exact absurd g1 (by omega)
                | succ k_187 ih_187 =>
                  intro i_187 g1_187 g2_187  H locs ls h hl
                  refine lv_iload hx hb dL_petitions_187 (lv_at hl 9 rfl) ?_
                  refine lv_aload_n hx hb dL_petitions_189 rfl (lv_at hl 0 rfl) ?_
                  refine lv_iconst (v := nI 3) hx hb dL_petitions_190 (by decide) ?_
                  refine rg_civd (As := [.int (nI 3)]) (rest := [.int (nI i_187)]) X hl.1 h (c_X7_count l J z ad G r hR (nI n) (G 203 1) h14 rfl (nI 3)) mw_103 mw_104 mw_105 mw_2 mw_106 pdX7_count (by decide) (xo_0 J ad _) rfl rfl ⟨Nat.le_of_ble_eq_true rfl, Nat.le_of_ble_eq_true rfl⟩ ⟨Nat.le_of_ble_eq_true rfl, Nat.le_of_ble_eq_true rfl⟩ rfl (Nat.le_of_ble_eq_true rfl) dL_petitions_191 (fun H locs h => ?_)
                  refine lv_as (y := nI ((kn r))) (kn_ct hI.1) ?_
                  refine lv_icmp_ge (tgt := 287) hx hb dL_petitions_194 (by decide) (fun c_194 => ?_) (fun c_194 => ?_)
                  · rw [nI_leI (by omega) (by omega)] at c_194
                    have ex_187 : i_187 = kn r := by omega
                    rw [ex_187] at hl
                    have hl : lv_has ls 11 [(0, .ref (ad 0)), (1, .int (frI r (kn r))), (2, .int (sumN (fun d => r (6 * d + 15)) (kn r))), (3, .int (sumN (fun d => r (6 * d + 16)) (kn r))), (4, .int (sumN (fun d => r (6 * d + 17)) (kn r))), (5, .int (hdI r (sg r) i_150)), (6, .int (nI i_150)), (7, .int (supp r i_150)), (8, .int (r (5 * i_150 + 88))), (9, .int (nI ((kn r))))] := hl
                    refine lv_iload hx hb dL_petitions_287 (lv_at hl 6 rfl) ?_
                    refine lv_if_ne (tgt := 296) hx hb dL_petitions_289 (by decide) (fun c_289 => ?_) (fun c_289 => ?_)
                    · rw [nz_eq (by omega)] at c_289
                      refine lv_aload_n hx hb dL_petitions_296 rfl (lv_at hl 0 rfl) ?_
                      refine lv_iload hx hb dL_petitions_297 (lv_at hl 6 rfl) ?_
                      refine lv_iconst (v := nI 1) hx hb dL_petitions_299 (by decide) ?_
                      refine lv_isub hx hb dL_petitions_300 ?_
                      refine lv_as (y := nI ((i_150 - 1))) (nI_subc (by omega)) ?_
                      refine rg_civd (As := [.int (nI ((i_150 - 1)))]) (rest := []) X hl.1 h (c_X7_heard l J z ad G r hR (nI ((i_150 - 1)))) mw_234 mw_235 mw_236 mw_2 mw_237 pdX7_heard (by decide) (xo_0 J ad _) rfl rfl ⟨Nat.le_of_ble_eq_true rfl, Nat.le_of_ble_eq_true rfl⟩ ⟨Nat.le_of_ble_eq_true rfl, Nat.le_of_ble_eq_true rfl⟩ rfl (Nat.le_of_ble_eq_true rfl) dL_petitions_301 (fun H locs h => ?_)
                      refine lv_as (y := nI ((sg r (i_150 - 1)))) (hd_at w4 (by omega)) ?_
                      have hbf := s2 (i_150 - 1) i_150 (by omega) (by omega)
                      have hs9 := s1 (i_150 - 1) (by omega)
                      have hs10 := s1 i_150 (by omega)
                      refine lv_istore (lv' := [(9, .int (nI ((sg r (i_150 - 1))))), (0, .ref (ad 0)), (1, .int (frI r (kn r))), (2, .int (sumN (fun d => r (6 * d + 15)) (kn r))), (3, .int (sumN (fun d => r (6 * d + 16)) (kn r))), (4, .int (sumN (fun d => r (6 * d + 17)) (kn r))), (5, .int (hdI r (sg r) i_150)), (6, .int (nI i_150)), (7, .int (supp r i_150)), (8, .int (r (5 * i_150 + 88)))]) hx hb dL_petitions_304 hl (by decide) rfl (fun ls hl => ?_)
                      refine lv_aload_n hx hb dL_petitions_306 rfl (lv_at hl 1 rfl) ?_
                      refine lv_iload hx hb dL_petitions_307 (lv_at hl 7 rfl) ?_
                      refine rg_civd (As := [.int (nI i_150)]) (rest := []) X hl.1 h (c_X7_heard l J z ad G r hR (nI i_150)) mw_234 mw_235 mw_236 mw_2 mw_237 pdX7_heard (by decide) (xo_0 J ad _) rfl rfl ⟨Nat.le_of_ble_eq_true rfl, Nat.le_of_ble_eq_true rfl⟩ ⟨Nat.le_of_ble_eq_true rfl, Nat.le_of_ble_eq_true rfl⟩ rfl (Nat.le_of_ble_eq_true rfl) dL_petitions_309 (fun H locs h => ?_)
                      refine lv_as (y := nI ((sg r i_150))) (hd_at w4 (by omega)) ?_
                      refine lv_istore (lv' := [(10, .int (nI ((sg r i_150)))), (9, .int (nI ((sg r (i_150 - 1))))), (0, .ref (ad 0)), (1, .int (frI r (kn r))), (2, .int (sumN (fun d => r (6 * d + 15)) (kn r))), (3, .int (sumN (fun d => r (6 * d + 16)) (kn r))), (4, .int (sumN (fun d => r (6 * d + 17)) (kn r))), (5, .int (hdI r (sg r) i_150)), (6, .int (nI i_150)), (7, .int (supp r i_150)), (8, .int (r (5 * i_150 + 88)))]) hx hb dL_petitions_312 hl (by decide) rfl (fun ls hl => ?_)
                      refine lv_iload hx hb dL_petitions_314 (lv_at hl 7 rfl) ?_
                      refine lv_iconst (v := nI 1) hx hb dL_petitions_316 (by decide) ?_
                      refine lv_iload hx hb dL_petitions_317 (lv_at hl 0 rfl) ?_
                      refine lv_ishl hx hb dL_petitions_319 ?_
                      refine lv_ior hx hb dL_petitions_320 ?_
                      refine lv_as (y := hdI r (sg r) (i_150 + 1)) (rfl) ?_
                      refine lv_istore (lv' := [(5, .int (hdI r (sg r) (i_150 + 1))), (10, .int (nI ((sg r i_150)))), (9, .int (nI ((sg r (i_150 - 1))))), (0, .ref (ad 0)), (1, .int (frI r (kn r))), (2, .int (sumN (fun d => r (6 * d + 15)) (kn r))), (3, .int (sumN (fun d => r (6 * d + 16)) (kn r))), (4, .int (sumN (fun d => r (6 * d + 17)) (kn r))), (6, .int (nI i_150)), (7, .int (supp r i_150)), (8, .int (r (5 * i_150 + 88)))]) hx hb dL_petitions_321 hl (by decide) rfl (fun ls hl => ?_)
                      refine lv_aload_n hx hb dL_petitions_323 rfl (lv_at hl 3 rfl) ?_
                      refine lv_iload hx hb dL_petitions_324 (lv_at hl 8 rfl) ?_
                      refine lv_iconst (v := nI 4) hx hb dL_petitions_326 (by decide) ?_
                      refine rg_civd (As := [.int (nI i_150), .int (nI 4)]) (rest := []) X hl.1 h (c_X7_petitionOf l J z ad G r hR (nI i_150) (nI 4)) mw_220 mw_221 mw_222 mw_2 mw_223 pdX7_petitionOf (by decide) (xo_0 J ad _) rfl rfl ⟨Nat.le_of_ble_eq_true rfl, Nat.le_of_ble_eq_true rfl⟩ ⟨Nat.le_of_ble_eq_true rfl, Nat.le_of_ble_eq_true rfl⟩ rfl (Nat.le_of_ble_eq_true rfl) dL_petitions_327 (fun H locs h => ?_)
                      refine lv_as (y := supp r i_150) (po_4 w4 (by omega)) ?_
                      refine lv_iload hx hb dL_petitions_330 (lv_at hl 9 rfl) ?_
                      refine lv_icmp_ne (tgt := 398) hx hb dL_petitions_332 (by decide) (fun c_332 => absurd (rfl) c_332) (fun c_332 => ?_)
                      refine lv_aload_n hx hb dL_petitions_335 rfl (lv_at hl 3 rfl) ?_
                      refine lv_aload_n hx hb dL_petitions_336 rfl (lv_at hl 3 rfl) ?_
                      refine lv_iload hx hb dL_petitions_337 (lv_at hl 8 rfl) ?_
                      refine lv_iconst (v := nI 0) hx hb dL_petitions_339 (by decide) ?_
                      refine rg_civd (As := [.int (nI i_150), .int (nI 0)]) (rest := [.ref (ad 0)]) X hl.1 h (c_X7_petitionOf l J z ad G r hR (nI i_150) (nI 0)) mw_220 mw_221 mw_222 mw_2 mw_223 pdX7_petitionOf (by decide) (xo_0 J ad _) rfl rfl ⟨Nat.le_of_ble_eq_true rfl, Nat.le_of_ble_eq_true rfl⟩ ⟨Nat.le_of_ble_eq_true rfl, Nat.le_of_ble_eq_true rfl⟩ rfl (Nat.le_of_ble_eq_true rfl) dL_petitions_340 (fun H locs h => ?_)
                      refine lv_as (y := nI ((pd r i_150))) ((po_lo w4 (by omega) (by omega)).trans ((congrArg r (by omega)).trans v_0)) ?_
                      refine lv_iconst (v := nI 2) hx hb dL_petitions_343 (by decide) ?_
                      refine rg_civd (As := [.int (nI ((pd r i_150))), .int (nI 2)]) (rest := []) X hl.1 h (c_X7_drone l J z ad G r hR (nI ((pd r i_150))) (nI 2)) mw_176 mw_177 mw_178 mw_2 mw_179 pdX7_drone (by decide) (xo_0 J ad _) rfl rfl ⟨Nat.le_of_ble_eq_true rfl, Nat.le_of_ble_eq_true rfl⟩ ⟨Nat.le_of_ble_eq_true rfl, Nat.le_of_ble_eq_true rfl⟩ rfl (Nat.le_of_ble_eq_true rfl) dL_petitions_344 (fun H locs h => ?_)
                      refine lv_as (y := nI i_150) ((dr_lo w2 (by omega) (by omega)).trans ((congrArg r (by omega)).trans (o1 i_150 (by omega)))) ?_
                      refine lv_iload hx hb dL_petitions_347 (lv_at hl 8 rfl) ?_
                      refine lv_icmp_ne (tgt := 398) hx hb dL_petitions_349 (by decide) (fun c_349 => absurd (rfl) c_349) (fun c_349 => ?_)
                      refine lv_iload hx hb dL_petitions_352 (lv_at hl 8 rfl) ?_
                      refine lv_if_le (tgt := 400) hx hb dL_petitions_354 (by decide) (fun c_354 => absurd c_354 (fun q => c_289 ((nz_le (by omega)).mp q))) (fun c_354 => ?_)
                      refine lv_aload_n hx hb dL_petitions_357 rfl (lv_at hl 3 rfl) ?_
                      refine lv_iload hx hb dL_petitions_358 (lv_at hl 1 rfl) ?_
                      refine lv_iconst (v := nI 4) hx hb dL_petitions_360 (by decide) ?_
                      refine rg_civd (As := [.int (nI ((sg r i_150))), .int (nI 4)]) (rest := []) X hl.1 h (c_X7_petitionOf l J z ad G r hR (nI ((sg r i_150))) (nI 4)) mw_220 mw_221 mw_222 mw_2 mw_223 pdX7_petitionOf (by decide) (xo_0 J ad _) rfl rfl ⟨Nat.le_of_ble_eq_true rfl, Nat.le_of_ble_eq_true rfl⟩ ⟨Nat.le_of_ble_eq_true rfl, Nat.le_of_ble_eq_true rfl⟩ rfl (Nat.le_of_ble_eq_true rfl) dL_petitions_361 (fun H locs h => ?_)
                      refine lv_as (y := supp r (sg r i_150)) (po_4 w4 (by omega)) ?_
                      refine lv_aload_n hx hb dL_petitions_364 rfl (lv_at hl 3 rfl) ?_
                      refine lv_iload hx hb dL_petitions_365 (lv_at hl 2 rfl) ?_
                      refine lv_iconst (v := nI 4) hx hb dL_petitions_367 (by decide) ?_
                      refine rg_civd (As := [.int (nI ((sg r (i_150 - 1)))), .int (nI 4)]) (rest := [.int (supp r (sg r i_150))]) X hl.1 h (c_X7_petitionOf l J z ad G r hR (nI ((sg r (i_150 - 1)))) (nI 4)) mw_220 mw_221 mw_222 mw_2 mw_223 pdX7_petitionOf (by decide) (xo_0 J ad _) rfl rfl ⟨Nat.le_of_ble_eq_true rfl, Nat.le_of_ble_eq_true rfl⟩ ⟨Nat.le_of_ble_eq_true rfl, Nat.le_of_ble_eq_true rfl⟩ rfl (Nat.le_of_ble_eq_true rfl) dL_petitions_368 (fun H locs h => ?_)
                      refine lv_as (y := supp r (sg r (i_150 - 1))) (po_4 w4 (by omega)) ?_
                      refine lv_icmp_gt (tgt := 398) hx hb dL_petitions_371 (by decide) (fun c_371 => absurd c_371 (bef_gt hbf)) (fun c_371 => ?_)
                      refine lv_aload_n hx hb dL_petitions_374 rfl (lv_at hl 3 rfl) ?_
                      refine lv_iload hx hb dL_petitions_375 (lv_at hl 1 rfl) ?_
                      refine lv_iconst (v := nI 4) hx hb dL_petitions_377 (by decide) ?_
                      refine rg_civd (As := [.int (nI ((sg r i_150))), .int (nI 4)]) (rest := []) X hl.1 h (c_X7_petitionOf l J z ad G r hR (nI ((sg r i_150))) (nI 4)) mw_220 mw_221 mw_222 mw_2 mw_223 pdX7_petitionOf (by decide) (xo_0 J ad _) rfl rfl ⟨Nat.le_of_ble_eq_true rfl, Nat.le_of_ble_eq_true rfl⟩ ⟨Nat.le_of_ble_eq_true rfl, Nat.le_of_ble_eq_true rfl⟩ rfl (Nat.le_of_ble_eq_true rfl) dL_petitions_378 (fun H locs h => ?_)
                      refine lv_as (y := supp r (sg r i_150)) (po_4 w4 (by omega)) ?_
                      refine lv_aload_n hx hb dL_petitions_381 rfl (lv_at hl 3 rfl) ?_
                      refine lv_iload hx hb dL_petitions_382 (lv_at hl 2 rfl) ?_
                      refine lv_iconst (v := nI 4) hx hb dL_petitions_384 (by decide) ?_
                      refine rg_civd (As := [.int (nI ((sg r (i_150 - 1)))), .int (nI 4)]) (rest := [.int (supp r (sg r i_150))]) X hl.1 h (c_X7_petitionOf l J z ad G r hR (nI ((sg r (i_150 - 1)))) (nI 4)) mw_220 mw_221 mw_222 mw_2 mw_223 pdX7_petitionOf (by decide) (xo_0 J ad _) rfl rfl ⟨Nat.le_of_ble_eq_true rfl, Nat.le_of_ble_eq_true rfl⟩ ⟨Nat.le_of_ble_eq_true rfl, Nat.le_of_ble_eq_true rfl⟩ rfl (Nat.le_of_ble_eq_true rfl) dL_petitions_385 (fun H locs h => ?_)
                      refine lv_as (y := supp r (sg r (i_150 - 1))) (po_4 w4 (by omega)) ?_
                      refine lv_icmp_ne (tgt := 400) hx hb dL_petitions_388 (by decide) (fun c_388 => ?_) (fun c_388 => ?_)
                      · refine lv_iinc (v := nI (i_150 + 1)) (lv' := [(6, .int (nI (i_150 + 1))), (5, .int (hdI r (sg r) (i_150 + 1))), (10, .int (nI ((sg r i_150)))), (9, .int (nI ((sg r (i_150 - 1))))), (0, .ref (ad 0)), (1, .int (frI r (kn r))), (2, .int (sumN (fun d => r (6 * d + 15)) (kn r))), (3, .int (sumN (fun d => r (6 * d + 16)) (kn r))), (4, .int (sumN (fun d => r (6 * d + 17)) (kn r))), (7, .int (supp r i_150)), (8, .int (r (5 * i_150 + 88)))]) hx hb dL_petitions_400 hl (k := 8) rfl (nI_addc (b := 1) (by omega)) (by decide) rfl (fun ls hl => ?_)
                        refine lv_goto (tgt := 150) hx hb dL_petitions_403 (by decide) ?_
                        exact ih_150 (i_150 + 1) (by omega) (by omega) _ _ _ h (lv_sub hl [4, 5, 6, 7, 8, 1, 0] rfl)
                      · refine lv_iload hx hb dL_petitions_391 (lv_at hl 1 rfl) ?_
                        refine lv_iload hx hb dL_petitions_393 (lv_at hl 2 rfl) ?_
                        refine lv_icmp_ge (tgt := 400) hx hb dL_petitions_395 (by decide) (fun c_395 => ?_) (fun c_395 => absurd ((nI_leI (by omega) (by omega)).mpr (bef_ge hbf c_388)) c_395)
                        refine lv_iinc (v := nI (i_150 + 1)) (lv' := [(6, .int (nI (i_150 + 1))), (5, .int (hdI r (sg r) (i_150 + 1))), (10, .int (nI ((sg r i_150)))), (9, .int (nI ((sg r (i_150 - 1))))), (0, .ref (ad 0)), (1, .int (frI r (kn r))), (2, .int (sumN (fun d => r (6 * d + 15)) (kn r))), (3, .int (sumN (fun d => r (6 * d + 16)) (kn r))), (4, .int (sumN (fun d => r (6 * d + 17)) (kn r))), (7, .int (supp r i_150)), (8, .int (r (5 * i_150 + 88)))]) hx hb dL_petitions_400 hl (k := 8) rfl (nI_addc (b := 1) (by omega)) (by decide) rfl (fun ls hl => ?_)
                        refine lv_goto (tgt := 150) hx hb dL_petitions_403 (by decide) ?_
                        exact ih_150 (i_150 + 1) (by omega) (by omega) _ _ _ h (lv_sub hl [4, 5, 6, 7, 8, 1, 0] rfl)
                    · rw [nz_eq (by omega)] at c_289
                      refine lv_iconst (v := nI 0) hx hb dL_petitions_292 (by decide) ?_
                      refine lv_goto (tgt := 304) hx hb dL_petitions_293 (by decide) ?_
                      have hs10 := s1 i_150 (by omega)
                      refine lv_istore (lv' := [(9, .int (nI 0)), (0, .ref (ad 0)), (1, .int (frI r (kn r))), (2, .int (sumN (fun d => r (6 * d + 15)) (kn r))), (3, .int (sumN (fun d => r (6 * d + 16)) (kn r))), (4, .int (sumN (fun d => r (6 * d + 17)) (kn r))), (5, .int (hdI r (sg r) i_150)), (6, .int (nI i_150)), (7, .int (supp r i_150)), (8, .int (r (5 * i_150 + 88)))]) hx hb dL_petitions_304 hl (by decide) rfl (fun ls hl => ?_)
                      refine lv_aload_n hx hb dL_petitions_306 rfl (lv_at hl 1 rfl) ?_
                      refine lv_iload hx hb dL_petitions_307 (lv_at hl 7 rfl) ?_
                      refine rg_civd (As := [.int (nI i_150)]) (rest := []) X hl.1 h (c_X7_heard l J z ad G r hR (nI i_150)) mw_234 mw_235 mw_236 mw_2 mw_237 pdX7_heard (by decide) (xo_0 J ad _) rfl rfl ⟨Nat.le_of_ble_eq_true rfl, Nat.le_of_ble_eq_true rfl⟩ ⟨Nat.le_of_ble_eq_true rfl, Nat.le_of_ble_eq_true rfl⟩ rfl (Nat.le_of_ble_eq_true rfl) dL_petitions_309 (fun H locs h => ?_)
                      refine lv_as (y := nI ((sg r i_150))) (hd_at w4 (by omega)) ?_
                      refine lv_istore (lv' := [(10, .int (nI ((sg r i_150)))), (9, .int (nI 0)), (0, .ref (ad 0)), (1, .int (frI r (kn r))), (2, .int (sumN (fun d => r (6 * d + 15)) (kn r))), (3, .int (sumN (fun d => r (6 * d + 16)) (kn r))), (4, .int (sumN (fun d => r (6 * d + 17)) (kn r))), (5, .int (hdI r (sg r) i_150)), (6, .int (nI i_150)), (7, .int (supp r i_150)), (8, .int (r (5 * i_150 + 88)))]) hx hb dL_petitions_312 hl (by decide) rfl (fun ls hl => ?_)
                      refine lv_iload hx hb dL_petitions_314 (lv_at hl 7 rfl) ?_
                      refine lv_iconst (v := nI 1) hx hb dL_petitions_316 (by decide) ?_
                      refine lv_iload hx hb dL_petitions_317 (lv_at hl 0 rfl) ?_
                      refine lv_ishl hx hb dL_petitions_319 ?_
                      refine lv_ior hx hb dL_petitions_320 ?_
                      refine lv_as (y := hdI r (sg r) (i_150 + 1)) (rfl) ?_
                      refine lv_istore (lv' := [(5, .int (hdI r (sg r) (i_150 + 1))), (10, .int (nI ((sg r i_150)))), (9, .int (nI 0)), (0, .ref (ad 0)), (1, .int (frI r (kn r))), (2, .int (sumN (fun d => r (6 * d + 15)) (kn r))), (3, .int (sumN (fun d => r (6 * d + 16)) (kn r))), (4, .int (sumN (fun d => r (6 * d + 17)) (kn r))), (6, .int (nI i_150)), (7, .int (supp r i_150)), (8, .int (r (5 * i_150 + 88)))]) hx hb dL_petitions_321 hl (by decide) rfl (fun ls hl => ?_)
                      refine lv_aload_n hx hb dL_petitions_323 rfl (lv_at hl 3 rfl) ?_
                      refine lv_iload hx hb dL_petitions_324 (lv_at hl 8 rfl) ?_
                      refine lv_iconst (v := nI 4) hx hb dL_petitions_326 (by decide) ?_
                      refine rg_civd (As := [.int (nI i_150), .int (nI 4)]) (rest := []) X hl.1 h (c_X7_petitionOf l J z ad G r hR (nI i_150) (nI 4)) mw_220 mw_221 mw_222 mw_2 mw_223 pdX7_petitionOf (by decide) (xo_0 J ad _) rfl rfl ⟨Nat.le_of_ble_eq_true rfl, Nat.le_of_ble_eq_true rfl⟩ ⟨Nat.le_of_ble_eq_true rfl, Nat.le_of_ble_eq_true rfl⟩ rfl (Nat.le_of_ble_eq_true rfl) dL_petitions_327 (fun H locs h => ?_)
                      refine lv_as (y := supp r i_150) (po_4 w4 (by omega)) ?_
                      refine lv_iload hx hb dL_petitions_330 (lv_at hl 9 rfl) ?_
                      refine lv_icmp_ne (tgt := 398) hx hb dL_petitions_332 (by decide) (fun c_332 => absurd (rfl) c_332) (fun c_332 => ?_)
                      refine lv_aload_n hx hb dL_petitions_335 rfl (lv_at hl 3 rfl) ?_
                      refine lv_aload_n hx hb dL_petitions_336 rfl (lv_at hl 3 rfl) ?_
                      refine lv_iload hx hb dL_petitions_337 (lv_at hl 8 rfl) ?_
                      refine lv_iconst (v := nI 0) hx hb dL_petitions_339 (by decide) ?_
                      refine rg_civd (As := [.int (nI i_150), .int (nI 0)]) (rest := [.ref (ad 0)]) X hl.1 h (c_X7_petitionOf l J z ad G r hR (nI i_150) (nI 0)) mw_220 mw_221 mw_222 mw_2 mw_223 pdX7_petitionOf (by decide) (xo_0 J ad _) rfl rfl ⟨Nat.le_of_ble_eq_true rfl, Nat.le_of_ble_eq_true rfl⟩ ⟨Nat.le_of_ble_eq_true rfl, Nat.le_of_ble_eq_true rfl⟩ rfl (Nat.le_of_ble_eq_true rfl) dL_petitions_340 (fun H locs h => ?_)
                      refine lv_as (y := nI ((pd r i_150))) ((po_lo w4 (by omega) (by omega)).trans ((congrArg r (by omega)).trans v_0)) ?_
                      refine lv_iconst (v := nI 2) hx hb dL_petitions_343 (by decide) ?_
                      refine rg_civd (As := [.int (nI ((pd r i_150))), .int (nI 2)]) (rest := []) X hl.1 h (c_X7_drone l J z ad G r hR (nI ((pd r i_150))) (nI 2)) mw_176 mw_177 mw_178 mw_2 mw_179 pdX7_drone (by decide) (xo_0 J ad _) rfl rfl ⟨Nat.le_of_ble_eq_true rfl, Nat.le_of_ble_eq_true rfl⟩ ⟨Nat.le_of_ble_eq_true rfl, Nat.le_of_ble_eq_true rfl⟩ rfl (Nat.le_of_ble_eq_true rfl) dL_petitions_344 (fun H locs h => ?_)
                      refine lv_as (y := nI i_150) ((dr_lo w2 (by omega) (by omega)).trans ((congrArg r (by omega)).trans (o1 i_150 (by omega)))) ?_
                      refine lv_iload hx hb dL_petitions_347 (lv_at hl 8 rfl) ?_
                      refine lv_icmp_ne (tgt := 398) hx hb dL_petitions_349 (by decide) (fun c_349 => absurd (rfl) c_349) (fun c_349 => ?_)
                      refine lv_iload hx hb dL_petitions_352 (lv_at hl 8 rfl) ?_
                      refine lv_if_le (tgt := 400) hx hb dL_petitions_354 (by decide) (fun c_354 => ?_) (fun c_354 => absurd ((nz_le (by omega)).mpr c_289) c_354)
                      refine lv_iinc (v := nI (i_150 + 1)) (lv' := [(6, .int (nI (i_150 + 1))), (5, .int (hdI r (sg r) (i_150 + 1))), (10, .int (nI ((sg r i_150)))), (9, .int (nI 0)), (0, .ref (ad 0)), (1, .int (frI r (kn r))), (2, .int (sumN (fun d => r (6 * d + 15)) (kn r))), (3, .int (sumN (fun d => r (6 * d + 16)) (kn r))), (4, .int (sumN (fun d => r (6 * d + 17)) (kn r))), (7, .int (supp r i_150)), (8, .int (r (5 * i_150 + 88)))]) hx hb dL_petitions_400 hl (k := 8) rfl (nI_addc (b := 1) (by omega)) (by decide) rfl (fun ls hl => ?_)
                      refine lv_goto (tgt := 150) hx hb dL_petitions_403 (by decide) ?_
                      exact ih_150 (i_150 + 1) (by omega) (by omega) _ _ _ h (lv_sub hl [4, 5, 6, 7, 8, 1, 0] rfl)
                  · rw [nI_leI (by omega) (by omega)] at c_194
                    refine lv_iload hx hb dL_petitions_197 (lv_at hl 8 rfl) ?_
                    refine lv_iload hx hb dL_petitions_199 (lv_at hl 9 rfl) ?_
                    refine lv_ishr hx hb dL_petitions_201 ?_
                    refine lv_iconst (v := nI 1) hx hb dL_petitions_202 (by decide) ?_
                    refine lv_iand hx hb dL_petitions_203 ?_
                    refine lv_iconst (v := nI 1) hx hb dL_petitions_204 (by decide) ?_
                    refine lv_icmp_ne (tgt := 212) hx hb dL_petitions_205 (by decide) (fun c_205 => ?_) (fun c_205 => ?_)
                    · refine lv_iconst (v := nI 0) hx hb dL_petitions_212 (by decide) ?_
                      refine lv_istore (lv' := [(10, .int (nI 0)), (0, .ref (ad 0)), (1, .int (frI r (kn r))), (2, .int (sumN (fun d => r (6 * d + 15)) (kn r))), (3, .int (sumN (fun d => r (6 * d + 16)) (kn r))), (4, .int (sumN (fun d => r (6 * d + 17)) (kn r))), (5, .int (hdI r (sg r) i_150)), (6, .int (nI i_150)), (7, .int (suI r i_150 i_187)), (8, .int (r (5 * i_150 + 88))), (9, .int (nI i_187))]) hx hb dL_petitions_213 hl (by decide) rfl (fun ls hl => ?_)
                      refine lv_iload hx hb dL_petitions_215 (lv_at hl 8 rfl) ?_
                      refine lv_iload hx hb dL_petitions_217 (lv_at hl 0 rfl) ?_
                      refine lv_if_eq (tgt := 232) hx hb dL_petitions_219 (by decide) (fun c_219 => ?_) (fun c_219 => absurd (by decide) c_219)
                      refine lv_iconst (v := nI 0) hx hb dL_petitions_232 (by decide) ?_
                      refine lv_iadd hx hb dL_petitions_233 ?_
                      refine lv_as (y := suI r i_150 (i_187 + 1)) (suI_f c_205) ?_
                      refine lv_istore (lv' := [(7, .int (suI r i_150 (i_187 + 1))), (10, .int (nI 0)), (0, .ref (ad 0)), (1, .int (frI r (kn r))), (2, .int (sumN (fun d => r (6 * d + 15)) (kn r))), (3, .int (sumN (fun d => r (6 * d + 16)) (kn r))), (4, .int (sumN (fun d => r (6 * d + 17)) (kn r))), (5, .int (hdI r (sg r) i_150)), (6, .int (nI i_150)), (8, .int (r (5 * i_150 + 88))), (9, .int (nI i_187))]) hx hb dL_petitions_234 hl (by decide) rfl (fun ls hl => ?_)
                      refine lv_iload hx hb dL_petitions_236 (lv_at hl 1 rfl) ?_
                      refine lv_aload_n hx hb dL_petitions_238 rfl (lv_at hl 2 rfl) ?_
                      refine lv_iload hx hb dL_petitions_239 (lv_at hl 10 rfl) ?_
                      refine lv_iconst (v := nI 3) hx hb dL_petitions_241 (by decide) ?_
                      refine rg_civd (As := [.int (nI i_187), .int (nI 3)]) (rest := [.int (nI 0)]) X hl.1 h (c_X7_drone l J z ad G r hR (nI i_187) (nI 3)) mw_176 mw_177 mw_178 mw_2 mw_179 pdX7_drone (by decide) (xo_0 J ad _) rfl rfl ⟨Nat.le_of_ble_eq_true rfl, Nat.le_of_ble_eq_true rfl⟩ ⟨Nat.le_of_ble_eq_true rfl, Nat.le_of_ble_eq_true rfl⟩ rfl (Nat.le_of_ble_eq_true rfl) dL_petitions_242 (fun H locs h => ?_)
                      refine lv_as (y := sc2 r (nI i_187)) (dr_3 (by omega)) ?_
                      refine lv_iload hx hb dL_petitions_245 (lv_at hl 8 rfl) ?_
                      refine lv_ishr hx hb dL_petitions_247 ?_
                      refine lv_iconst (v := nI 1) hx hb dL_petitions_248 (by decide) ?_
                      refine lv_iand hx hb dL_petitions_249 ?_
                      refine lv_iconst (v := nI 1) hx hb dL_petitions_250 (by decide) ?_
                      refine lv_icmp_ne (tgt := 258) hx hb dL_petitions_251 (by decide) (fun c_251 => ?_) (fun c_251 => absurd c_251 (fun e => c_205 ((sc2_same w4 (by omega) (by omega)).mp e)))
                      refine lv_iconst (v := nI 0) hx hb dL_petitions_258 (by decide) ?_
                      refine lv_icmp_ne (tgt := 279) hx hb dL_petitions_259 (by decide) (fun c_259 => absurd (by decide) c_259) (fun c_259 => ?_)
                      refine lv_iload hx hb dL_petitions_262 (lv_at hl 1 rfl) ?_
                      refine lv_if_eq (tgt := 281) hx hb dL_petitions_264 (by decide) (fun c_264 => ?_) (fun c_264 => absurd (by decide) c_264)
                      refine lv_iinc (v := nI (i_187 + 1)) (lv' := [(9, .int (nI (i_187 + 1))), (7, .int (suI r i_150 (i_187 + 1))), (10, .int (nI 0)), (0, .ref (ad 0)), (1, .int (frI r (kn r))), (2, .int (sumN (fun d => r (6 * d + 15)) (kn r))), (3, .int (sumN (fun d => r (6 * d + 16)) (kn r))), (4, .int (sumN (fun d => r (6 * d + 17)) (kn r))), (5, .int (hdI r (sg r) i_150)), (6, .int (nI i_150)), (8, .int (r (5 * i_150 + 88)))]) hx hb dL_petitions_281 hl (k := 10) rfl (nI_addc (b := 1) (by omega)) (by decide) rfl (fun ls hl => ?_)
                      refine lv_goto (tgt := 187) hx hb dL_petitions_284 (by decide) ?_
                      exact ih_187 (i_187 + 1) (by omega) (by omega) _ _ _ h (lv_sub hl [3, 4, 5, 6, 7, 8, 9, 1, 10, 0] rfl)
                    · refine lv_iconst (v := nI 1) hx hb dL_petitions_208 (by decide) ?_
                      refine lv_goto (tgt := 213) hx hb dL_petitions_209 (by decide) ?_
                      refine lv_istore (lv' := [(10, .int (nI 1)), (0, .ref (ad 0)), (1, .int (frI r (kn r))), (2, .int (sumN (fun d => r (6 * d + 15)) (kn r))), (3, .int (sumN (fun d => r (6 * d + 16)) (kn r))), (4, .int (sumN (fun d => r (6 * d + 17)) (kn r))), (5, .int (hdI r (sg r) i_150)), (6, .int (nI i_150)), (7, .int (suI r i_150 i_187)), (8, .int (r (5 * i_150 + 88))), (9, .int (nI i_187))]) hx hb dL_petitions_213 hl (by decide) rfl (fun ls hl => ?_)
                      refine lv_iload hx hb dL_petitions_215 (lv_at hl 8 rfl) ?_
                      refine lv_iload hx hb dL_petitions_217 (lv_at hl 0 rfl) ?_
                      refine lv_if_eq (tgt := 232) hx hb dL_petitions_219 (by decide) (fun c_219 => absurd c_219 (by decide)) (fun c_219 => ?_)
                      refine lv_aload_n hx hb dL_petitions_222 rfl (lv_at hl 1 rfl) ?_
                      refine lv_iload hx hb dL_petitions_223 (lv_at hl 10 rfl) ?_
                      refine lv_iconst (v := nI 1) hx hb dL_petitions_225 (by decide) ?_
                      refine rg_civd (As := [.int (nI i_187), .int (nI 1)]) (rest := [.int (suI r i_150 i_187)]) X hl.1 h (c_X7_drone l J z ad G r hR (nI i_187) (nI 1)) mw_176 mw_177 mw_178 mw_2 mw_179 pdX7_drone (by decide) (xo_0 J ad _) rfl rfl ⟨Nat.le_of_ble_eq_true rfl, Nat.le_of_ble_eq_true rfl⟩ ⟨Nat.le_of_ble_eq_true rfl, Nat.le_of_ble_eq_true rfl⟩ rfl (Nat.le_of_ble_eq_true rfl) dL_petitions_226 (fun H locs h => ?_)
                      refine lv_as (y := r (6 * i_187 + 13)) ((dr_lo w2 (by omega) (by omega)).trans (congrArg r (by omega))) ?_
                      refine lv_goto (tgt := 233) hx hb dL_petitions_229 (by decide) ?_
                      refine lv_iadd hx hb dL_petitions_233 ?_
                      refine lv_as (y := suI r i_150 (i_187 + 1)) (suI_t c_205) ?_
                      refine lv_istore (lv' := [(7, .int (suI r i_150 (i_187 + 1))), (10, .int (nI 1)), (0, .ref (ad 0)), (1, .int (frI r (kn r))), (2, .int (sumN (fun d => r (6 * d + 15)) (kn r))), (3, .int (sumN (fun d => r (6 * d + 16)) (kn r))), (4, .int (sumN (fun d => r (6 * d + 17)) (kn r))), (5, .int (hdI r (sg r) i_150)), (6, .int (nI i_150)), (8, .int (r (5 * i_150 + 88))), (9, .int (nI i_187))]) hx hb dL_petitions_234 hl (by decide) rfl (fun ls hl => ?_)
                      refine lv_iload hx hb dL_petitions_236 (lv_at hl 1 rfl) ?_
                      refine lv_aload_n hx hb dL_petitions_238 rfl (lv_at hl 2 rfl) ?_
                      refine lv_iload hx hb dL_petitions_239 (lv_at hl 10 rfl) ?_
                      refine lv_iconst (v := nI 3) hx hb dL_petitions_241 (by decide) ?_
                      refine rg_civd (As := [.int (nI i_187), .int (nI 3)]) (rest := [.int (nI 1)]) X hl.1 h (c_X7_drone l J z ad G r hR (nI i_187) (nI 3)) mw_176 mw_177 mw_178 mw_2 mw_179 pdX7_drone (by decide) (xo_0 J ad _) rfl rfl ⟨Nat.le_of_ble_eq_true rfl, Nat.le_of_ble_eq_true rfl⟩ ⟨Nat.le_of_ble_eq_true rfl, Nat.le_of_ble_eq_true rfl⟩ rfl (Nat.le_of_ble_eq_true rfl) dL_petitions_242 (fun H locs h => ?_)
                      refine lv_as (y := sc2 r (nI i_187)) (dr_3 (by omega)) ?_
                      refine lv_iload hx hb dL_petitions_245 (lv_at hl 8 rfl) ?_
                      refine lv_ishr hx hb dL_petitions_247 ?_
                      refine lv_iconst (v := nI 1) hx hb dL_petitions_248 (by decide) ?_
                      refine lv_iand hx hb dL_petitions_249 ?_
                      refine lv_iconst (v := nI 1) hx hb dL_petitions_250 (by decide) ?_
                      refine lv_icmp_ne (tgt := 258) hx hb dL_petitions_251 (by decide) (fun c_251 => absurd ((sc2_same w4 (by omega) (by omega)).mpr c_205) c_251) (fun c_251 => ?_)
                      refine lv_iconst (v := nI 1) hx hb dL_petitions_254 (by decide) ?_
                      refine lv_goto (tgt := 259) hx hb dL_petitions_255 (by decide) ?_
                      refine lv_icmp_ne (tgt := 279) hx hb dL_petitions_259 (by decide) (fun c_259 => absurd (by decide) c_259) (fun c_259 => ?_)
                      refine lv_iload hx hb dL_petitions_262 (lv_at hl 1 rfl) ?_
                      refine lv_if_eq (tgt := 281) hx hb dL_petitions_264 (by decide) (fun c_264 => absurd c_264 (by decide)) (fun c_264 => ?_)
                      refine lv_iload hx hb dL_petitions_267 (lv_at hl 10 rfl) ?_
                      refine lv_aload_n hx hb dL_petitions_269 rfl (lv_at hl 2 rfl) ?_
                      refine lv_iload hx hb dL_petitions_270 (lv_at hl 8 rfl) ?_
                      refine lv_iconst (v := nI 0) hx hb dL_petitions_272 (by decide) ?_
                      refine rg_civd (As := [.int (nI i_150), .int (nI 0)]) (rest := [.int (nI i_187)]) X hl.1 h (c_X7_petitionOf l J z ad G r hR (nI i_150) (nI 0)) mw_220 mw_221 mw_222 mw_2 mw_223 pdX7_petitionOf (by decide) (xo_0 J ad _) rfl rfl ⟨Nat.le_of_ble_eq_true rfl, Nat.le_of_ble_eq_true rfl⟩ ⟨Nat.le_of_ble_eq_true rfl, Nat.le_of_ble_eq_true rfl⟩ rfl (Nat.le_of_ble_eq_true rfl) dL_petitions_273 (fun H locs h => ?_)
                      refine lv_as (y := nI ((pd r i_150))) ((po_lo w4 (by omega) (by omega)).trans ((congrArg r (by omega)).trans v_0)) ?_
                      refine lv_icmp_ne (tgt := 281) hx hb dL_petitions_276 (by decide) (fun c_276 => ?_) (fun c_276 => absurd c_276 (fun e => by
                        have e2 := (nI_eq (by omega) (by omega)).mp e
                        have e3 := (bit_o (by omega)).mp c_205
                        rw [e2, hI.2.2.2.2 i_150 (by omega)] at e3
                        cases e3))
                      refine lv_iinc (v := nI (i_187 + 1)) (lv' := [(9, .int (nI (i_187 + 1))), (7, .int (suI r i_150 (i_187 + 1))), (10, .int (nI 1)), (0, .ref (ad 0)), (1, .int (frI r (kn r))), (2, .int (sumN (fun d => r (6 * d + 15)) (kn r))), (3, .int (sumN (fun d => r (6 * d + 16)) (kn r))), (4, .int (sumN (fun d => r (6 * d + 17)) (kn r))), (5, .int (hdI r (sg r) i_150)), (6, .int (nI i_150)), (8, .int (r (5 * i_150 + 88)))]) hx hb dL_petitions_281 hl (k := 10) rfl (nI_addc (b := 1) (by omega)) (by decide) rfl (fun ls hl => ?_)
                      refine lv_goto (tgt := 187) hx hb dL_petitions_284 (by decide) ?_
                      exact ih_187 (i_187 + 1) (by omega) (by omega) _ _ _ h (lv_sub hl [3, 4, 5, 6, 7, 8, 9, 1, 10, 0] rfl)
              exact LP_187 ((kn r) + 1) 0 (by omega) (by omega) _ _ _ h (lv_sub hl [3, 4, 5, 6, 7, 8, 9, 2, 1, 0] rfl)
        exact LP_150 ((mn r) + 1) 0 (by omega) (by omega) _ _ _ h (lv_sub hl [2, 3, 4, 5, 6, 1, 0] rfl)
      · rw [nI_leI (by omega) (by omega)] at c_19
        refine lv_aload_n hx hb dL_petitions_22 rfl (lv_at hl 0 rfl) ?_
        refine lv_iload hx hb dL_petitions_23 (lv_at hl 5 rfl) ?_
        refine lv_iconst (v := nI 2) hx hb dL_petitions_25 (by decide) ?_
        refine rg_civd (As := [.int (nI i_12), .int (nI 2)]) (rest := []) X hl.1 h (c_X7_drone l J z ad G r hR (nI i_12) (nI 2)) mw_176 mw_177 mw_178 mw_2 mw_179 pdX7_drone (by decide) (xo_0 J ad _) rfl rfl ⟨Nat.le_of_ble_eq_true rfl, Nat.le_of_ble_eq_true rfl⟩ ⟨Nat.le_of_ble_eq_true rfl, Nat.le_of_ble_eq_true rfl⟩ rfl (Nat.le_of_ble_eq_true rfl) dL_petitions_26 (fun H locs h => ?_)
        refine lv_as (y := r (6 * i_12 + 14)) ((dr_lo w2 (by omega) (by omega)).trans (congrArg r (by omega))) ?_
        rcases o2 i_12 (by omega) with e14 | ⟨q, q1, q2, q3⟩
        · refine lv_as (y := (-5)) e14 ?_
          refine lv_istore (lv' := [(6, .int ((-5))), (0, .ref (ad 0)), (1, .int (frI r i_12)), (2, .int (sumN (fun d => r (6 * d + 15)) i_12)), (3, .int (sumN (fun d => r (6 * d + 16)) i_12)), (4, .int (sumN (fun d => r (6 * d + 17)) i_12)), (5, .int (nI i_12))]) hx hb dL_petitions_29 hl (by decide) rfl (fun ls hl => ?_)
          refine lv_iload_n hx hb dL_petitions_31 rfl (lv_at hl 2 rfl) ?_
          refine lv_iload hx hb dL_petitions_32 (lv_at hl 0 rfl) ?_
          refine lv_bipush (v := (-5)) hx hb dL_petitions_34 (by decide) ?_
          refine lv_icmp_ne (tgt := 46) hx hb dL_petitions_36 (by decide) (fun c_36 => absurd (by decide) c_36) (fun c_36 => ?_)
          refine lv_iconst (v := nI 1) hx hb dL_petitions_39 (by decide) ?_
          refine lv_iload hx hb dL_petitions_40 (lv_at hl 6 rfl) ?_
          refine lv_ishl hx hb dL_petitions_42 ?_
          refine lv_goto (tgt := 47) hx hb dL_petitions_43 (by decide) ?_
          refine lv_ior hx hb dL_petitions_47 ?_
          refine lv_as (y := frI r (i_12 + 1)) (frI_t e14) ?_
          refine lv_istore_n (lv' := [(1, .int (frI r (i_12 + 1))), (6, .int ((-5))), (0, .ref (ad 0)), (2, .int (sumN (fun d => r (6 * d + 15)) i_12)), (3, .int (sumN (fun d => r (6 * d + 16)) i_12)), (4, .int (sumN (fun d => r (6 * d + 17)) i_12)), (5, .int (nI i_12))]) hx hb dL_petitions_48 rfl hl (by decide) rfl (fun ls hl => ?_)
          refine lv_iload_n hx hb dL_petitions_49 rfl (lv_at hl 3 rfl) ?_
          refine lv_aload_n hx hb dL_petitions_50 rfl (lv_at hl 2 rfl) ?_
          refine lv_iload hx hb dL_petitions_51 (lv_at hl 6 rfl) ?_
          refine lv_iconst (v := nI 4) hx hb dL_petitions_53 (by decide) ?_
          refine rg_civd (As := [.int (nI i_12), .int (nI 4)]) (rest := [.int (sumN (fun d => r (6 * d + 15)) i_12)]) X hl.1 h (c_X7_drone l J z ad G r hR (nI i_12) (nI 4)) mw_176 mw_177 mw_178 mw_2 mw_179 pdX7_drone (by decide) (xo_0 J ad _) rfl rfl ⟨Nat.le_of_ble_eq_true rfl, Nat.le_of_ble_eq_true rfl⟩ ⟨Nat.le_of_ble_eq_true rfl, Nat.le_of_ble_eq_true rfl⟩ rfl (Nat.le_of_ble_eq_true rfl) dL_petitions_54 (fun H locs h => ?_)
          refine lv_as (y := r (6 * i_12 + 15)) ((dr_hi w2 (by omega) (by omega) (by omega)).trans (congrArg r (by omega))) ?_
          refine lv_iadd hx hb dL_petitions_57 ?_
          refine lv_as (y := sumN (fun d => r (6 * d + 15)) (i_12 + 1)) (rfl) ?_
          refine lv_istore_n (lv' := [(2, .int (sumN (fun d => r (6 * d + 15)) (i_12 + 1))), (1, .int (frI r (i_12 + 1))), (6, .int ((-5))), (0, .ref (ad 0)), (3, .int (sumN (fun d => r (6 * d + 16)) i_12)), (4, .int (sumN (fun d => r (6 * d + 17)) i_12)), (5, .int (nI i_12))]) hx hb dL_petitions_58 rfl hl (by decide) rfl (fun ls hl => ?_)
          refine lv_iload_n hx hb dL_petitions_59 rfl (lv_at hl 4 rfl) ?_
          refine lv_aload_n hx hb dL_petitions_60 rfl (lv_at hl 3 rfl) ?_
          refine lv_iload hx hb dL_petitions_61 (lv_at hl 6 rfl) ?_
          refine lv_iconst (v := nI 5) hx hb dL_petitions_63 (by decide) ?_
          refine rg_civd (As := [.int (nI i_12), .int (nI 5)]) (rest := [.int (sumN (fun d => r (6 * d + 16)) i_12)]) X hl.1 h (c_X7_drone l J z ad G r hR (nI i_12) (nI 5)) mw_176 mw_177 mw_178 mw_2 mw_179 pdX7_drone (by decide) (xo_0 J ad _) rfl rfl ⟨Nat.le_of_ble_eq_true rfl, Nat.le_of_ble_eq_true rfl⟩ ⟨Nat.le_of_ble_eq_true rfl, Nat.le_of_ble_eq_true rfl⟩ rfl (Nat.le_of_ble_eq_true rfl) dL_petitions_64 (fun H locs h => ?_)
          refine lv_as (y := r (6 * i_12 + 16)) ((dr_hi w2 (by omega) (by omega) (by omega)).trans (congrArg r (by omega))) ?_
          refine lv_iadd hx hb dL_petitions_67 ?_
          refine lv_as (y := sumN (fun d => r (6 * d + 16)) (i_12 + 1)) (rfl) ?_
          refine lv_istore_n (lv' := [(3, .int (sumN (fun d => r (6 * d + 16)) (i_12 + 1))), (2, .int (sumN (fun d => r (6 * d + 15)) (i_12 + 1))), (1, .int (frI r (i_12 + 1))), (6, .int ((-5))), (0, .ref (ad 0)), (4, .int (sumN (fun d => r (6 * d + 17)) i_12)), (5, .int (nI i_12))]) hx hb dL_petitions_68 rfl hl (by decide) rfl (fun ls hl => ?_)
          refine lv_iload hx hb dL_petitions_69 (lv_at hl 5 rfl) ?_
          refine lv_aload_n hx hb dL_petitions_71 rfl (lv_at hl 4 rfl) ?_
          refine lv_iload hx hb dL_petitions_72 (lv_at hl 6 rfl) ?_
          refine lv_bipush (v := nI 6) hx hb dL_petitions_74 (by decide) ?_
          refine rg_civd (As := [.int (nI i_12), .int (nI 6)]) (rest := [.int (sumN (fun d => r (6 * d + 17)) i_12)]) X hl.1 h (c_X7_drone l J z ad G r hR (nI i_12) (nI 6)) mw_176 mw_177 mw_178 mw_2 mw_179 pdX7_drone (by decide) (xo_0 J ad _) rfl rfl ⟨Nat.le_of_ble_eq_true rfl, Nat.le_of_ble_eq_true rfl⟩ ⟨Nat.le_of_ble_eq_true rfl, Nat.le_of_ble_eq_true rfl⟩ rfl (Nat.le_of_ble_eq_true rfl) dL_petitions_76 (fun H locs h => ?_)
          refine lv_as (y := r (6 * i_12 + 17)) ((dr_hi w2 (by omega) (by omega) (by omega)).trans (congrArg r (by omega))) ?_
          refine lv_iadd hx hb dL_petitions_79 ?_
          refine lv_as (y := sumN (fun d => r (6 * d + 17)) (i_12 + 1)) (rfl) ?_
          refine lv_istore (lv' := [(4, .int (sumN (fun d => r (6 * d + 17)) (i_12 + 1))), (3, .int (sumN (fun d => r (6 * d + 16)) (i_12 + 1))), (2, .int (sumN (fun d => r (6 * d + 15)) (i_12 + 1))), (1, .int (frI r (i_12 + 1))), (6, .int ((-5))), (0, .ref (ad 0)), (5, .int (nI i_12))]) hx hb dL_petitions_80 hl (by decide) rfl (fun ls hl => ?_)
          refine lv_iload hx hb dL_petitions_82 (lv_at hl 4 rfl) ?_
          refine lv_if_lt (tgt := 99) hx hb dL_petitions_84 (by decide) (fun c_84 => ?_) (fun c_84 => absurd (by decide) c_84)
          refine lv_aload_n hx hb dL_petitions_99 rfl (lv_at hl 5 rfl) ?_
          refine lv_iload hx hb dL_petitions_100 (lv_at hl 6 rfl) ?_
          refine lv_iconst (v := nI 4) hx hb dL_petitions_102 (by decide) ?_
          refine rg_civd (As := [.int (nI i_12), .int (nI 4)]) (rest := []) X hl.1 h (c_X7_drone l J z ad G r hR (nI i_12) (nI 4)) mw_176 mw_177 mw_178 mw_2 mw_179 pdX7_drone (by decide) (xo_0 J ad _) rfl rfl ⟨Nat.le_of_ble_eq_true rfl, Nat.le_of_ble_eq_true rfl⟩ ⟨Nat.le_of_ble_eq_true rfl, Nat.le_of_ble_eq_true rfl⟩ rfl (Nat.le_of_ble_eq_true rfl) dL_petitions_103 (fun H locs h => ?_)
          refine lv_as (y := r (6 * i_12 + 15)) ((dr_hi w2 (by omega) (by omega) (by omega)).trans (congrArg r (by omega))) ?_
          refine lv_aload_n hx hb dL_petitions_106 rfl (lv_at hl 5 rfl) ?_
          refine lv_iload hx hb dL_petitions_107 (lv_at hl 6 rfl) ?_
          refine lv_iconst (v := nI 5) hx hb dL_petitions_109 (by decide) ?_
          refine rg_civd (As := [.int (nI i_12), .int (nI 5)]) (rest := [.int (r (6 * i_12 + 15))]) X hl.1 h (c_X7_drone l J z ad G r hR (nI i_12) (nI 5)) mw_176 mw_177 mw_178 mw_2 mw_179 pdX7_drone (by decide) (xo_0 J ad _) rfl rfl ⟨Nat.le_of_ble_eq_true rfl, Nat.le_of_ble_eq_true rfl⟩ ⟨Nat.le_of_ble_eq_true rfl, Nat.le_of_ble_eq_true rfl⟩ rfl (Nat.le_of_ble_eq_true rfl) dL_petitions_110 (fun H locs h => ?_)
          refine lv_as (y := r (6 * i_12 + 16)) ((dr_hi w2 (by omega) (by omega) (by omega)).trans (congrArg r (by omega))) ?_
          refine lv_aload_n hx hb dL_petitions_113 rfl (lv_at hl 5 rfl) ?_
          refine lv_iload hx hb dL_petitions_114 (lv_at hl 6 rfl) ?_
          refine lv_bipush (v := nI 6) hx hb dL_petitions_116 (by decide) ?_
          refine rg_civd (As := [.int (nI i_12), .int (nI 6)]) (rest := [.int (r (6 * i_12 + 16)), .int (r (6 * i_12 + 15))]) X hl.1 h (c_X7_drone l J z ad G r hR (nI i_12) (nI 6)) mw_176 mw_177 mw_178 mw_2 mw_179 pdX7_drone (by decide) (xo_0 J ad _) rfl rfl ⟨Nat.le_of_ble_eq_true rfl, Nat.le_of_ble_eq_true rfl⟩ ⟨Nat.le_of_ble_eq_true rfl, Nat.le_of_ble_eq_true rfl⟩ rfl (Nat.le_of_ble_eq_true rfl) dL_petitions_118 (fun H locs h => ?_)
          refine lv_as (y := r (6 * i_12 + 17)) ((dr_hi w2 (by omega) (by omega) (by omega)).trans (congrArg r (by omega))) ?_
          refine lv_iadd hx hb dL_petitions_121 ?_
          refine lv_iload hx hb dL_petitions_122 (lv_at hl 4 rfl) ?_
          refine lv_if_lt (tgt := 131) hx hb dL_petitions_124 (by decide) (fun c_124 => ?_) (fun c_124 => absurd (by decide) c_124)
          refine lv_iconst (v := nI 0) hx hb dL_petitions_131 (by decide) ?_
          refine lv_iadd hx hb dL_petitions_132 ?_
          refine lv_icmp_eq (tgt := 138) hx hb dL_petitions_133 (by decide) (fun c_133 => ?_) (fun c_133 => absurd ((hI.2.1 i_12 (by omega)).trans (by rw [if_pos e14])) c_133)
          refine lv_iinc (v := nI (i_12 + 1)) (lv' := [(5, .int (nI (i_12 + 1))), (4, .int (sumN (fun d => r (6 * d + 17)) (i_12 + 1))), (3, .int (sumN (fun d => r (6 * d + 16)) (i_12 + 1))), (2, .int (sumN (fun d => r (6 * d + 15)) (i_12 + 1))), (1, .int (frI r (i_12 + 1))), (6, .int ((-5))), (0, .ref (ad 0))]) hx hb dL_petitions_138 hl (k := 6) rfl (nI_addc (b := 1) (by omega)) (by decide) rfl (fun ls hl => ?_)
          refine lv_goto (tgt := 12) hx hb dL_petitions_141 (by decide) ?_
          exact ih_12 (i_12 + 1) (by omega) (by omega) _ _ _ h (lv_sub hl [6, 4, 3, 2, 1, 0] rfl)
        · refine lv_as (y := nI q) q2 ?_
          refine lv_istore (lv' := [(6, .int (nI q)), (0, .ref (ad 0)), (1, .int (frI r i_12)), (2, .int (sumN (fun d => r (6 * d + 15)) i_12)), (3, .int (sumN (fun d => r (6 * d + 16)) i_12)), (4, .int (sumN (fun d => r (6 * d + 17)) i_12)), (5, .int (nI i_12))]) hx hb dL_petitions_29 hl (by decide) rfl (fun ls hl => ?_)
          refine lv_iload_n hx hb dL_petitions_31 rfl (lv_at hl 2 rfl) ?_
          refine lv_iload hx hb dL_petitions_32 (lv_at hl 0 rfl) ?_
          refine lv_bipush (v := (-5)) hx hb dL_petitions_34 (by decide) ?_
          refine lv_icmp_ne (tgt := 46) hx hb dL_petitions_36 (by decide) (fun c_36 => ?_) (fun c_36 => absurd c_36 (nI_n5 (by omega)))
          refine lv_iconst (v := nI 0) hx hb dL_petitions_46 (by decide) ?_
          refine lv_ior hx hb dL_petitions_47 ?_
          refine lv_as (y := frI r (i_12 + 1)) (frI_f (fun e => nI_n5 (by omega) (q2.symm.trans e))) ?_
          refine lv_istore_n (lv' := [(1, .int (frI r (i_12 + 1))), (6, .int (nI q)), (0, .ref (ad 0)), (2, .int (sumN (fun d => r (6 * d + 15)) i_12)), (3, .int (sumN (fun d => r (6 * d + 16)) i_12)), (4, .int (sumN (fun d => r (6 * d + 17)) i_12)), (5, .int (nI i_12))]) hx hb dL_petitions_48 rfl hl (by decide) rfl (fun ls hl => ?_)
          refine lv_iload_n hx hb dL_petitions_49 rfl (lv_at hl 3 rfl) ?_
          refine lv_aload_n hx hb dL_petitions_50 rfl (lv_at hl 2 rfl) ?_
          refine lv_iload hx hb dL_petitions_51 (lv_at hl 6 rfl) ?_
          refine lv_iconst (v := nI 4) hx hb dL_petitions_53 (by decide) ?_
          refine rg_civd (As := [.int (nI i_12), .int (nI 4)]) (rest := [.int (sumN (fun d => r (6 * d + 15)) i_12)]) X hl.1 h (c_X7_drone l J z ad G r hR (nI i_12) (nI 4)) mw_176 mw_177 mw_178 mw_2 mw_179 pdX7_drone (by decide) (xo_0 J ad _) rfl rfl ⟨Nat.le_of_ble_eq_true rfl, Nat.le_of_ble_eq_true rfl⟩ ⟨Nat.le_of_ble_eq_true rfl, Nat.le_of_ble_eq_true rfl⟩ rfl (Nat.le_of_ble_eq_true rfl) dL_petitions_54 (fun H locs h => ?_)
          refine lv_as (y := r (6 * i_12 + 15)) ((dr_hi w2 (by omega) (by omega) (by omega)).trans (congrArg r (by omega))) ?_
          refine lv_iadd hx hb dL_petitions_57 ?_
          refine lv_as (y := sumN (fun d => r (6 * d + 15)) (i_12 + 1)) (rfl) ?_
          refine lv_istore_n (lv' := [(2, .int (sumN (fun d => r (6 * d + 15)) (i_12 + 1))), (1, .int (frI r (i_12 + 1))), (6, .int (nI q)), (0, .ref (ad 0)), (3, .int (sumN (fun d => r (6 * d + 16)) i_12)), (4, .int (sumN (fun d => r (6 * d + 17)) i_12)), (5, .int (nI i_12))]) hx hb dL_petitions_58 rfl hl (by decide) rfl (fun ls hl => ?_)
          refine lv_iload_n hx hb dL_petitions_59 rfl (lv_at hl 4 rfl) ?_
          refine lv_aload_n hx hb dL_petitions_60 rfl (lv_at hl 3 rfl) ?_
          refine lv_iload hx hb dL_petitions_61 (lv_at hl 6 rfl) ?_
          refine lv_iconst (v := nI 5) hx hb dL_petitions_63 (by decide) ?_
          refine rg_civd (As := [.int (nI i_12), .int (nI 5)]) (rest := [.int (sumN (fun d => r (6 * d + 16)) i_12)]) X hl.1 h (c_X7_drone l J z ad G r hR (nI i_12) (nI 5)) mw_176 mw_177 mw_178 mw_2 mw_179 pdX7_drone (by decide) (xo_0 J ad _) rfl rfl ⟨Nat.le_of_ble_eq_true rfl, Nat.le_of_ble_eq_true rfl⟩ ⟨Nat.le_of_ble_eq_true rfl, Nat.le_of_ble_eq_true rfl⟩ rfl (Nat.le_of_ble_eq_true rfl) dL_petitions_64 (fun H locs h => ?_)
          refine lv_as (y := r (6 * i_12 + 16)) ((dr_hi w2 (by omega) (by omega) (by omega)).trans (congrArg r (by omega))) ?_
          refine lv_iadd hx hb dL_petitions_67 ?_
          refine lv_as (y := sumN (fun d => r (6 * d + 16)) (i_12 + 1)) (rfl) ?_
          refine lv_istore_n (lv' := [(3, .int (sumN (fun d => r (6 * d + 16)) (i_12 + 1))), (2, .int (sumN (fun d => r (6 * d + 15)) (i_12 + 1))), (1, .int (frI r (i_12 + 1))), (6, .int (nI q)), (0, .ref (ad 0)), (4, .int (sumN (fun d => r (6 * d + 17)) i_12)), (5, .int (nI i_12))]) hx hb dL_petitions_68 rfl hl (by decide) rfl (fun ls hl => ?_)
          refine lv_iload hx hb dL_petitions_69 (lv_at hl 5 rfl) ?_
          refine lv_aload_n hx hb dL_petitions_71 rfl (lv_at hl 4 rfl) ?_
          refine lv_iload hx hb dL_petitions_72 (lv_at hl 6 rfl) ?_
          refine lv_bipush (v := nI 6) hx hb dL_petitions_74 (by decide) ?_
          refine rg_civd (As := [.int (nI i_12), .int (nI 6)]) (rest := [.int (sumN (fun d => r (6 * d + 17)) i_12)]) X hl.1 h (c_X7_drone l J z ad G r hR (nI i_12) (nI 6)) mw_176 mw_177 mw_178 mw_2 mw_179 pdX7_drone (by decide) (xo_0 J ad _) rfl rfl ⟨Nat.le_of_ble_eq_true rfl, Nat.le_of_ble_eq_true rfl⟩ ⟨Nat.le_of_ble_eq_true rfl, Nat.le_of_ble_eq_true rfl⟩ rfl (Nat.le_of_ble_eq_true rfl) dL_petitions_76 (fun H locs h => ?_)
          refine lv_as (y := r (6 * i_12 + 17)) ((dr_hi w2 (by omega) (by omega) (by omega)).trans (congrArg r (by omega))) ?_
          refine lv_iadd hx hb dL_petitions_79 ?_
          refine lv_as (y := sumN (fun d => r (6 * d + 17)) (i_12 + 1)) (rfl) ?_
          refine lv_istore (lv' := [(4, .int (sumN (fun d => r (6 * d + 17)) (i_12 + 1))), (3, .int (sumN (fun d => r (6 * d + 16)) (i_12 + 1))), (2, .int (sumN (fun d => r (6 * d + 15)) (i_12 + 1))), (1, .int (frI r (i_12 + 1))), (6, .int (nI q)), (0, .ref (ad 0)), (5, .int (nI i_12))]) hx hb dL_petitions_80 hl (by decide) rfl (fun ls hl => ?_)
          refine lv_iload hx hb dL_petitions_82 (lv_at hl 4 rfl) ?_
          refine lv_if_lt (tgt := 99) hx hb dL_petitions_84 (by decide) (fun c_84 => absurd c_84 (nI_nn (by omega))) (fun c_84 => ?_)
          refine lv_aload_n hx hb dL_petitions_87 rfl (lv_at hl 5 rfl) ?_
          refine lv_iload hx hb dL_petitions_88 (lv_at hl 4 rfl) ?_
          refine lv_iconst (v := nI 0) hx hb dL_petitions_90 (by decide) ?_
          refine rg_civd (As := [.int (nI q), .int (nI 0)]) (rest := []) X hl.1 h (c_X7_petitionOf l J z ad G r hR (nI q) (nI 0)) mw_220 mw_221 mw_222 mw_2 mw_223 pdX7_petitionOf (by decide) (xo_0 J ad _) rfl rfl ⟨Nat.le_of_ble_eq_true rfl, Nat.le_of_ble_eq_true rfl⟩ ⟨Nat.le_of_ble_eq_true rfl, Nat.le_of_ble_eq_true rfl⟩ rfl (Nat.le_of_ble_eq_true rfl) dL_petitions_91 (fun H locs h => ?_)
          refine lv_as (y := nI i_12) ((po_lo w4 (by omega) (by omega)).trans ((congrArg r (by omega)).trans ((w7 q q1).1.trans (congrArg nI q3)))) ?_
          refine lv_iload hx hb dL_petitions_94 (lv_at hl 6 rfl) ?_
          refine lv_icmp_ne (tgt := 136) hx hb dL_petitions_96 (by decide) (fun c_96 => absurd (rfl) c_96) (fun c_96 => ?_)
          refine lv_aload_n hx hb dL_petitions_99 rfl (lv_at hl 5 rfl) ?_
          refine lv_iload hx hb dL_petitions_100 (lv_at hl 6 rfl) ?_
          refine lv_iconst (v := nI 4) hx hb dL_petitions_102 (by decide) ?_
          refine rg_civd (As := [.int (nI i_12), .int (nI 4)]) (rest := []) X hl.1 h (c_X7_drone l J z ad G r hR (nI i_12) (nI 4)) mw_176 mw_177 mw_178 mw_2 mw_179 pdX7_drone (by decide) (xo_0 J ad _) rfl rfl ⟨Nat.le_of_ble_eq_true rfl, Nat.le_of_ble_eq_true rfl⟩ ⟨Nat.le_of_ble_eq_true rfl, Nat.le_of_ble_eq_true rfl⟩ rfl (Nat.le_of_ble_eq_true rfl) dL_petitions_103 (fun H locs h => ?_)
          refine lv_as (y := r (6 * i_12 + 15)) ((dr_hi w2 (by omega) (by omega) (by omega)).trans (congrArg r (by omega))) ?_
          refine lv_aload_n hx hb dL_petitions_106 rfl (lv_at hl 5 rfl) ?_
          refine lv_iload hx hb dL_petitions_107 (lv_at hl 6 rfl) ?_
          refine lv_iconst (v := nI 5) hx hb dL_petitions_109 (by decide) ?_
          refine rg_civd (As := [.int (nI i_12), .int (nI 5)]) (rest := [.int (r (6 * i_12 + 15))]) X hl.1 h (c_X7_drone l J z ad G r hR (nI i_12) (nI 5)) mw_176 mw_177 mw_178 mw_2 mw_179 pdX7_drone (by decide) (xo_0 J ad _) rfl rfl ⟨Nat.le_of_ble_eq_true rfl, Nat.le_of_ble_eq_true rfl⟩ ⟨Nat.le_of_ble_eq_true rfl, Nat.le_of_ble_eq_true rfl⟩ rfl (Nat.le_of_ble_eq_true rfl) dL_petitions_110 (fun H locs h => ?_)
          refine lv_as (y := r (6 * i_12 + 16)) ((dr_hi w2 (by omega) (by omega) (by omega)).trans (congrArg r (by omega))) ?_
          refine lv_aload_n hx hb dL_petitions_113 rfl (lv_at hl 5 rfl) ?_
          refine lv_iload hx hb dL_petitions_114 (lv_at hl 6 rfl) ?_
          refine lv_bipush (v := nI 6) hx hb dL_petitions_116 (by decide) ?_
          refine rg_civd (As := [.int (nI i_12), .int (nI 6)]) (rest := [.int (r (6 * i_12 + 16)), .int (r (6 * i_12 + 15))]) X hl.1 h (c_X7_drone l J z ad G r hR (nI i_12) (nI 6)) mw_176 mw_177 mw_178 mw_2 mw_179 pdX7_drone (by decide) (xo_0 J ad _) rfl rfl ⟨Nat.le_of_ble_eq_true rfl, Nat.le_of_ble_eq_true rfl⟩ ⟨Nat.le_of_ble_eq_true rfl, Nat.le_of_ble_eq_true rfl⟩ rfl (Nat.le_of_ble_eq_true rfl) dL_petitions_118 (fun H locs h => ?_)
          refine lv_as (y := r (6 * i_12 + 17)) ((dr_hi w2 (by omega) (by omega) (by omega)).trans (congrArg r (by omega))) ?_
          refine lv_iadd hx hb dL_petitions_121 ?_
          refine lv_iload hx hb dL_petitions_122 (lv_at hl 4 rfl) ?_
          refine lv_if_lt (tgt := 131) hx hb dL_petitions_124 (by decide) (fun c_124 => absurd c_124 (nI_nn (by omega))) (fun c_124 => ?_)
          refine lv_iconst (v := nI 1) hx hb dL_petitions_127 (by decide) ?_
          refine lv_goto (tgt := 132) hx hb dL_petitions_128 (by decide) ?_
          refine lv_iadd hx hb dL_petitions_132 ?_
          refine lv_icmp_eq (tgt := 138) hx hb dL_petitions_133 (by decide) (fun c_133 => ?_) (fun c_133 => absurd ((hI.2.1 i_12 (by omega)).trans (by rw [if_neg (fun e => nI_n5 (by omega) (q2.symm.trans e))])) c_133)
          refine lv_iinc (v := nI (i_12 + 1)) (lv' := [(5, .int (nI (i_12 + 1))), (4, .int (sumN (fun d => r (6 * d + 17)) (i_12 + 1))), (3, .int (sumN (fun d => r (6 * d + 16)) (i_12 + 1))), (2, .int (sumN (fun d => r (6 * d + 15)) (i_12 + 1))), (1, .int (frI r (i_12 + 1))), (6, .int (nI q)), (0, .ref (ad 0))]) hx hb dL_petitions_138 hl (k := 6) rfl (nI_addc (b := 1) (by omega)) (by decide) rfl (fun ls hl => ?_)
          refine lv_goto (tgt := 12) hx hb dL_petitions_141 (by decide) ?_
          exact ih_12 (i_12 + 1) (by omega) (by omega) _ _ _ h (lv_sub hl [6, 4, 3, 2, 1, 0] rfl)
  exact LP_12 ((kn r) + 1) 0 (by omega) (by omega) _ _ _ h (lv_sub hl [5, 4, 3, 2, 1, 0] rfl)
