/-! THE TEXT of the class is read whole -/
theorem rd_n {t : Nat → Int32} {n i p p1 : Nat} {pre : List TH} (hpr : prs t n (n + 1) 0 = (pre ++ (prs t n (n + 1 - i) p).1, (prs t n (n + 1 - i) p).2)) (hi : i ≤ n) (e : thO t n p = (none, p1)) : prs t n (n + 1) 0 = (pre, some p1) := by
  rw [hpr, show n + 1 - i = (n - i) + 1 by omega, prs_n e, List.append_nil]
theorem rd_e {t : Nat → Int32} {n i p p1 : Nat} {pre : List TH} {y : TH} (hpr : prs t n (n + 1) 0 = (pre ++ (prs t n (n + 1 - i) p).1, (prs t n (n + 1 - i) p).2)) (hi : i ≤ n) (e : thO t n p = (some y, p1)) (c : ¬ isC t n p1 59) : prs t n (n + 1) 0 = (pre ++ [y], if p1 = n then none else some p1) := by
  rw [hpr, show n + 1 - i = (n - i) + 1 by omega, prs_e e c]
theorem rd_c {t : Nat → Int32} {n i p p1 : Nat} {pre : List TH} {y : TH} (hpr : prs t n (n + 1) 0 = (pre ++ (prs t n (n + 1 - i) p).1, (prs t n (n + 1 - i) p).2)) (hi : i ≤ n) (e : thO t n p = (some y, p1)) (c : isC t n p1 59) : prs t n (n + 1) 0 = ((pre ++ [y]) ++ (prs t n (n + 1 - (i + 1)) (p1 + 1)).1, (prs t n (n + 1 - (i + 1)) (p1 + 1)).2) := by
  rw [hpr, show n + 1 - i = (n - i) + 1 by omega, prs_c e c, show n + 1 - (i + 1) = n - i by omega, List.append_assoc]
  rfl
theorem thA.cg {G uG : GG} {j : Nat} {y : TH} (h : thA G j y) (f : ∀ k, 205 ≤ k → k < 210 → uG k j = G k j) : thA uG j y := by
  unfold thA at *
  rw [f 205 (by omega) (by omega), f 206 (by omega) (by omega), f 207 (by omega) (by omega), f 208 (by omega) (by omega), f 209 (by omega) (by omega)]
  exact h
theorem thA_app {U G1 : GG} {pre : List TH} {i : Nat} {y : TH} (hl : pre.length = i) (hp : ∀ j y, pre[j]? = some y → thA U j y) (hc : ∀ k, 205 ≤ k → k < 210 → ∀ j, j ≠ i → G1 k j = U k j) (hy : thA G1 i y) : ∀ j y2, (pre ++ [y])[j]? = some y2 → thA G1 j y2 := by
  intro j y2 h
  by_cases e : j = i
  · subst e
    rw [← hl, List.getElem?_append_right (Nat.le_refl _), Nat.sub_self] at h
    cases h
    exact hy
  · by_cases g : j < i
    · rw [List.getElem?_append_left (by omega)] at h
      exact (hp j y2 h).cg (fun k a b => hc k a b j e)
    · rw [List.getElem?_eq_none (by rw [List.length_append]; show pre.length + 1 ≤ j; omega)] at h
      cases h
set_option maxHeartbeats 4000000 in
set_option maxRecDepth 100000 in
theorem c_X2_read (l : Launch) (J : JJ) (z : Nat) (ad : Nat → Nat) (G : GG) (t : Nat → Int32) (ht : G 204 = t) (f : Nat → Int32) (n : Nat) (hn : f 1 = nI n) (hn60 : n ≤ 60) : MI l J z ad yX2_read cX2_read 1 .int 4 [.ref (ad 203)] (u1 G 203 f) (fun ans uG => (∀ k, (k < 203 ∨ k = 204 ∨ 210 ≤ k) → uG k = G k) ∧ uG 203 1 = nI n ∧ ans = opM (prs t n (n + 1) 0).2 ∧ ((prs t n (n + 1) 0).2 = none → uG 203 3 = nI (prs t n (n + 1) 0).1.length ∧ (prs t n (n + 1) 0).1.length ≤ 20 ∧ ∀ j y, (prs t n (n + 1) 0).1[j]? = some y → thA uG j y)) := by
  refine MI.go (by decide) (Nat.le_of_ble_eq_true rfl) ?_
  intro pr e s m args below meth c ls Q X h hl hret
  have hx := X.1
  have hb := X.2.1
  have hown := X.2.2.2.1
  have hts := X.2.2.2.2
  have hl : lv_has ls 1 [(0, .ref (ad 203))] := hl
  refine lv_aload_n hx hb dX2_read_0 rfl (lv_at hl 0 rfl) ?_
  refine lv_iconst (v := nI 0) hx hb dX2_read_1 (by decide) ?_
  refine fp_X2_35 X h dX2_read_2 (fun H locs h => ?_)
  rw [u1_uu] at h
  refine lv_aload_n hx hb dX2_read_5 rfl (lv_at hl 0 rfl) ?_
  refine lv_iconst (v := nI 0) hx hb dX2_read_6 (by decide) ?_
  refine fp_X2_38 X h dX2_read_7 (fun H locs h => ?_)
  rw [u1_uu] at h
  have LP : ∀ (k i p : Nat) (U : GG) (f1 : Nat → Int32) (pre : List TH), 21 ≤ i + k → i ≤ 20 → 3 * i ≤ p → p ≤ n → (∀ k, (k < 203 ∨ k = 204 ∨ 210 ≤ k) → U k = G k) → f1 1 = nI n → f1 2 = nI p → f1 3 = nI i → pre.length = i → (∀ j y, pre[j]? = some y → thA U j y) → prs t n (n + 1) 0 = (pre ++ (prs t n (n + 1 - i) p).1, (prs t n (n + 1 - i) p).2) → ∀ (H : Heap) (locs : List Loc) (ls : Array Slot), HG J z ad s (u1 U 203 f1) H locs → lv_has ls 1 [(0, .ref (ad 203))] → W pr l e (rmD 4 0 0) s m args below meth c H locs 0 0 Q (F0 m 10 ls []) := by
    intro k
    induction k with
    | zero =>
      intro i p U f1 pre g1 g2
      exact absurd g1 (by omega)
    | succ k ih =>
      intro i p U f1 pre g1 g2 g3 hpn hfr hn1 hp1 hi1 hpl hpa hpr H locs ls h hl
      have htU : U 204 = t := (hfr 204 (by omega)).trans ht
      obtain ⟨o, p1, e1⟩ : ∃ o p1, thO t n p = (o, p1) := ⟨_, _, rfl⟩
      have hple := thO_le (t := t) hpn
      rw [e1] at hple
      refine lv_aload_n hx hb dX2_read_10 rfl (lv_at hl 0 rfl) ?_
      refine fg_X2_38 X h dX2_read_11 ?_
      refine lv_as (y := nI i) ((congrFun (u1_s U 203 f1) 3).trans (hi1)) ?_
      refine lv_bipush (v := nI 20) hx hb dX2_read_14 (by decide) ?_
      refine lv_icmp_ge (tgt := 72) hx hb dX2_read_16 (by decide) (fun c_16 => ?_) (fun c_16 => ?_)
      · rw [nI_leI (by omega) (by omega)] at c_16
        refine lv_aload_n hx hb dX2_read_72 rfl (lv_at hl 0 rfl) ?_
        refine fg_X2_35 X h dX2_read_73 ?_
        refine lv_as (y := nI p) ((congrFun (u1_s U 203 f1) 2).trans (hp1)) ?_
        have hi20 : i = 20 := by omega
        have hp60 : p = n := by omega
        have hnd : thO t n p = (none, p) := by
          simp only [thO, cif_f (fun k : isC t n p 112 => absurd k.1 (by omega)), cif_f (fun k : isC t n p 121 => absurd k.1 (by omega)), cif_f (fun k : isC t n p 46 => absurd k.1 (by omega))]
        have hE := rd_n hpr (by omega) hnd
        exact hret (nI p) (u1 U 203 f1) _ _ 76 _ (by rw [hE]; exact ⟨fun k hk => by rw [u1_n (by omega)]; exact hfr k hk, by rw [u1_s]; exact hn1, rfl, fun q => by cases q⟩) h dX2_read_76
      · rw [nI_leI (by omega) (by omega)] at c_16
        refine lv_aload_n hx hb dX2_read_19 rfl (lv_at hl 0 rfl) ?_
        refine lv_aload_n hx hb dX2_read_20 rfl (lv_at hl 0 rfl) ?_
        refine fg_X2_38 X h dX2_read_21 ?_
        refine lv_as (y := nI i) ((congrFun (u1_s U 203 f1) 3).trans (hi1)) ?_
        refine rg_civ (As := [.int (nI i)]) (rest := []) X hl.1 h (c_X2_readThing l J z ad U t htU f1 n p hn1 hn60 hp1 hpn i (by omega)) mw_459 mw_460 mw_461 mw_25 mw_462 pdX2_readThing (by decide) (xo_203 J ad _) rfl rfl ⟨Nat.le_of_ble_eq_true rfl, Nat.le_of_ble_eq_true rfl⟩ ⟨Nat.le_of_ble_eq_true rfl, Nat.le_of_ble_eq_true rfl⟩ rfl (Nat.le_of_ble_eq_true rfl) dX2_read_24 (fun r3 G3 H locs q3 h => ?_)
        rw [e1] at q3
        obtain ⟨a1, a2, a3, a4, a5, a6, a7⟩ := q3
        have hfr1 : ∀ k, (k < 203 ∨ k = 204 ∨ 210 ≤ k) → G3 k = G k := fun k hk => (a1 k hk).trans (hfr k hk)
        have htG : G3 204 = t := (hfr1 204 (by omega)).trans ht
        rw [← u1_self G3 203] at h
        rcases a7 with ⟨y, b1, b2, b3⟩ | ⟨b1, b2⟩
        · obtain rfl : o = some y := b1
          have hp2 := thO_2 e1
          refine lv_as (y := nI 1) b2 ?_
          refine lv_if_ne (tgt := 35) hx hb dX2_read_27 (by decide) (fun c_27 => ?_) (fun c_27 => absurd c_27 (by decide))
          refine lv_aload_n hx hb dX2_read_35 rfl (lv_at hl 0 rfl) ?_
          refine lv_dup hx hb dX2_read_36 rfl ?_
          refine fg_X2_38 X h dX2_read_37 ?_
          refine lv_as (y := nI i) ((congrFun (u1_s G3 203 (G3 203)) 3).trans ((a3.trans hi1))) ?_
          refine lv_iconst (v := nI 1) hx hb dX2_read_40 (by decide) ?_
          refine lv_iadd hx hb dX2_read_41 ?_
          refine lv_as (y := nI (i + 1)) (nI_addc (by omega)) ?_
          refine fp_X2_38 X h dX2_read_42 (fun H locs h => ?_)
          rw [u1_uu] at h
          refine lv_aload_n hx hb dX2_read_45 rfl (lv_at hl 0 rfl) ?_
          refine fg_X2_35 X h dX2_read_46 ?_
          refine lv_as (y := nI p1) (((congrFun (u1_s G3 203 (upd (G3 203) 3 (nI (i + 1)))) 2).trans (by rw [upd_n (by decide)])).trans (a4)) ?_
          refine lv_aload_n hx hb dX2_read_49 rfl (lv_at hl 0 rfl) ?_
          refine fg_X2_31 X h dX2_read_50 ?_
          refine lv_as (y := nI n) (((congrFun (u1_s G3 203 (upd (G3 203) 3 (nI (i + 1)))) 1).trans (by rw [upd_n (by decide)])).trans ((a2.trans hn1))) ?_
          refine lv_icmp_lt (tgt := 58) hx hb dX2_read_53 (by decide) (fun c_53 => ?_) (fun c_53 => ?_)
          · rw [nI_ltI (by omega) (by omega)] at c_53
            refine lv_aload_n hx hb dX2_read_58 rfl (lv_at hl 0 rfl) ?_
            refine lv_bipush (v := nI 59) hx hb dX2_read_59 (by decide) ?_
            rcases Classical.em (isC t n p1 59) with hC_61 | hC_61
            · have hL_61 := hC_61.1
              refine rg_civd (As := [.int (nI 59)]) (rest := []) X hl.1 h (c_X2_skip_t l J z ad G3 t htG (upd (G3 203) 3 (nI (i + 1))) n p1 (by rw [upd_n (by decide)]; exact (a2.trans hn1)) hn60 (by rw [upd_n (by decide)]; exact a4) (by omega) 59 (by omega) hC_61) mw_463 mw_464 mw_465 mw_25 mw_466 pdX2_skip (by decide) (xo_203 J ad _) rfl rfl ⟨Nat.le_of_ble_eq_true rfl, Nat.le_of_ble_eq_true rfl⟩ ⟨Nat.le_of_ble_eq_true rfl, Nat.le_of_ble_eq_true rfl⟩ rfl (Nat.le_of_ble_eq_true rfl) dX2_read_61 (fun H locs h => ?_)
              refine lv_if_ne (tgt := 10) hx hb dX2_read_64 (by decide) (fun c_64 => ?_) (fun c_64 => absurd c_64 (by decide))
              exact ih (i + 1) (p1 + 1) G3 (upd (upd (G3 203) 3 (nI (i + 1))) 2 (nI (p1 + 1))) (pre ++ [y]) (by omega) (by omega) (by omega) (by omega) hfr1 (by rw [upd_n (by decide), upd_n (by decide)]; exact (a2.trans hn1)) (by rw [upd_s]) (by rw [upd_n (by decide), upd_s]) (by rw [List.length_append, hpl]; rfl) (thA_app hpl hpa a6 b3) (rd_c hpr (by omega) e1 hC_61) _ _ _ h (lv_sub hl [0] rfl)
            · refine rg_civd (As := [.int (nI 59)]) (rest := []) X hl.1 h (c_X2_skip_f l J z ad G3 t htG (upd (G3 203) 3 (nI (i + 1))) n p1 (by rw [upd_n (by decide)]; exact (a2.trans hn1)) hn60 (by rw [upd_n (by decide)]; exact a4) (by omega) 59 (by omega) hC_61) mw_463 mw_464 mw_465 mw_25 mw_466 pdX2_skip (by decide) (xo_203 J ad _) rfl rfl ⟨Nat.le_of_ble_eq_true rfl, Nat.le_of_ble_eq_true rfl⟩ ⟨Nat.le_of_ble_eq_true rfl, Nat.le_of_ble_eq_true rfl⟩ rfl (Nat.le_of_ble_eq_true rfl) dX2_read_61 (fun H locs h => ?_)
              refine lv_if_ne (tgt := 10) hx hb dX2_read_64 (by decide) (fun c_64 => absurd (by decide) c_64) (fun c_64 => ?_)
              refine lv_aload_n hx hb dX2_read_67 rfl (lv_at hl 0 rfl) ?_
              refine fg_X2_35 X h dX2_read_68 ?_
              refine lv_as (y := nI p1) ((congrFun (u1_s G3 203 (upd (upd (G3 203) 3 (nI (i + 1))) 2 (nI p1))) 2).trans (by rw [upd_s])) ?_
              have hE := rd_e hpr (by omega) e1 hC_61
              rw [if_neg (show ¬ p1 = n by omega)] at hE
              exact hret (nI p1) (u1 G3 203 (upd (upd (G3 203) 3 (nI (i + 1))) 2 (nI p1))) _ _ 71 _ (by rw [hE]; exact ⟨fun k hk => by rw [u1_n (by omega)]; exact hfr1 k hk, by rw [u1_s]; exact (by rw [upd_n (by decide), upd_n (by decide)]; exact (a2.trans hn1)), rfl, fun q => by cases q⟩) h dX2_read_71
          · rw [nI_ltI (by omega) (by omega)] at c_53
            refine lv_iconst (v := (-1)) hx hb dX2_read_56 (by decide) ?_
            have hE := rd_e hpr (by omega) e1 (fun q => absurd q.1 (by omega))
            rw [if_pos (show p1 = n by omega)] at hE
            have hL : (pre ++ [y]).length = i + 1 := by rw [List.length_append, hpl]; rfl
            exact hret (-1) (u1 G3 203 (upd (G3 203) 3 (nI (i + 1)))) _ _ 57 _ (by rw [hE]; exact ⟨fun k hk => by rw [u1_n (by omega)]; exact hfr1 k hk, by rw [u1_s]; exact (by rw [upd_n (by decide)]; exact (a2.trans hn1)), rfl, fun _ => ⟨by rw [u1_s, hL]; exact (by rw [upd_s]), by show (pre ++ [y]).length ≤ 20; omega, fun j y2 q => (thA_app hpl hpa a6 b3 j y2 q).cg (fun k g1 g2 => by rw [u1_n (by omega)])⟩⟩) h dX2_read_57
        · obtain rfl : o = none := b1
          refine lv_as (y := nI 0) b2 ?_
          refine lv_if_ne (tgt := 35) hx hb dX2_read_27 (by decide) (fun c_27 => absurd (by decide) c_27) (fun c_27 => ?_)
          refine lv_aload_n hx hb dX2_read_30 rfl (lv_at hl 0 rfl) ?_
          refine fg_X2_35 X h dX2_read_31 ?_
          refine lv_as (y := nI p1) ((congrFun (u1_s G3 203 (G3 203)) 2).trans (a4)) ?_
          have hE := rd_n hpr (by omega) e1
          exact hret (nI p1) (u1 G3 203 (G3 203)) _ _ 34 _ (by rw [hE]; exact ⟨fun k hk => by rw [u1_n (by omega)]; exact hfr1 k hk, by rw [u1_s]; exact (a2.trans hn1), rfl, fun q => by cases q⟩) h dX2_read_34
  exact LP 21 0 0 G (upd (upd f 2 (nI 0)) 3 (nI 0)) [] (by omega) (by omega) (by omega) (by omega) (fun _ _ => rfl) (by rw [upd_n (by decide), upd_n (by decide)]; exact hn) (by rw [upd_n (by decide), upd_s]) (by rw [upd_s]) rfl (fun j y q => by cases q) rfl _ _ _ h (lv_sub hl [0] rfl)
