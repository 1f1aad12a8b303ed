
theorem RG_212 (G : GG) (a b F r : Nat → Int32) (h : True := trivial) : (RG (u1 (u1 G 213 a) 214 b) 0 r) 212 = G 212 := by
  rw [RG_n (by decide), u1_n (by decide), u1_n (by decide)]
theorem prs_le {t : Nat → Int32} {n : Nat} (hO : ∀ p, p ≤ n → (thO t n p).2 ≤ n) : ∀ {k p q : Nat}, p ≤ n → (prs t n k p).2 = some q → q ≤ n := by
  intro k
  induction k with
  | zero => intro p q hp h; cases h; exact hp
  | succ k ih =>
    intro p q hp h
    have hle := hO p hp
    rcases e : thO t n p with ⟨o, p1⟩
    rw [e] at hle
    cases o with
    | none => rw [prs_n e] at h; cases h; exact hle
    | some y =>
      rcases Classical.em (isC t n p1 59) with c | c
      · rw [prs_c e c] at h
        exact ih (by have := c.1; omega) h
      · rw [prs_e e c] at h
        have h2 : (if p1 = n then none else some p1) = some q := h
        split at h2
        · cases h2
        · cases h2; exact hle
theorem thK_le {t : Nat → Int32} {n d x g p : Nat} (hp : p ≤ n) : (thK t n d x g p).2 ≤ n := by
  unfold thK
  rcases Classical.em (isC t n p 43) with c | c
  · rw [cif_t c]; exact c.1
  · rw [cif_f c]
    rcases Classical.em (isC t n p 45) with c | c
    · rw [cif_t c]; exact c.1
    · rw [cif_f c]
      rcases Classical.em (isC t n p 120) with c | c
      · rw [cif_t c]; exact c.1
      · rw [cif_f c]; exact hp
theorem thO_le {t : Nat → Int32} {n p : Nat} (hp : p ≤ n) : (thO t n p).2 ≤ n := by
  have h0 : ∀ {p lo gr : Nat}, p ≤ n → (num t n p lo gr).2 ≤ n := fun h => (num_ge h).2
  unfold thO
  rcases Classical.em (isC t n p 112) with c | c
  · rw [cif_t c]
    have h1 := h0 (p := p + 1) (lo := 0) (gr := 11) (by have := c.1; omega)
    unfold thP
    rcases e1 : num t n (p + 1) 0 11 with ⟨o1, p1⟩
    rw [e1] at h1
    cases o1 with
    | none => exact h1
    | some d =>
      dsimp only
      rcases Classical.em (isC t n p1 58) with c | c
      · rw [cif_t c]
        have h2 := h0 (p := p1 + 1) (lo := 0) (gr := 6) (by have := c.1; omega)
        rcases e2 : num t n (p1 + 1) 0 6 with ⟨o2, p2⟩
        rw [e2] at h2
        cases o2 with
        | none => exact h2
        | some x =>
          dsimp only
          rcases Classical.em (isC t n p2 46) with c | c
          · rw [cif_t c]
            have h3 := h0 (p := p2 + 1) (lo := 0) (gr := 19) (by have := c.1; omega)
            rcases e3 : num t n (p2 + 1) 0 19 with ⟨o3, p3⟩
            rw [e3] at h3
            cases o3 with
            | none => exact h3
            | some g => exact thK_le h3
          · rw [cif_f c]; exact h2
      · rw [cif_f c]; exact h1
  · rw [cif_f c]
    rcases Classical.em (isC t n p 121) with c | c
    · rw [cif_t c]
      have h1 := h0 (p := p + 1) (lo := 0) (gr := 11) (by have := c.1; omega)
      unfold thY
      rcases e1 : num t n (p + 1) 0 11 with ⟨o1, p1⟩
      rw [e1] at h1
      cases o1 with
      | none => exact h1
      | some d =>
        dsimp only
        rcases Classical.em (isC t n p1 58) with c | c
        · rw [cif_t c]
          have h2 := h0 (p := p1 + 1) (lo := 0) (gr := 11) (by have := c.1; omega)
          rcases e2 : num t n (p1 + 1) 0 11 with ⟨o2, p2⟩
          rw [e2] at h2
          cases o2 with
          | none => exact h2
          | some x => exact h2
        · rw [cif_f c]; exact h1
    · rw [cif_f c]
      rcases Classical.em (isC t n p 46) with c | c
      · rw [cif_t c]
        have h1 := h0 (p := p + 1) (lo := 1) (gr := 99) (by have := c.1; omega)
        unfold thD
        rcases e1 : num t n (p + 1) 1 99 with ⟨o1, p1⟩
        rw [e1] at h1
        cases o1 with
        | none => exact h1
        | some d => exact h1
      · rw [cif_f c]; exact hp
/-- what perform() does: n characters, m states recorded -/
def pfOK (G : GG) (n m : Nat) (uG : GG) (ans : Int32) : Prop :=
  (∃ q, (prs (G 212) n (n + 1) 0).2 = some q ∧ ans = (-100) - nI q ∧ ∃ F, uG = u1 G 210 F ∧ ∀ j, j < 9 → F j = G 210 j) ∨
  ((prs (G 212) n (n + 1) 0).2 = none ∧ ∃ og g F : Nat → Int32, (∀ j, j < 9 → j ≠ 1 → j ≠ 5 → j ≠ 6 → F j = G 210 j) ∧
    ((∃ i e, (rnL (prs (G 212) n (n + 1) 0).1 (cpS (G 211) 0 6) 0).1 = some (i, e) ∧ ans = (-4) ∧ F 1 = nI m ∧ F 5 = nI i ∧ F 6 = e ∧ ∃ S, uG = u1 (u1 (u1 (u1 G 213 og) 214 g) 210 F) 211 S ∧ ∀ k, k < 3672 → S k = G 211 k) ∨
     ((rnL (prs (G 212) n (n + 1) 0).1 (cpS (G 211) 0 6) 0).1 = none ∧ ans = nI (prs (G 212) n (n + 1) 0).1.length ∧ F 1 = nI (if m = 4 then 4 else m + 1) ∧ F 5 = G 210 5 ∧ F 6 = G 210 6 ∧ uG = u1 (u1 (u1 (u1 G 213 og) 214 g) 210 F) 211 (rcS (rnL (prs (G 212) n (n + 1) 0).1 (cpS (G 211) 0 6) 0).2 m 6))))
set_option maxHeartbeats 4000000 in
set_option maxRecDepth 100000 in
theorem c_X8_perform (l : Launch) (J : JJ) (z : Nat) (ad : Nat → Nat) (G : GG) (n mm : Nat) (hn : G 210 4 = nI n) (hn60 : n ≤ 60) (hm : G 210 1 = nI mm) (hm4 : mm ≤ 4) (hR : RI (G 211)) : MI l J z ad yX8_perform cX8_perform 6 .int 7 [.ref (ad 210)] G (fun ans uG => pfOK G n mm uG ans) := by
  refine MI.go (by decide) (Nat.le_of_ble_eq_true rfl) ?_
  intro pr e s m args below meth c ls Q X h hl hret
  have hx := X.1
  have hb := X.2.1
  have hown := X.2.2.2.1
  have hts := X.2.2.2.2
  have hl : lv_has ls 6 [(0, .ref (ad 210))] := hl
  refine lv_aload_n hx hb dX8_perform_0 rfl (lv_at hl 0 rfl) ?_
  rw [← u1_self G 210] at h
  refine rg_civ (As := []) (rest := []) X hl.1 h (c_X8_fault l J z ad G (G 210) n hn hn60) mw_501 mw_502 mw_503 mw_5 mw_504 pdX8_fault (by decide) (xo_210 J ad _) rfl rfl ⟨Nat.le_of_ble_eq_true rfl, Nat.le_of_ble_eq_true rfl⟩ ⟨Nat.le_of_ble_eq_true rfl, Nat.le_of_ble_eq_true rfl⟩ rfl (Nat.le_of_ble_eq_true rfl) dX8_perform_1 (fun r1 G1 H locs q1 h => ?_)
  obtain ⟨f1, rfl, hf, hans⟩ := q1
  have hf9 := hf
  obtain ⟨qo, hqo⟩ : ∃ o, (prs (G 212) n (n + 1) 0).2 = o := ⟨_, rfl⟩
  rw [hqo] at hans
  have hf4 : f1 4 = nI n := by rw [hf 4 (by omega)]; exact hn
  rcases qo with _ | q
  · refine lv_as (y := (-5)) hans ?_
    refine lv_istore_n (lv' := [(1, .int ((-5))), (0, .ref (ad 210))]) hx hb dX8_perform_4 rfl hl (by decide) rfl (fun ls hl => ?_)
    refine lv_iload_n hx hb dX8_perform_5 rfl (lv_at hl 0 rfl) ?_
    refine lv_bipush (v := (-5)) hx hb dX8_perform_6 (by decide) ?_
    refine lv_icmp_eq (tgt := 16) hx hb dX8_perform_8 (by decide) (fun c_8 => ?_) (fun c_8 => absurd (by decide) c_8)
    refine lv_aload_n hx hb dX8_perform_16 rfl (lv_at hl 1 rfl) ?_
    refine lv_iconst (v := nI 0) hx hb dX8_perform_17 (by decide) ?_
    refine lv_bipush (v := nI 6) hx hb dX8_perform_18 (by decide) ?_
    refine rg_cvvd (As := [.int (nI 0), .int (nI 6)]) (rest := []) X hl.1 h (c_X8_copies l J z ad (u1 G 210 f1) 0 6 (by omega) (by omega) (by omega)) mw_176 mw_177 mw_178 mw_5 mw_179 pdX8_copies (by decide) (xo_210 J ad _) rfl rfl ⟨Nat.le_of_ble_eq_true rfl, Nat.le_of_ble_eq_true rfl⟩ ⟨Nat.le_of_ble_eq_true rfl, Nat.le_of_ble_eq_true rfl⟩ rfl (Nat.le_of_ble_eq_true rfl) dX8_perform_20 (fun H locs h => ?_)
    rw [u1_n (show (211 : Nat) ≠ 210 by decide), ← RG_0] at h
    refine lv_aload_n hx hb dX8_perform_23 rfl (lv_at hl 1 rfl) ?_
    refine lv_iconst (v := nI 0) hx hb dX8_perform_24 (by decide) ?_
    refine fp_X8_124 X h dX8_perform_25 (fun H locs h => ?_)
    rw [RG_put (by decide), u1_uu] at h
    refine lv_iconst (v := nI 0) hx hb dX8_perform_28 (by decide) ?_
    refine lv_istore_n (lv' := [(2, .int (nI 0)), (1, .int ((-5))), (0, .ref (ad 210))]) hx hb dX8_perform_29 rfl hl (by decide) rfl (fun ls hl => ?_)
    refine lv_iconst (v := nI 1) hx hb dX8_perform_30 (by decide) ?_
    refine lv_istore_n (lv' := [(3, .int (nI 1)), (2, .int (nI 0)), (1, .int ((-5))), (0, .ref (ad 210))]) hx hb dX8_perform_31 rfl hl (by decide) rfl (fun ls hl => ?_)
    have LP : ∀ (k p i : Nat) (r og g F : Nat → Int32) (L : List TH), n + 1 ≤ p + k → p ≤ n → i + k ≤ n + 1 → RI r → HiEq (cpS (G 211) 0 6) r → prs (G 212) n k p = (L, none) → F 4 = nI n → F 9 = nI p → (∀ j, j < 9 → F j = G 210 j) → rnL L r i = rnL (prs (G 212) n (n + 1) 0).1 (cpS (G 211) 0 6) 0 → i + L.length = (prs (G 212) n (n + 1) 0).1.length → ∀ (H : Heap) (locs : List Loc) (ls : Array Slot), HG J z ad s (RG (u1 (u1 (u1 G 213 og) 214 g) 210 F) 0 r) H locs → lv_has ls 6 [(0, .ref (ad 210)), (2, .int (nI i)), (3, .int (nI 1))] → W pr l e (rmD 7 0 0) s m args below meth c H locs 0 0 Q (F0 m 32 ls []) := by
      intro k
      induction k with
      | zero =>
        intro p i r og g F L g1 g2
        exact absurd g1 (by omega)
      | succ k ih =>
        intro p i r og g F L g1 g2 gi hRr hHi hP h4 h9 hf hX hlen H locs ls h hl
        refine lv_iload_n hx hb dX8_perform_32 rfl (lv_at hl 2 rfl) ?_
        refine lv_if_eq (tgt := 94) hx hb dX8_perform_33 (by decide) (fun c_33 => absurd c_33 (by decide)) (fun c_33 => ?_)
        refine lv_aload_n hx hb dX8_perform_36 rfl (lv_at hl 0 rfl) ?_
        rw [← RG_u1 (show (210 : Nat) ≠ 211 by decide)] at h
        have ht : (RG (u1 (u1 G 213 og) 214 g) 0 r) 212 = G 212 := RG_212 G og g F r
        refine rg_civ (As := []) (rest := []) X hl.1 h (c_X8_readsThing l J z ad (RG (u1 (u1 G 213 og) 214 g) 0 r) F n p h4 hn60 h9 (by omega)) mw_505 mw_506 mw_507 mw_5 mw_508 pdX8_readsThing (by decide) (xo_210 J ad _) rfl rfl ⟨Nat.le_of_ble_eq_true rfl, Nat.le_of_ble_eq_true rfl⟩ ⟨Nat.le_of_ble_eq_true rfl, Nat.le_of_ble_eq_true rfl⟩ rfl (Nat.le_of_ble_eq_true rfl) dX8_perform_37 (fun r3 G3 H locs q3 h => ?_)
        obtain ⟨f2, rfl, hrd⟩ := q3
        rw [ht] at hrd
        obtain ⟨hj, h92, hle, hcase⟩ := hrd
        rw [RG_u1 (show (210 : Nat) ≠ 211 by decide)] at h
        obtain ⟨oo, p1, hO⟩ : ∃ o p1, thO (G 212) n p = (o, p1) := ⟨_, _, rfl⟩
        rw [hO] at h92 hle hcase
        have h92 : f2 9 = nI p1 := h92
        have hle : p1 ≤ n := hle
        have h42 : f2 4 = nI n := by rw [hj 4 (by omega)]; exact h4
        obtain ⟨y, hy, ha, hF, hB⟩ : ∃ y, oo = some y ∧ _ ∧ thF f2 y ∧ thB y := by
          rcases hcase with ⟨y, hy, ha, hF, hB⟩ | ⟨hy, ha⟩
          · exact ⟨y, hy, ha, hF, hB⟩
          · have hy : oo = none := hy
            rw [hy] at hO
            rw [prs_n hO] at hP
            cases congrArg Prod.snd hP
        obtain rfl : oo = some y := hy
        have hlt := thO_lt hO
        refine lv_as (y := nI 1) ha ?_
        refine lv_istore (lv' := [(4, .int (nI 1)), (0, .ref (ad 210)), (2, .int (nI i)), (3, .int (nI 1))]) hx hb dX8_perform_40 hl (by decide) rfl (fun ls hl => ?_)
        refine lv_aload_n hx hb dX8_perform_42 rfl (lv_at hl 1 rfl) ?_
        refine rg_civ (As := []) (rest := []) X hl.1 h (c_X8_does l J z ad (u1 (u1 G 213 og) 214 g) f2 r hRr.1 y hF) mw_530 mw_531 mw_532 mw_5 mw_533 pdX8_does (by decide) (xo_210 J ad _) rfl rfl ⟨Nat.le_of_ble_eq_true rfl, Nat.le_of_ble_eq_true rfl⟩ ⟨Nat.le_of_ble_eq_true rfl, Nat.le_of_ble_eq_true rfl⟩ rfl (Nat.le_of_ble_eq_true rfl) dX8_perform_43 (fun r4 G4 H locs q4 h => ?_)
        obtain ⟨og2, g2a, rfl, rfl⟩ := q4
        rw [u5] at h
        refine lv_istore (lv' := [(5, .int (dsA r y)), (4, .int (nI 1)), (0, .ref (ad 210)), (2, .int (nI i)), (3, .int (nI 1))]) hx hb dX8_perform_46 hl (by decide) rfl (fun ls hl => ?_)
        refine lv_iload hx hb dX8_perform_48 (lv_at hl 0 rfl) ?_
        refine lv_if_ge (tgt := 81) hx hb dX8_perform_50 (by decide) (fun c_50 => ?_) (fun c_50 => ?_)
        · have hgo : ¬ (dsA r y < 0 ∧ dsA r y ≠ (-5)) := fun k => by first | exact Int32.not_lt.mpr c_50 k.1 | exact k.2 c_57
          refine lv_iinc (v := nI (i + 1)) (lv' := [(2, .int (nI (i + 1))), (5, .int (dsA r y)), (4, .int (nI 1)), (0, .ref (ad 210)), (3, .int (nI 1))]) hx hb dX8_perform_81 hl (k := 3) rfl (nI_addc (b := 1) (by omega)) (by decide) rfl (fun ls hl => ?_)
          refine lv_aload_n hx hb dX8_perform_84 rfl (lv_at hl 3 rfl) ?_
          refine lv_bipush (v := nI 59) hx hb dX8_perform_85 (by decide) ?_
          rcases Classical.em (isC (G 212) n p1 59) with hC | hC
          · have hL := hC.1
            have hLy : L = y :: (prs (G 212) n k (p1 + 1)).1 := by rw [prs_c hO hC] at hP; exact (congrArg Prod.fst hP).symm
            rw [← RG_u1 (show (210 : Nat) ≠ 211 by decide)] at h
            have ht2 : (RG (u1 (u1 G 213 og2) 214 g2a) 0 (dsR r y)) 212 = G 212 := RG_212 G og2 g2a f2 _
            refine rg_civd (As := [.int (nI 59)]) (rest := []) X hl.1 h (c_X8_takes_t l J z ad (RG (u1 (u1 G 213 og2) 214 g2a) 0 (dsR r y)) f2 n p1 h42 hn60 h92 (by omega) 59 (by omega) (by rw [ht2]; exact hC)) mw_526 mw_527 mw_528 mw_5 mw_529 pdX8_takes (by decide) (xo_210 J ad _) rfl rfl ⟨Nat.le_of_ble_eq_true rfl, Nat.le_of_ble_eq_true rfl⟩ ⟨Nat.le_of_ble_eq_true rfl, Nat.le_of_ble_eq_true rfl⟩ rfl (Nat.le_of_ble_eq_true rfl) dX8_perform_87 (fun H locs h => ?_)
            rw [RG_u1 (show (210 : Nat) ≠ 211 by decide)] at h
            refine lv_istore_n (lv' := [(3, .int (nI 1)), (2, .int (nI (i + 1))), (5, .int (dsA r y)), (4, .int (nI 1)), (0, .ref (ad 210))]) hx hb dX8_perform_90 rfl hl (by decide) rfl (fun ls hl => ?_)
            refine lv_goto (tgt := 32) hx hb dX8_perform_91 (by decide) ?_
            exact ih (p1 + 1) (i + 1) _ og2 g2a (upd f2 9 (nI (p1 + 1))) (prs (G 212) n k (p1 + 1)).1 (by omega) (by omega) (by omega) (dsR_RI hRr y) (hHi.tr (dsR_hi hRr.1 y)) (by rw [prs_c hO hC] at hP; have e := congrArg Prod.snd hP; exact Prod.ext rfl e) (by rw [upd_n (by decide)]; exact h42) (by rw [upd_s]) (fun j hj2 => by rw [upd_n (by omega), hj j hj2]; exact hf j hj2) (by rw [← hX, hLy]; exact (if_neg hgo).symm) (by rw [hLy] at hlen; rw [← hlen]; show _ = _ + (_ + 1); omega) _ _ _ h (lv_sub hl [4, 1, 0] rfl)
          · have hLy : L = [y] := by rw [prs_e hO hC] at hP; exact (congrArg Prod.fst hP).symm
            rw [← RG_u1 (show (210 : Nat) ≠ 211 by decide)] at h
            have ht2 : (RG (u1 (u1 G 213 og2) 214 g2a) 0 (dsR r y)) 212 = G 212 := RG_212 G og2 g2a f2 _
            refine rg_civd (As := [.int (nI 59)]) (rest := []) X hl.1 h (c_X8_takes_f l J z ad (RG (u1 (u1 G 213 og2) 214 g2a) 0 (dsR r y)) f2 n p1 h42 hn60 h92 (by omega) 59 (by omega) (by rw [ht2]; exact hC)) mw_526 mw_527 mw_528 mw_5 mw_529 pdX8_takes (by decide) (xo_210 J ad _) rfl rfl ⟨Nat.le_of_ble_eq_true rfl, Nat.le_of_ble_eq_true rfl⟩ ⟨Nat.le_of_ble_eq_true rfl, Nat.le_of_ble_eq_true rfl⟩ rfl (Nat.le_of_ble_eq_true rfl) dX8_perform_87 (fun H locs h => ?_)
            rw [RG_u1 (show (210 : Nat) ≠ 211 by decide)] at h
            refine lv_istore_n (lv' := [(3, .int (nI 0)), (2, .int (nI (i + 1))), (5, .int (dsA r y)), (4, .int (nI 1)), (0, .ref (ad 210))]) hx hb dX8_perform_90 rfl hl (by decide) rfl (fun ls hl => ?_)
            refine lv_goto (tgt := 32) hx hb dX8_perform_91 (by decide) ?_
            refine lv_iload_n hx hb dX8_perform_32 rfl (lv_at hl 0 rfl) ?_
            refine lv_if_eq (tgt := 94) hx hb dX8_perform_33 (by decide) (fun c_33 => ?_) (fun c_33 => absurd (by decide) c_33)
            refine lv_aload_n hx hb dX8_perform_94 rfl (lv_at hl 4 rfl) ?_
            refine lv_bipush (v := nI 6) hx hb dX8_perform_95 (by decide) ?_
            rw [RG_0] at h
            have h21 : f2 1 = nI mm := by rw [hj 1 (by omega), hf 1 (by omega)]; exact hm
            refine rg_cvvd (As := [.int (nI 6)]) (rest := []) X hl.1 h (c_X8_records l J z ad (u1 (u1 (u1 (u1 G 213 og2) 214 g2a) 210 (upd f2 9 (nI (p1)))) 211 (dsR r y)) mm 6 (by rw [u1_n (by decide), u1_s, upd_n (by decide)]; exact h21) hm4 (Or.inr rfl)) mw_197 mw_198 mw_199 mw_5 mw_200 pdX8_records (by decide) (xo_210 J ad _) rfl rfl ⟨Nat.le_of_ble_eq_true rfl, Nat.le_of_ble_eq_true rfl⟩ ⟨Nat.le_of_ble_eq_true rfl, Nat.le_of_ble_eq_true rfl⟩ rfl (Nat.le_of_ble_eq_true rfl) dX8_perform_97 (fun H locs h => ?_)
            refine lv_iload_n hx hb dX8_perform_100 rfl (lv_at hl 1 rfl) ?_
            exact hret (nI (i + 1)) _ _ _ 101 _ (Or.inr ⟨hqo, og2, g2a, upd (upd f2 9 (nI (p1))) 1 (nI (if mm = 4 then 4 else mm + 1)), (fun j a b c d => by rw [upd_n b, upd_n (by omega), hj j a]; exact hf j a), Or.inr ⟨by rw [← hX, hLy]; exact congrArg Prod.fst (if_neg hgo), by rw [← hlen, hLy]; rfl, by rw [upd_s], by rw [upd_n (by decide), upd_n (by decide), hj 5 (by omega)]; exact hf 5 (by omega), by rw [upd_n (by decide), upd_n (by decide), hj 6 (by omega)]; exact hf 6 (by omega), by rw [← hX, hLy, show (rnL [y] r i).2 = dsR r y from congrArg Prod.snd (if_neg hgo), u1_s, u1_u1, u1_n (show (210 : Nat) ≠ 211 by decide), u1_s, u1_comm (show (211 : Nat) ≠ 210 by decide), u1_u1]⟩⟩) h dX8_perform_101
        · refine lv_iload hx hb dX8_perform_53 (lv_at hl 0 rfl) ?_
          refine lv_bipush (v := (-5)) hx hb dX8_perform_55 (by decide) ?_
          refine lv_icmp_eq (tgt := 81) hx hb dX8_perform_57 (by decide) (fun c_57 => ?_) (fun c_57 => ?_)
          · have hgo : ¬ (dsA r y < 0 ∧ dsA r y ≠ (-5)) := fun k => by first | exact Int32.not_lt.mpr c_50 k.1 | exact k.2 c_57
            refine lv_iinc (v := nI (i + 1)) (lv' := [(2, .int (nI (i + 1))), (5, .int (dsA r y)), (4, .int (nI 1)), (0, .ref (ad 210)), (3, .int (nI 1))]) hx hb dX8_perform_81 hl (k := 3) rfl (nI_addc (b := 1) (by omega)) (by decide) rfl (fun ls hl => ?_)
            refine lv_aload_n hx hb dX8_perform_84 rfl (lv_at hl 3 rfl) ?_
            refine lv_bipush (v := nI 59) hx hb dX8_perform_85 (by decide) ?_
            rcases Classical.em (isC (G 212) n p1 59) with hC | hC
            · have hL := hC.1
              have hLy : L = y :: (prs (G 212) n k (p1 + 1)).1 := by rw [prs_c hO hC] at hP; exact (congrArg Prod.fst hP).symm
              rw [← RG_u1 (show (210 : Nat) ≠ 211 by decide)] at h
              have ht2 : (RG (u1 (u1 G 213 og2) 214 g2a) 0 (dsR r y)) 212 = G 212 := RG_212 G og2 g2a f2 _
              refine rg_civd (As := [.int (nI 59)]) (rest := []) X hl.1 h (c_X8_takes_t l J z ad (RG (u1 (u1 G 213 og2) 214 g2a) 0 (dsR r y)) f2 n p1 h42 hn60 h92 (by omega) 59 (by omega) (by rw [ht2]; exact hC)) mw_526 mw_527 mw_528 mw_5 mw_529 pdX8_takes (by decide) (xo_210 J ad _) rfl rfl ⟨Nat.le_of_ble_eq_true rfl, Nat.le_of_ble_eq_true rfl⟩ ⟨Nat.le_of_ble_eq_true rfl, Nat.le_of_ble_eq_true rfl⟩ rfl (Nat.le_of_ble_eq_true rfl) dX8_perform_87 (fun H locs h => ?_)
              rw [RG_u1 (show (210 : Nat) ≠ 211 by decide)] at h
              refine lv_istore_n (lv' := [(3, .int (nI 1)), (2, .int (nI (i + 1))), (5, .int (dsA r y)), (4, .int (nI 1)), (0, .ref (ad 210))]) hx hb dX8_perform_90 rfl hl (by decide) rfl (fun ls hl => ?_)
              refine lv_goto (tgt := 32) hx hb dX8_perform_91 (by decide) ?_
              exact ih (p1 + 1) (i + 1) _ og2 g2a (upd f2 9 (nI (p1 + 1))) (prs (G 212) n k (p1 + 1)).1 (by omega) (by omega) (by omega) (dsR_RI hRr y) (hHi.tr (dsR_hi hRr.1 y)) (by rw [prs_c hO hC] at hP; have e := congrArg Prod.snd hP; exact Prod.ext rfl e) (by rw [upd_n (by decide)]; exact h42) (by rw [upd_s]) (fun j hj2 => by rw [upd_n (by omega), hj j hj2]; exact hf j hj2) (by rw [← hX, hLy]; exact (if_neg hgo).symm) (by rw [hLy] at hlen; rw [← hlen]; show _ = _ + (_ + 1); omega) _ _ _ h (lv_sub hl [4, 1, 0] rfl)
            · have hLy : L = [y] := by rw [prs_e hO hC] at hP; exact (congrArg Prod.fst hP).symm
              rw [← RG_u1 (show (210 : Nat) ≠ 211 by decide)] at h
              have ht2 : (RG (u1 (u1 G 213 og2) 214 g2a) 0 (dsR r y)) 212 = G 212 := RG_212 G og2 g2a f2 _
              refine rg_civd (As := [.int (nI 59)]) (rest := []) X hl.1 h (c_X8_takes_f l J z ad (RG (u1 (u1 G 213 og2) 214 g2a) 0 (dsR r y)) f2 n p1 h42 hn60 h92 (by omega) 59 (by omega) (by rw [ht2]; exact hC)) mw_526 mw_527 mw_528 mw_5 mw_529 pdX8_takes (by decide) (xo_210 J ad _) rfl rfl ⟨Nat.le_of_ble_eq_true rfl, Nat.le_of_ble_eq_true rfl⟩ ⟨Nat.le_of_ble_eq_true rfl, Nat.le_of_ble_eq_true rfl⟩ rfl (Nat.le_of_ble_eq_true rfl) dX8_perform_87 (fun H locs h => ?_)
              rw [RG_u1 (show (210 : Nat) ≠ 211 by decide)] at h
              refine lv_istore_n (lv' := [(3, .int (nI 0)), (2, .int (nI (i + 1))), (5, .int (dsA r y)), (4, .int (nI 1)), (0, .ref (ad 210))]) hx hb dX8_perform_90 rfl hl (by decide) rfl (fun ls hl => ?_)
              refine lv_goto (tgt := 32) hx hb dX8_perform_91 (by decide) ?_
              refine lv_iload_n hx hb dX8_perform_32 rfl (lv_at hl 0 rfl) ?_
              refine lv_if_eq (tgt := 94) hx hb dX8_perform_33 (by decide) (fun c_33 => ?_) (fun c_33 => absurd (by decide) c_33)
              refine lv_aload_n hx hb dX8_perform_94 rfl (lv_at hl 4 rfl) ?_
              refine lv_bipush (v := nI 6) hx hb dX8_perform_95 (by decide) ?_
              rw [RG_0] at h
              have h21 : f2 1 = nI mm := by rw [hj 1 (by omega), hf 1 (by omega)]; exact hm
              refine rg_cvvd (As := [.int (nI 6)]) (rest := []) X hl.1 h (c_X8_records l J z ad (u1 (u1 (u1 (u1 G 213 og2) 214 g2a) 210 (upd f2 9 (nI (p1)))) 211 (dsR r y)) mm 6 (by rw [u1_n (by decide), u1_s, upd_n (by decide)]; exact h21) hm4 (Or.inr rfl)) mw_197 mw_198 mw_199 mw_5 mw_200 pdX8_records (by decide) (xo_210 J ad _) rfl rfl ⟨Nat.le_of_ble_eq_true rfl, Nat.le_of_ble_eq_true rfl⟩ ⟨Nat.le_of_ble_eq_true rfl, Nat.le_of_ble_eq_true rfl⟩ rfl (Nat.le_of_ble_eq_true rfl) dX8_perform_97 (fun H locs h => ?_)
              refine lv_iload_n hx hb dX8_perform_100 rfl (lv_at hl 1 rfl) ?_
              exact hret (nI (i + 1)) _ _ _ 101 _ (Or.inr ⟨hqo, og2, g2a, upd (upd f2 9 (nI (p1))) 1 (nI (if mm = 4 then 4 else mm + 1)), (fun j a b c d => by rw [upd_n b, upd_n (by omega), hj j a]; exact hf j a), Or.inr ⟨by rw [← hX, hLy]; exact congrArg Prod.fst (if_neg hgo), by rw [← hlen, hLy]; rfl, by rw [upd_s], by rw [upd_n (by decide), upd_n (by decide), hj 5 (by omega)]; exact hf 5 (by omega), by rw [upd_n (by decide), upd_n (by decide), hj 6 (by omega)]; exact hf 6 (by omega), by rw [← hX, hLy, show (rnL [y] r i).2 = dsR r y from congrArg Prod.snd (if_neg hgo), u1_s, u1_u1, u1_n (show (210 : Nat) ≠ 211 by decide), u1_s, u1_comm (show (211 : Nat) ≠ 210 by decide), u1_u1]⟩⟩) h dX8_perform_101
          · have hst : dsA r y < 0 ∧ dsA r y ≠ (-5) := ⟨Int32.not_le.mp c_50, c_57⟩
            obtain ⟨L2, hLL⟩ : ∃ L2, L = y :: L2 := by
              rcases Classical.em (isC (G 212) n p1 59) with hC | hC
              · rw [prs_c hO hC] at hP; exact ⟨_, (congrArg Prod.fst hP).symm⟩
              · rw [prs_e hO hC] at hP; exact ⟨_, (congrArg Prod.fst hP).symm⟩
            have hS : ∀ k, k < 3672 → cpS (dsR r y) 6 0 k = G 211 k := by
              have hhi := hHi.tr (dsR_hi hRr.1 y)
              intro k hk
              unfold cpS
              by_cases h6 : k < 612
              · rw [if_pos (by omega), hhi _ (by omega)]
                unfold cpS
                rw [if_pos (by omega)]
                congr 1
                omega
              · rw [if_neg (by omega), hhi _ (by omega)]
                unfold cpS
                rw [if_neg (by omega)]
            refine lv_aload_n hx hb dX8_perform_60 rfl (lv_at hl 2 rfl) ?_
            refine lv_bipush (v := nI 6) hx hb dX8_perform_61 (by decide) ?_
            refine lv_iconst (v := nI 0) hx hb dX8_perform_63 (by decide) ?_
            rw [RG_0] at h
            refine rg_cvvd (As := [.int (nI 6), .int (nI 0)]) (rest := []) X hl.1 h (c_X8_copies l J z ad (u1 (u1 (u1 (u1 G 213 og2) 214 g2a) 210 f2) 211 ((dsR r y))) 6 0 (by omega) (by omega) (by omega)) mw_176 mw_177 mw_178 mw_5 mw_179 pdX8_copies (by decide) (xo_210 J ad _) rfl rfl ⟨Nat.le_of_ble_eq_true rfl, Nat.le_of_ble_eq_true rfl⟩ ⟨Nat.le_of_ble_eq_true rfl, Nat.le_of_ble_eq_true rfl⟩ rfl (Nat.le_of_ble_eq_true rfl) dX8_perform_64 (fun H locs h => ?_)
            rw [u1_s, u1_u1] at h
            rw [← RG_0] at h
            refine lv_aload_n hx hb dX8_perform_67 rfl (lv_at hl 2 rfl) ?_
            refine lv_iload_n hx hb dX8_perform_68 rfl (lv_at hl 3 rfl) ?_
            refine fp_X8_16 X h dX8_perform_69 (fun H locs h => ?_)
            rw [RG_put (by decide), u1_uu] at h
            refine lv_aload_n hx hb dX8_perform_72 rfl (lv_at hl 2 rfl) ?_
            refine lv_iload hx hb dX8_perform_73 (lv_at hl 0 rfl) ?_
            refine fp_X8_20 X h dX8_perform_75 (fun H locs h => ?_)
            rw [RG_put (by decide), u1_uu] at h
            refine lv_bipush (v := (-4)) hx hb dX8_perform_78 (by decide) ?_
            exact hret (-4) (RG (u1 (u1 (u1 G 213 og2) 214 g2a) 210 (upd (upd f2 5 (nI i)) 6 (dsA r y))) 0 (cpS ((dsR r y)) 6 0)) _ _ 80 _ (Or.inr ⟨hqo, og2, g2a, upd (upd f2 5 (nI i)) 6 (dsA r y), (fun j a b c d => by rw [upd_n d, upd_n c, hj j a]; exact hf j a), Or.inl ⟨i, dsA r y, by rw [← hX, hLL]; exact congrArg Prod.fst (if_pos hst), rfl, by rw [upd_n (by decide), upd_n (by decide), hj 1 (by omega), hf 1 (by omega)]; exact hm, by rw [upd_n (by decide), upd_s], by rw [upd_s], cpS (dsR r y) 6 0, by rw [RG_0], hS⟩⟩) h dX8_perform_80
    have hR1 : RI (cpS (G 211) 0 6) := req_RI (cpS_0 (G 211) (a := 6) (by omega)) hR
    have eG : u1 (u1 G 213 (G 213)) 214 (G 214) = G := by rw [u1_self, u1_self]
    rw [show u1 G 210 (upd f1 9 (nI 0)) = u1 (u1 (u1 G 213 (G 213)) 214 (G 214)) 210 (upd f1 9 (nI 0)) by rw [eG]] at h
    exact LP (n + 1) 0 0 _ _ _ _ _ (by omega) (by omega) (by omega) hR1 (HiEq.rf _) (by rw [← hqo]) (by rw [upd_n (by decide)]; exact hf4) (by rw [upd_s]) (fun j hj2 => by rw [upd_n (by omega)]; exact hf j hj2) rfl (by rw [Nat.zero_add]) _ _ _ h (lv_sub hl [3, 1, 0] rfl)
  · have hq61 := prs_le (fun p hp => thO_le hp) (Nat.zero_le _) hqo
    refine lv_as (y := nI q) hans ?_
    refine lv_istore_n (lv' := [(1, .int (nI q)), (0, .ref (ad 210))]) hx hb dX8_perform_4 rfl hl (by decide) rfl (fun ls hl => ?_)
    refine lv_iload_n hx hb dX8_perform_5 rfl (lv_at hl 0 rfl) ?_
    refine lv_bipush (v := (-5)) hx hb dX8_perform_6 (by decide) ?_
    refine lv_icmp_eq (tgt := 16) hx hb dX8_perform_8 (by decide) (fun c_8 => absurd c_8 (nI_n5 (by omega))) (fun c_8 => ?_)
    refine lv_bipush (v := (-100)) hx hb dX8_perform_11 (by decide) ?_
    refine lv_iload_n hx hb dX8_perform_13 rfl (lv_at hl 0 rfl) ?_
    refine lv_isub hx hb dX8_perform_14 ?_
    exact hret ((-100) - (nI q)) (u1 G 210 f1) _ _ 15 _ (Or.inl ⟨q, hqo, rfl, f1, rfl, hf⟩) h dX8_perform_15
