/-! THE TEXT of the class: things -/
def thA (G : GG) (i : Nat) (y : TH) : Prop := (y.1 = 0 ∧ G 205 i = nI 0 ∧ G 206 i = nI y.2.1 ∧ G 207 i = nI y.2.2.1 ∧ G 208 i = nI y.2.2.2.1 ∧ G 209 i = nI y.2.2.2.2) ∨ (y.1 = 1 ∧ G 205 i = nI 1 ∧ G 206 i = nI y.2.1 ∧ G 207 i = nI y.2.2.1) ∨ (y.1 = 2 ∧ G 205 i = nI 2 ∧ G 207 i = nI y.2.1)
def thW (G uG : GG) (f : Nat → Int32) (i : Nat) (o : Option TH × Nat) (n : Nat) (ans : Int32) : Prop := (∀ k, (k < 203 ∨ k = 204 ∨ 210 ≤ k) → uG k = G k) ∧ uG 203 1 = f 1 ∧ uG 203 3 = f 3 ∧ uG 203 2 = nI o.2 ∧ o.2 ≤ n ∧ (∀ k, 205 ≤ k → k < 210 → ∀ j, j ≠ i → uG k j = G k j) ∧ ((∃ y, o.1 = some y ∧ ans = nI 1 ∧ thA uG i y) ∨ (o.1 = none ∧ ans = nI 0))
theorem thW.up {G uG : GG} {f F : Nat → Int32} {i n : Nat} {v : Int32} {o : Option TH × Nat} {ans : Int32} (h : thW (u1 G 205 (upd (G 205) i v)) uG F i o n ans) (h1 : F 1 = f 1) (h3 : F 3 = f 3) : thW G uG f i o n ans := by
  obtain ⟨a1, a2, a3, a4, a5, a6, a7⟩ := h
  refine ⟨fun k hk => by rw [a1 k hk, u1_n (by omega)], by rw [a2, h1], by rw [a3, h3], a4, a5, fun k g1 g2 j hj => ?_, a7⟩
  rw [a6 k g1 g2 j hj]
  by_cases e : k = 205
  · subst e
    rw [u1_s, upd_n hj]
  · rw [u1_n e]
theorem thP_lt {t : Nat → Int32} {n p : Nat} (hp : p ≤ n) : (thP t n p).1 = none ∨ p + 1 ≤ (thP t n p).2 := by
  unfold thP
  have h1 := num_ok (t := t) (n := n) (p := p) (ls := 0) (gr := 11) (o := (num t n p 0 11).1) (p2 := (num t n p 0 11).2) rfl hp
  rcases e1 : num t n p 0 11 with ⟨o1, p1⟩
  rw [e1] at h1
  cases o1 with
  | none => exact Or.inl rfl
  | some d =>
    have h0 := (h1.2.2 d rfl).2
    dsimp only at h0 h1
    refine Or.inr (cif_ge (fun c1 => ?_) (by show p + 1 ≤ p1; omega))
    have c2 := c1.1
    have h2 := num_ge (t := t) (lo := 0) (gr := 6) (show p1 + 1 ≤ n by omega)
    rcases e2 : num t n (p1 + 1) 0 6 with ⟨o2, p2⟩
    rw [e2] at h2
    have h2a := h2.1
    dsimp only at h2a
    cases o2 with
    | none => show p + 1 ≤ p2; omega
    | some x =>
      refine cif_ge (fun c3 => ?_) (by show p + 1 ≤ p2; omega)
      have c4 := c3.1
      have h3 := num_ge (t := t) (lo := 0) (gr := 19) (show p2 + 1 ≤ n by omega)
      rcases e3 : num t n (p2 + 1) 0 19 with ⟨o3, p3⟩
      rw [e3] at h3
      have h3a := h3.1
      dsimp only at h3a
      cases o3 with
      | none => show p + 1 ≤ p3; omega
      | some g =>
        show p + 1 ≤ (thK t n d x g p3).2
        unfold thK
        exact cif_ge (fun _ => by show p + 1 ≤ p3 + 1; omega) (cif_ge (fun _ => by show p + 1 ≤ p3 + 1; omega) (cif_ge (fun _ => by show p + 1 ≤ p3 + 1; omega) (by show p + 1 ≤ p3; omega)))
theorem thY_lt {t : Nat → Int32} {n p : Nat} (hp : p ≤ n) : (thY t n p).1 = none ∨ p + 1 ≤ (thY t n p).2 := by
  unfold thY
  have h1 := num_ok (t := t) (n := n) (p := p) (ls := 0) (gr := 11) (o := (num t n p 0 11).1) (p2 := (num t n p 0 11).2) rfl hp
  rcases e1 : num t n p 0 11 with ⟨o1, p1⟩
  rw [e1] at h1
  cases o1 with
  | none => exact Or.inl rfl
  | some d =>
    have h0 := (h1.2.2 d rfl).2
    dsimp only at h0 h1
    refine Or.inr (cif_ge (fun c1 => ?_) (by show p + 1 ≤ p1; omega))
    have c2 := c1.1
    have h2 := num_ge (t := t) (lo := 0) (gr := 11) (show p1 + 1 ≤ n by omega)
    rcases e2 : num t n (p1 + 1) 0 11 with ⟨o2, p2⟩
    rw [e2] at h2
    have h2a := h2.1
    dsimp only at h2a
    cases o2 with
    | none => show p + 1 ≤ p2; omega
    | some x => show p + 1 ≤ p2; omega
theorem thD_lt {t : Nat → Int32} {n p : Nat} (hp : p ≤ n) : (thD t n p).1 = none ∨ p + 1 ≤ (thD t n p).2 := by
  unfold thD
  have h1 := num_ok (t := t) (n := n) (p := p) (ls := 1) (gr := 99) (o := (num t n p 1 99).1) (p2 := (num t n p 1 99).2) rfl hp
  rcases e1 : num t n p 1 99 with ⟨o1, p1⟩
  rw [e1] at h1
  cases o1 with
  | none => exact Or.inl rfl
  | some d =>
    have h0 := (h1.2.2 d rfl).2
    dsimp only at h0 h1
    exact Or.inr (by show p + 1 ≤ p1; omega)
theorem thO_2 {t : Nat → Int32} {n p p1 : Nat} {y : TH} (h : thO t n p = (some y, p1)) : p + 2 ≤ p1 := by
  unfold thO at h
  rcases Classical.em (isC t n p 112) with c | c
  · rw [cif_t c] at h
    have := thP_lt (t := t) (n := n) (p := p + 1) (by have := c.1; omega)
    rw [h] at this
    exact this.elim (fun q => by cases q) (fun q => q)
  · rw [cif_f c] at h
    rcases Classical.em (isC t n p 121) with c | c
    · rw [cif_t c] at h
      have := thY_lt (t := t) (n := n) (p := p + 1) (by have := c.1; omega)
      rw [h] at this
      exact this.elim (fun q => by cases q) (fun q => q)
    · rw [cif_f c] at h
      rcases Classical.em (isC t n p 46) with c | c
      · rw [cif_t c] at h
        have := thD_lt (t := t) (n := n) (p := p + 1) (by have := c.1; omega)
        rw [h] at this
        exact this.elim (fun q => by cases q) (fun q => q)
      · rw [cif_f c] at h
        cases congrArg Prod.fst h
set_option maxHeartbeats 4000000 in
set_option maxRecDepth 100000 in
theorem c_X2_readSeconding (l : Launch) (J : JJ) (z : Nat) (ad : Nat → Nat) (G : GG) (t : Nat → Int32) (ht : G 204 = t) (f : Nat → Int32) (n q : Nat) (hn : f 1 = nI n) (hn60 : n ≤ 60) (hq : f 2 = nI q) (hqn : q ≤ n) (i : Nat) (hi : i < 20) (h5 : G 205 i = nI 1) : MI l J z ad yX2_readSeconding cX2_readSeconding 2 .boolean 2 [.ref (ad 203), .int (nI i)] (u1 G 203 f) (fun ans uG => thW G uG f i (thY t n q) n ans) := by
  refine MZ.go (by decide) (Nat.le_of_ble_eq_true rfl) ?_
  intro pr e s m args below meth c ls Q X h hl hret
  have hx := X.1
  have hb := X.2.1
  have hown := X.2.2.2.1
  have hts := X.2.2.2.2
  have hl : lv_has ls 2 [(0, .ref (ad 203)), (1, .int (nI i))] := hl
  refine lv_aload_n hx hb dX2_readSeconding_0 rfl (lv_at hl 0 rfl) ?_
  refine fg_X2_19 X h dX2_readSeconding_1 ?_
  refine lv_iload_n hx hb dX2_readSeconding_4 rfl (lv_at hl 1 rfl) ?_
  refine lv_aload_n hx hb dX2_readSeconding_5 rfl (lv_at hl 0 rfl) ?_
  refine lv_iconst (v := nI 0) hx hb dX2_readSeconding_6 (by decide) ?_
  refine lv_bipush (v := nI 11) hx hb dX2_readSeconding_7 (by decide) ?_
  obtain ⟨o_9, p_9, hN_9⟩ : ∃ o q2, num t n q 0 11 = (o, q2) := ⟨_, _, rfl⟩
  have hB_9 := num_ok hN_9 (by omega)
  refine rg_civd (As := [.int (nI 0), .int (nI 11)]) (rest := [.int (nI i), .ref (ad 206)]) X hl.1 h (c_X2_readNumber l J z ad G t ht f n q hn hn60 hq (by omega) 0 11 (by omega) (by omega) o_9 p_9 hN_9) mw_471 mw_472 mw_473 mw_25 mw_474 pdX2_readNumber (by decide) (xo_203 J ad _) rfl rfl ⟨Nat.le_of_ble_eq_true rfl, Nat.le_of_ble_eq_true rfl⟩ ⟨Nat.le_of_ble_eq_true rfl, Nat.le_of_ble_eq_true rfl⟩ rfl (Nat.le_of_ble_eq_true rfl) dX2_readSeconding_9 (fun H locs h => ?_)
  rcases o_9 with _ | d_9
  · refine lv_as (y := (-1)) rfl ?_
    refine rg_ist X h 206 (by decide) (xa_206 J ad) (i) rfl (by omega) (by decide) dX2_readSeconding_12 (fun H locs h => ?_)
    rw [u1_sw (by decide)] at h
    refine lv_aload_n hx hb dX2_readSeconding_13 rfl (lv_at hl 0 rfl) ?_
    refine fg_X2_19 X h dX2_readSeconding_14 ?_
    refine lv_iload_n hx hb dX2_readSeconding_17 rfl (lv_at hl 1 rfl) ?_
    refine rg_ild X h 206 (by decide) (xa_206 J ad) (i) rfl (by omega) (by decide) dX2_readSeconding_18 ?_
    refine lv_as (y := (u1 G 206 (upd (G 206) i (-1))) 206 i) (congrFun (u1_n (by decide)) _) ?_
    refine lv_as (y := (-1)) (by rw [u1_s, upd_s]) ?_
    refine lv_if_lt (tgt := 31) hx hb dX2_readSeconding_19 (by decide) (fun c_19 => ?_) (fun c_19 => absurd (by decide) c_19)
    refine lv_iconst (v := nI 0) hx hb dX2_readSeconding_31 (by decide) ?_
    have e : thY t n q = (none, p_9) := by
      simp only [thY, hN_9]
    exact hret (nI 0) (u1 (u1 G 206 (upd (G 206) i (-1))) 203 (upd f 2 (nI p_9))) _ _ 32 _ (⟨(fun k hk => by simp only [u1]; repeat rw [if_neg (by omega)]), by simp [u1, upd_n, upd_s], by simp [u1, upd_n, upd_s], by rw [e, u1_s, upd_s], by rw [e]; omega, (fun k g1 g2 j hj => by rcases (show k = 205 ∨ k = 206 ∨ k = 207 ∨ k = 208 ∨ k = 209 by omega) with rfl | rfl | rfl | rfl | rfl <;> simp [u1, upd_n hj]), Or.inr ⟨by rw [e], rfl⟩⟩) h rfl dX2_readSeconding_32
  · have hV_9 := hB_9.2.2 d_9 rfl
    refine lv_as (y := nI d_9) rfl ?_
    refine rg_ist X h 206 (by decide) (xa_206 J ad) (i) rfl (by omega) (by decide) dX2_readSeconding_12 (fun H locs h => ?_)
    rw [u1_sw (by decide)] at h
    refine lv_aload_n hx hb dX2_readSeconding_13 rfl (lv_at hl 0 rfl) ?_
    refine fg_X2_19 X h dX2_readSeconding_14 ?_
    refine lv_iload_n hx hb dX2_readSeconding_17 rfl (lv_at hl 1 rfl) ?_
    refine rg_ild X h 206 (by decide) (xa_206 J ad) (i) rfl (by omega) (by decide) dX2_readSeconding_18 ?_
    refine lv_as (y := (u1 G 206 (upd (G 206) i (nI d_9))) 206 i) (congrFun (u1_n (by decide)) _) ?_
    refine lv_as (y := nI d_9) (by rw [u1_s, upd_s]) ?_
    refine lv_if_lt (tgt := 31) hx hb dX2_readSeconding_19 (by decide) (fun c_19 => absurd c_19 (nI_pos (by omega))) (fun c_19 => ?_)
    refine lv_aload_n hx hb dX2_readSeconding_22 rfl (lv_at hl 0 rfl) ?_
    refine lv_bipush (v := nI 58) hx hb dX2_readSeconding_23 (by decide) ?_
    rcases Classical.em (isC t n p_9 58) with hC_25 | hC_25
    · have hL_25 := hC_25.1
      refine rg_civd (As := [.int (nI 58)]) (rest := []) X hl.1 h (c_X2_skip_t l J z ad (u1 G 206 (upd (G 206) i (nI d_9))) t (by first | exact ht | (rw [u1_n (by decide)]; exact ht) | (rw [u1_n (by decide), u1_n (by decide)]; exact ht) | (rw [u1_n (by decide), u1_n (by decide), u1_n (by decide)]; exact ht) | (rw [u1_n (by decide), u1_n (by decide), u1_n (by decide), u1_n (by decide)]; exact ht)) (upd f 2 (nI p_9)) n p_9 (by rw [upd_n (by decide)]; exact hn) hn60 (by rw [upd_s]) (by omega) 58 (by omega) hC_25) mw_463 mw_464 mw_465 mw_25 mw_466 pdX2_skip (by decide) (xo_203 J ad _) rfl rfl ⟨Nat.le_of_ble_eq_true rfl, Nat.le_of_ble_eq_true rfl⟩ ⟨Nat.le_of_ble_eq_true rfl, Nat.le_of_ble_eq_true rfl⟩ rfl (Nat.le_of_ble_eq_true rfl) dX2_readSeconding_25 (fun H locs h => ?_)
      refine lv_if_ne (tgt := 33) hx hb dX2_readSeconding_28 (by decide) (fun c_28 => ?_) (fun c_28 => absurd c_28 (by decide))
      refine lv_aload_n hx hb dX2_readSeconding_33 rfl (lv_at hl 0 rfl) ?_
      refine fg_X2_22 X h dX2_readSeconding_34 ?_
      refine lv_iload_n hx hb dX2_readSeconding_37 rfl (lv_at hl 1 rfl) ?_
      refine lv_aload_n hx hb dX2_readSeconding_38 rfl (lv_at hl 0 rfl) ?_
      refine lv_iconst (v := nI 0) hx hb dX2_readSeconding_39 (by decide) ?_
      refine lv_bipush (v := nI 11) hx hb dX2_readSeconding_40 (by decide) ?_
      obtain ⟨o_42, p_42, hN_42⟩ : ∃ o q2, num t n (p_9 + 1) 0 11 = (o, q2) := ⟨_, _, rfl⟩
      have hB_42 := num_ok hN_42 (by omega)
      refine rg_civd (As := [.int (nI 0), .int (nI 11)]) (rest := [.int (nI i), .ref (ad 207)]) X hl.1 h (c_X2_readNumber l J z ad (u1 G 206 (upd (G 206) i (nI d_9))) t (by first | exact ht | (rw [u1_n (by decide)]; exact ht) | (rw [u1_n (by decide), u1_n (by decide)]; exact ht) | (rw [u1_n (by decide), u1_n (by decide), u1_n (by decide)]; exact ht) | (rw [u1_n (by decide), u1_n (by decide), u1_n (by decide), u1_n (by decide)]; exact ht)) (upd (upd f 2 (nI p_9)) 2 (nI (p_9 + 1))) n (p_9 + 1) (by rw [upd_n (by decide), upd_n (by decide)]; exact hn) hn60 (by rw [upd_s]) (by omega) 0 11 (by omega) (by omega) o_42 p_42 hN_42) mw_471 mw_472 mw_473 mw_25 mw_474 pdX2_readNumber (by decide) (xo_203 J ad _) rfl rfl ⟨Nat.le_of_ble_eq_true rfl, Nat.le_of_ble_eq_true rfl⟩ ⟨Nat.le_of_ble_eq_true rfl, Nat.le_of_ble_eq_true rfl⟩ rfl (Nat.le_of_ble_eq_true rfl) dX2_readSeconding_42 (fun H locs h => ?_)
      rcases o_42 with _ | d_42
      · refine lv_as (y := (-1)) rfl ?_
        refine rg_ist X h 207 (by decide) (xa_207 J ad) (i) rfl (by omega) (by decide) dX2_readSeconding_45 (fun H locs h => ?_)
        rw [u1_sw (by decide)] at h
        refine lv_aload_n hx hb dX2_readSeconding_46 rfl (lv_at hl 0 rfl) ?_
        refine fg_X2_22 X h dX2_readSeconding_47 ?_
        refine lv_iload_n hx hb dX2_readSeconding_50 rfl (lv_at hl 1 rfl) ?_
        refine rg_ild X h 207 (by decide) (xa_207 J ad) (i) rfl (by omega) (by decide) dX2_readSeconding_51 ?_
        refine lv_as (y := (u1 (u1 G 206 (upd (G 206) i (nI d_9))) 207 (upd ((u1 G 206 (upd (G 206) i (nI d_9))) 207) i (-1))) 207 i) (congrFun (u1_n (by decide)) _) ?_
        refine lv_as (y := (-1)) (by rw [u1_s, upd_s]) ?_
        refine lv_if_lt (tgt := 59) hx hb dX2_readSeconding_52 (by decide) (fun c_52 => ?_) (fun c_52 => absurd (by decide) c_52)
        refine lv_iconst (v := nI 0) hx hb dX2_readSeconding_59 (by decide) ?_
        have e : thY t n q = (none, p_42) := by
          simp only [thY, hN_9, cif_t hC_25, hN_42]
        exact hret (nI 0) (u1 (u1 (u1 G 206 (upd (G 206) i (nI d_9))) 207 (upd ((u1 G 206 (upd (G 206) i (nI d_9))) 207) i (-1))) 203 (upd (upd (upd f 2 (nI p_9)) 2 (nI (p_9 + 1))) 2 (nI p_42))) _ _ 60 _ (⟨(fun k hk => by simp only [u1]; repeat rw [if_neg (by omega)]), by simp [u1, upd_n, upd_s], by simp [u1, upd_n, upd_s], by rw [e, u1_s, upd_s], by rw [e]; omega, (fun k g1 g2 j hj => by rcases (show k = 205 ∨ k = 206 ∨ k = 207 ∨ k = 208 ∨ k = 209 by omega) with rfl | rfl | rfl | rfl | rfl <;> simp [u1, upd_n hj]), Or.inr ⟨by rw [e], rfl⟩⟩) h rfl dX2_readSeconding_60
      · have hV_42 := hB_42.2.2 d_42 rfl
        refine lv_as (y := nI d_42) rfl ?_
        refine rg_ist X h 207 (by decide) (xa_207 J ad) (i) rfl (by omega) (by decide) dX2_readSeconding_45 (fun H locs h => ?_)
        rw [u1_sw (by decide)] at h
        refine lv_aload_n hx hb dX2_readSeconding_46 rfl (lv_at hl 0 rfl) ?_
        refine fg_X2_22 X h dX2_readSeconding_47 ?_
        refine lv_iload_n hx hb dX2_readSeconding_50 rfl (lv_at hl 1 rfl) ?_
        refine rg_ild X h 207 (by decide) (xa_207 J ad) (i) rfl (by omega) (by decide) dX2_readSeconding_51 ?_
        refine lv_as (y := (u1 (u1 G 206 (upd (G 206) i (nI d_9))) 207 (upd ((u1 G 206 (upd (G 206) i (nI d_9))) 207) i (nI d_42))) 207 i) (congrFun (u1_n (by decide)) _) ?_
        refine lv_as (y := nI d_42) (by rw [u1_s, upd_s]) ?_
        refine lv_if_lt (tgt := 59) hx hb dX2_readSeconding_52 (by decide) (fun c_52 => absurd c_52 (nI_pos (by omega))) (fun c_52 => ?_)
        refine lv_iconst (v := nI 1) hx hb dX2_readSeconding_55 (by decide) ?_
        refine lv_goto (tgt := 60) hx hb dX2_readSeconding_56 (by decide) ?_
        have e : thY t n q = (some (1, d_9, d_42, 0, 0), p_42) := by
          simp only [thY, hN_9, cif_t hC_25, hN_42]
        exact hret (nI 1) (u1 (u1 (u1 G 206 (upd (G 206) i (nI d_9))) 207 (upd ((u1 G 206 (upd (G 206) i (nI d_9))) 207) i (nI d_42))) 203 (upd (upd (upd f 2 (nI p_9)) 2 (nI (p_9 + 1))) 2 (nI p_42))) _ _ 60 _ (⟨(fun k hk => by simp only [u1]; repeat rw [if_neg (by omega)]), by simp [u1, upd_n, upd_s], by simp [u1, upd_n, upd_s], by rw [e, u1_s, upd_s], by rw [e]; omega, (fun k g1 g2 j hj => by rcases (show k = 205 ∨ k = 206 ∨ k = 207 ∨ k = 208 ∨ k = 209 by omega) with rfl | rfl | rfl | rfl | rfl <;> simp [u1, upd_n hj]), Or.inl ⟨(1, d_9, d_42, 0, 0), by rw [e], rfl, Or.inr (Or.inl ⟨rfl, by simp [u1, h5], by simp [u1, upd_s], by simp [u1, upd_s]⟩)⟩⟩) h rfl dX2_readSeconding_60
    · refine rg_civd (As := [.int (nI 58)]) (rest := []) X hl.1 h (c_X2_skip_f l J z ad (u1 G 206 (upd (G 206) i (nI d_9))) t (by first | exact ht | (rw [u1_n (by decide)]; exact ht) | (rw [u1_n (by decide), u1_n (by decide)]; exact ht) | (rw [u1_n (by decide), u1_n (by decide), u1_n (by decide)]; exact ht) | (rw [u1_n (by decide), u1_n (by decide), u1_n (by decide), u1_n (by decide)]; exact ht)) (upd f 2 (nI p_9)) n p_9 (by rw [upd_n (by decide)]; exact hn) hn60 (by rw [upd_s]) (by omega) 58 (by omega) hC_25) mw_463 mw_464 mw_465 mw_25 mw_466 pdX2_skip (by decide) (xo_203 J ad _) rfl rfl ⟨Nat.le_of_ble_eq_true rfl, Nat.le_of_ble_eq_true rfl⟩ ⟨Nat.le_of_ble_eq_true rfl, Nat.le_of_ble_eq_true rfl⟩ rfl (Nat.le_of_ble_eq_true rfl) dX2_readSeconding_25 (fun H locs h => ?_)
      refine lv_if_ne (tgt := 33) hx hb dX2_readSeconding_28 (by decide) (fun c_28 => absurd (by decide) c_28) (fun c_28 => ?_)
      refine lv_iconst (v := nI 0) hx hb dX2_readSeconding_31 (by decide) ?_
      have e : thY t n q = (none, p_9) := by
        simp only [thY, hN_9, cif_f hC_25]
      exact hret (nI 0) (u1 (u1 G 206 (upd (G 206) i (nI d_9))) 203 (upd (upd f 2 (nI p_9)) 2 (nI p_9))) _ _ 32 _ (⟨(fun k hk => by simp only [u1]; repeat rw [if_neg (by omega)]), by simp [u1, upd_n, upd_s], by simp [u1, upd_n, upd_s], by rw [e, u1_s, upd_s], by rw [e]; omega, (fun k g1 g2 j hj => by rcases (show k = 205 ∨ k = 206 ∨ k = 207 ∨ k = 208 ∨ k = 209 by omega) with rfl | rfl | rfl | rfl | rfl <;> simp [u1, upd_n hj]), Or.inr ⟨by rw [e], rfl⟩⟩) h rfl dX2_readSeconding_32
set_option maxHeartbeats 4000000 in
set_option maxRecDepth 100000 in
theorem c_X2_readPetition (l : Launch) (J : JJ) (z : Nat) (ad : Nat → Nat) (G : GG) (t : Nat → Int32) (ht : G 204 = t) (f : Nat → Int32) (n q : Nat) (hn : f 1 = nI n) (hn60 : n ≤ 60) (hq : f 2 = nI q) (hqn : q ≤ n) (i : Nat) (hi : i < 20) (h5 : G 205 i = nI 0) : MI l J z ad yX2_readPetition cX2_readPetition 2 .boolean 2 [.ref (ad 203), .int (nI i)] (u1 G 203 f) (fun ans uG => thW G uG f i (thP t n q) n ans) := by
  refine MZ.go (by decide) (Nat.le_of_ble_eq_true rfl) ?_
  intro pr e s m args below meth c ls Q X h hl hret
  have hx := X.1
  have hb := X.2.1
  have hown := X.2.2.2.1
  have hts := X.2.2.2.2
  have hl : lv_has ls 2 [(0, .ref (ad 203)), (1, .int (nI i))] := hl
  refine lv_aload_n hx hb dX2_readPetition_0 rfl (lv_at hl 0 rfl) ?_
  refine fg_X2_19 X h dX2_readPetition_1 ?_
  refine lv_iload_n hx hb dX2_readPetition_4 rfl (lv_at hl 1 rfl) ?_
  refine lv_aload_n hx hb dX2_readPetition_5 rfl (lv_at hl 0 rfl) ?_
  refine lv_iconst (v := nI 0) hx hb dX2_readPetition_6 (by decide) ?_
  refine lv_bipush (v := nI 11) hx hb dX2_readPetition_7 (by decide) ?_
  obtain ⟨o_9, p_9, hN_9⟩ : ∃ o q2, num t n q 0 11 = (o, q2) := ⟨_, _, rfl⟩
  have hB_9 := num_ok hN_9 (by omega)
  refine rg_civd (As := [.int (nI 0), .int (nI 11)]) (rest := [.int (nI i), .ref (ad 206)]) X hl.1 h (c_X2_readNumber l J z ad G t ht f n q hn hn60 hq (by omega) 0 11 (by omega) (by omega) o_9 p_9 hN_9) mw_471 mw_472 mw_473 mw_25 mw_474 pdX2_readNumber (by decide) (xo_203 J ad _) rfl rfl ⟨Nat.le_of_ble_eq_true rfl, Nat.le_of_ble_eq_true rfl⟩ ⟨Nat.le_of_ble_eq_true rfl, Nat.le_of_ble_eq_true rfl⟩ rfl (Nat.le_of_ble_eq_true rfl) dX2_readPetition_9 (fun H locs h => ?_)
  rcases o_9 with _ | d_9
  · refine lv_as (y := (-1)) rfl ?_
    refine rg_ist X h 206 (by decide) (xa_206 J ad) (i) rfl (by omega) (by decide) dX2_readPetition_12 (fun H locs h => ?_)
    rw [u1_sw (by decide)] at h
    refine lv_aload_n hx hb dX2_readPetition_13 rfl (lv_at hl 0 rfl) ?_
    refine fg_X2_19 X h dX2_readPetition_14 ?_
    refine lv_iload_n hx hb dX2_readPetition_17 rfl (lv_at hl 1 rfl) ?_
    refine rg_ild X h 206 (by decide) (xa_206 J ad) (i) rfl (by omega) (by decide) dX2_readPetition_18 ?_
    refine lv_as (y := (u1 G 206 (upd (G 206) i (-1))) 206 i) (congrFun (u1_n (by decide)) _) ?_
    refine lv_as (y := (-1)) (by rw [u1_s, upd_s]) ?_
    refine lv_if_lt (tgt := 31) hx hb dX2_readPetition_19 (by decide) (fun c_19 => ?_) (fun c_19 => absurd (by decide) c_19)
    refine lv_iconst (v := nI 0) hx hb dX2_readPetition_31 (by decide) ?_
    have e : thP t n q = (none, p_9) := by
      simp only [thP,thK_knd, hN_9, Option.map]
    exact hret (nI 0) (u1 (u1 G 206 (upd (G 206) i (-1))) 203 (upd f 2 (nI p_9))) _ _ 32 _ (⟨(fun k hk => by simp only [u1]; repeat rw [if_neg (by omega)]), by simp [u1, upd_n, upd_s], by simp [u1, upd_n, upd_s], by rw [e, u1_s, upd_s], by rw [e]; omega, (fun k g1 g2 j hj => by rcases (show k = 205 ∨ k = 206 ∨ k = 207 ∨ k = 208 ∨ k = 209 by omega) with rfl | rfl | rfl | rfl | rfl <;> simp [u1, upd_n hj]), Or.inr ⟨by rw [e], rfl⟩⟩) h rfl dX2_readPetition_32
  · have hV_9 := hB_9.2.2 d_9 rfl
    refine lv_as (y := nI d_9) rfl ?_
    refine rg_ist X h 206 (by decide) (xa_206 J ad) (i) rfl (by omega) (by decide) dX2_readPetition_12 (fun H locs h => ?_)
    rw [u1_sw (by decide)] at h
    refine lv_aload_n hx hb dX2_readPetition_13 rfl (lv_at hl 0 rfl) ?_
    refine fg_X2_19 X h dX2_readPetition_14 ?_
    refine lv_iload_n hx hb dX2_readPetition_17 rfl (lv_at hl 1 rfl) ?_
    refine rg_ild X h 206 (by decide) (xa_206 J ad) (i) rfl (by omega) (by decide) dX2_readPetition_18 ?_
    refine lv_as (y := (u1 G 206 (upd (G 206) i (nI d_9))) 206 i) (congrFun (u1_n (by decide)) _) ?_
    refine lv_as (y := nI d_9) (by rw [u1_s, upd_s]) ?_
    refine lv_if_lt (tgt := 31) hx hb dX2_readPetition_19 (by decide) (fun c_19 => absurd c_19 (nI_pos (by omega))) (fun c_19 => ?_)
    refine lv_aload_n hx hb dX2_readPetition_22 rfl (lv_at hl 0 rfl) ?_
    refine lv_bipush (v := nI 58) hx hb dX2_readPetition_23 (by decide) ?_
    rcases Classical.em (isC t n p_9 58) with hC_25 | hC_25
    · have hL_25 := hC_25.1
      refine rg_civd (As := [.int (nI 58)]) (rest := []) X hl.1 h (c_X2_skip_t l J z ad (u1 G 206 (upd (G 206) i (nI d_9))) t (by first | exact ht | (rw [u1_n (by decide)]; exact ht) | (rw [u1_n (by decide), u1_n (by decide)]; exact ht) | (rw [u1_n (by decide), u1_n (by decide), u1_n (by decide)]; exact ht) | (rw [u1_n (by decide), u1_n (by decide), u1_n (by decide), u1_n (by decide)]; exact ht)) (upd f 2 (nI p_9)) n p_9 (by rw [upd_n (by decide)]; exact hn) hn60 (by rw [upd_s]) (by omega) 58 (by omega) hC_25) mw_463 mw_464 mw_465 mw_25 mw_466 pdX2_skip (by decide) (xo_203 J ad _) rfl rfl ⟨Nat.le_of_ble_eq_true rfl, Nat.le_of_ble_eq_true rfl⟩ ⟨Nat.le_of_ble_eq_true rfl, Nat.le_of_ble_eq_true rfl⟩ rfl (Nat.le_of_ble_eq_true rfl) dX2_readPetition_25 (fun H locs h => ?_)
      refine lv_if_ne (tgt := 33) hx hb dX2_readPetition_28 (by decide) (fun c_28 => ?_) (fun c_28 => absurd c_28 (by decide))
      refine lv_aload_n hx hb dX2_readPetition_33 rfl (lv_at hl 0 rfl) ?_
      refine fg_X2_22 X h dX2_readPetition_34 ?_
      refine lv_iload_n hx hb dX2_readPetition_37 rfl (lv_at hl 1 rfl) ?_
      refine lv_aload_n hx hb dX2_readPetition_38 rfl (lv_at hl 0 rfl) ?_
      refine lv_iconst (v := nI 0) hx hb dX2_readPetition_39 (by decide) ?_
      refine lv_bipush (v := nI 6) hx hb dX2_readPetition_40 (by decide) ?_
      obtain ⟨o_42, p_42, hN_42⟩ : ∃ o q2, num t n (p_9 + 1) 0 6 = (o, q2) := ⟨_, _, rfl⟩
      have hB_42 := num_ok hN_42 (by omega)
      refine rg_civd (As := [.int (nI 0), .int (nI 6)]) (rest := [.int (nI i), .ref (ad 207)]) X hl.1 h (c_X2_readNumber l J z ad (u1 G 206 (upd (G 206) i (nI d_9))) t (by first | exact ht | (rw [u1_n (by decide)]; exact ht) | (rw [u1_n (by decide), u1_n (by decide)]; exact ht) | (rw [u1_n (by decide), u1_n (by decide), u1_n (by decide)]; exact ht) | (rw [u1_n (by decide), u1_n (by decide), u1_n (by decide), u1_n (by decide)]; exact ht)) (upd (upd f 2 (nI p_9)) 2 (nI (p_9 + 1))) n (p_9 + 1) (by rw [upd_n (by decide), upd_n (by decide)]; exact hn) hn60 (by rw [upd_s]) (by omega) 0 6 (by omega) (by omega) o_42 p_42 hN_42) mw_471 mw_472 mw_473 mw_25 mw_474 pdX2_readNumber (by decide) (xo_203 J ad _) rfl rfl ⟨Nat.le_of_ble_eq_true rfl, Nat.le_of_ble_eq_true rfl⟩ ⟨Nat.le_of_ble_eq_true rfl, Nat.le_of_ble_eq_true rfl⟩ rfl (Nat.le_of_ble_eq_true rfl) dX2_readPetition_42 (fun H locs h => ?_)
      rcases o_42 with _ | d_42
      · refine lv_as (y := (-1)) rfl ?_
        refine rg_ist X h 207 (by decide) (xa_207 J ad) (i) rfl (by omega) (by decide) dX2_readPetition_45 (fun H locs h => ?_)
        rw [u1_sw (by decide)] at h
        refine lv_aload_n hx hb dX2_readPetition_46 rfl (lv_at hl 0 rfl) ?_
        refine fg_X2_22 X h dX2_readPetition_47 ?_
        refine lv_iload_n hx hb dX2_readPetition_50 rfl (lv_at hl 1 rfl) ?_
        refine rg_ild X h 207 (by decide) (xa_207 J ad) (i) rfl (by omega) (by decide) dX2_readPetition_51 ?_
        refine lv_as (y := (u1 (u1 G 206 (upd (G 206) i (nI d_9))) 207 (upd ((u1 G 206 (upd (G 206) i (nI d_9))) 207) i (-1))) 207 i) (congrFun (u1_n (by decide)) _) ?_
        refine lv_as (y := (-1)) (by rw [u1_s, upd_s]) ?_
        refine lv_if_lt (tgt := 64) hx hb dX2_readPetition_52 (by decide) (fun c_52 => ?_) (fun c_52 => absurd (by decide) c_52)
        refine lv_iconst (v := nI 0) hx hb dX2_readPetition_64 (by decide) ?_
        have e : thP t n q = (none, p_42) := by
          simp only [thP,thK_knd, hN_9, cif_t hC_25, hN_42, Option.map]
        exact hret (nI 0) (u1 (u1 (u1 G 206 (upd (G 206) i (nI d_9))) 207 (upd ((u1 G 206 (upd (G 206) i (nI d_9))) 207) i (-1))) 203 (upd (upd (upd f 2 (nI p_9)) 2 (nI (p_9 + 1))) 2 (nI p_42))) _ _ 65 _ (⟨(fun k hk => by simp only [u1]; repeat rw [if_neg (by omega)]), by simp [u1, upd_n, upd_s], by simp [u1, upd_n, upd_s], by rw [e, u1_s, upd_s], by rw [e]; omega, (fun k g1 g2 j hj => by rcases (show k = 205 ∨ k = 206 ∨ k = 207 ∨ k = 208 ∨ k = 209 by omega) with rfl | rfl | rfl | rfl | rfl <;> simp [u1, upd_n hj]), Or.inr ⟨by rw [e], rfl⟩⟩) h rfl dX2_readPetition_65
      · have hV_42 := hB_42.2.2 d_42 rfl
        refine lv_as (y := nI d_42) rfl ?_
        refine rg_ist X h 207 (by decide) (xa_207 J ad) (i) rfl (by omega) (by decide) dX2_readPetition_45 (fun H locs h => ?_)
        rw [u1_sw (by decide)] at h
        refine lv_aload_n hx hb dX2_readPetition_46 rfl (lv_at hl 0 rfl) ?_
        refine fg_X2_22 X h dX2_readPetition_47 ?_
        refine lv_iload_n hx hb dX2_readPetition_50 rfl (lv_at hl 1 rfl) ?_
        refine rg_ild X h 207 (by decide) (xa_207 J ad) (i) rfl (by omega) (by decide) dX2_readPetition_51 ?_
        refine lv_as (y := (u1 (u1 G 206 (upd (G 206) i (nI d_9))) 207 (upd ((u1 G 206 (upd (G 206) i (nI d_9))) 207) i (nI d_42))) 207 i) (congrFun (u1_n (by decide)) _) ?_
        refine lv_as (y := nI d_42) (by rw [u1_s, upd_s]) ?_
        refine lv_if_lt (tgt := 64) hx hb dX2_readPetition_52 (by decide) (fun c_52 => absurd c_52 (nI_pos (by omega))) (fun c_52 => ?_)
        refine lv_aload_n hx hb dX2_readPetition_55 rfl (lv_at hl 0 rfl) ?_
        refine lv_bipush (v := nI 46) hx hb dX2_readPetition_56 (by decide) ?_
        rcases Classical.em (isC t n p_42 46) with hC_58 | hC_58
        · have hL_58 := hC_58.1
          refine rg_civd (As := [.int (nI 46)]) (rest := []) X hl.1 h (c_X2_skip_t l J z ad (u1 (u1 G 206 (upd (G 206) i (nI d_9))) 207 (upd ((u1 G 206 (upd (G 206) i (nI d_9))) 207) i (nI d_42))) t (by first | exact ht | (rw [u1_n (by decide)]; exact ht) | (rw [u1_n (by decide), u1_n (by decide)]; exact ht) | (rw [u1_n (by decide), u1_n (by decide), u1_n (by decide)]; exact ht) | (rw [u1_n (by decide), u1_n (by decide), u1_n (by decide), u1_n (by decide)]; exact ht)) (upd (upd (upd f 2 (nI p_9)) 2 (nI (p_9 + 1))) 2 (nI p_42)) n p_42 (by rw [upd_n (by decide), upd_n (by decide), upd_n (by decide)]; exact hn) hn60 (by rw [upd_s]) (by omega) 46 (by omega) hC_58) mw_463 mw_464 mw_465 mw_25 mw_466 pdX2_skip (by decide) (xo_203 J ad _) rfl rfl ⟨Nat.le_of_ble_eq_true rfl, Nat.le_of_ble_eq_true rfl⟩ ⟨Nat.le_of_ble_eq_true rfl, Nat.le_of_ble_eq_true rfl⟩ rfl (Nat.le_of_ble_eq_true rfl) dX2_readPetition_58 (fun H locs h => ?_)
          refine lv_if_ne (tgt := 66) hx hb dX2_readPetition_61 (by decide) (fun c_61 => ?_) (fun c_61 => absurd c_61 (by decide))
          refine lv_aload_n hx hb dX2_readPetition_66 rfl (lv_at hl 0 rfl) ?_
          refine fg_X2_25 X h dX2_readPetition_67 ?_
          refine lv_iload_n hx hb dX2_readPetition_70 rfl (lv_at hl 1 rfl) ?_
          refine lv_aload_n hx hb dX2_readPetition_71 rfl (lv_at hl 0 rfl) ?_
          refine lv_iconst (v := nI 0) hx hb dX2_readPetition_72 (by decide) ?_
          refine lv_bipush (v := nI 19) hx hb dX2_readPetition_73 (by decide) ?_
          obtain ⟨o_75, p_75, hN_75⟩ : ∃ o q2, num t n (p_42 + 1) 0 19 = (o, q2) := ⟨_, _, rfl⟩
          have hB_75 := num_ok hN_75 (by omega)
          refine rg_civd (As := [.int (nI 0), .int (nI 19)]) (rest := [.int (nI i), .ref (ad 208)]) X hl.1 h (c_X2_readNumber l J z ad (u1 (u1 G 206 (upd (G 206) i (nI d_9))) 207 (upd ((u1 G 206 (upd (G 206) i (nI d_9))) 207) i (nI d_42))) t (by first | exact ht | (rw [u1_n (by decide)]; exact ht) | (rw [u1_n (by decide), u1_n (by decide)]; exact ht) | (rw [u1_n (by decide), u1_n (by decide), u1_n (by decide)]; exact ht) | (rw [u1_n (by decide), u1_n (by decide), u1_n (by decide), u1_n (by decide)]; exact ht)) (upd (upd (upd (upd f 2 (nI p_9)) 2 (nI (p_9 + 1))) 2 (nI p_42)) 2 (nI (p_42 + 1))) n (p_42 + 1) (by rw [upd_n (by decide), upd_n (by decide), upd_n (by decide), upd_n (by decide)]; exact hn) hn60 (by rw [upd_s]) (by omega) 0 19 (by omega) (by omega) o_75 p_75 hN_75) mw_471 mw_472 mw_473 mw_25 mw_474 pdX2_readNumber (by decide) (xo_203 J ad _) rfl rfl ⟨Nat.le_of_ble_eq_true rfl, Nat.le_of_ble_eq_true rfl⟩ ⟨Nat.le_of_ble_eq_true rfl, Nat.le_of_ble_eq_true rfl⟩ rfl (Nat.le_of_ble_eq_true rfl) dX2_readPetition_75 (fun H locs h => ?_)
          rcases o_75 with _ | d_75
          · refine lv_as (y := (-1)) rfl ?_
            refine rg_ist X h 208 (by decide) (xa_208 J ad) (i) rfl (by omega) (by decide) dX2_readPetition_78 (fun H locs h => ?_)
            rw [u1_sw (by decide)] at h
            refine lv_aload_n hx hb dX2_readPetition_79 rfl (lv_at hl 0 rfl) ?_
            refine fg_X2_25 X h dX2_readPetition_80 ?_
            refine lv_iload_n hx hb dX2_readPetition_83 rfl (lv_at hl 1 rfl) ?_
            refine rg_ild X h 208 (by decide) (xa_208 J ad) (i) rfl (by omega) (by decide) dX2_readPetition_84 ?_
            refine lv_as (y := (u1 (u1 (u1 G 206 (upd (G 206) i (nI d_9))) 207 (upd ((u1 G 206 (upd (G 206) i (nI d_9))) 207) i (nI d_42))) 208 (upd ((u1 (u1 G 206 (upd (G 206) i (nI d_9))) 207 (upd ((u1 G 206 (upd (G 206) i (nI d_9))) 207) i (nI d_42))) 208) i (-1))) 208 i) (congrFun (u1_n (by decide)) _) ?_
            refine lv_as (y := (-1)) (by rw [u1_s, upd_s]) ?_
            refine lv_if_ge (tgt := 90) hx hb dX2_readPetition_85 (by decide) (fun c_85 => absurd c_85 (by decide)) (fun c_85 => ?_)
            refine lv_iconst (v := nI 0) hx hb dX2_readPetition_88 (by decide) ?_
            have e : thP t n q = (none, p_75) := by
              simp only [thP,thK_knd, hN_9, cif_t hC_25, hN_42, cif_t hC_58, hN_75, Option.map]
            exact hret (nI 0) (u1 (u1 (u1 (u1 G 206 (upd (G 206) i (nI d_9))) 207 (upd ((u1 G 206 (upd (G 206) i (nI d_9))) 207) i (nI d_42))) 208 (upd ((u1 (u1 G 206 (upd (G 206) i (nI d_9))) 207 (upd ((u1 G 206 (upd (G 206) i (nI d_9))) 207) i (nI d_42))) 208) i (-1))) 203 (upd (upd (upd (upd (upd f 2 (nI p_9)) 2 (nI (p_9 + 1))) 2 (nI p_42)) 2 (nI (p_42 + 1))) 2 (nI p_75))) _ _ 89 _ (⟨(fun k hk => by simp only [u1]; repeat rw [if_neg (by omega)]), by simp [u1, upd_n, upd_s], by simp [u1, upd_n, upd_s], by rw [e, u1_s, upd_s], by rw [e]; omega, (fun k g1 g2 j hj => by rcases (show k = 205 ∨ k = 206 ∨ k = 207 ∨ k = 208 ∨ k = 209 by omega) with rfl | rfl | rfl | rfl | rfl <;> simp [u1, upd_n hj]), Or.inr ⟨by rw [e], rfl⟩⟩) h rfl dX2_readPetition_89
          · have hV_75 := hB_75.2.2 d_75 rfl
            refine lv_as (y := nI d_75) rfl ?_
            refine rg_ist X h 208 (by decide) (xa_208 J ad) (i) rfl (by omega) (by decide) dX2_readPetition_78 (fun H locs h => ?_)
            rw [u1_sw (by decide)] at h
            refine lv_aload_n hx hb dX2_readPetition_79 rfl (lv_at hl 0 rfl) ?_
            refine fg_X2_25 X h dX2_readPetition_80 ?_
            refine lv_iload_n hx hb dX2_readPetition_83 rfl (lv_at hl 1 rfl) ?_
            refine rg_ild X h 208 (by decide) (xa_208 J ad) (i) rfl (by omega) (by decide) dX2_readPetition_84 ?_
            refine lv_as (y := (u1 (u1 (u1 G 206 (upd (G 206) i (nI d_9))) 207 (upd ((u1 G 206 (upd (G 206) i (nI d_9))) 207) i (nI d_42))) 208 (upd ((u1 (u1 G 206 (upd (G 206) i (nI d_9))) 207 (upd ((u1 G 206 (upd (G 206) i (nI d_9))) 207) i (nI d_42))) 208) i (nI d_75))) 208 i) (congrFun (u1_n (by decide)) _) ?_
            refine lv_as (y := nI d_75) (by rw [u1_s, upd_s]) ?_
            refine lv_if_ge (tgt := 90) hx hb dX2_readPetition_85 (by decide) (fun c_85 => ?_) (fun c_85 => absurd (nI_pos' (by omega)) c_85)
            refine lv_aload_n hx hb dX2_readPetition_90 rfl (lv_at hl 0 rfl) ?_
            refine fg_X2_28 X h dX2_readPetition_91 ?_
            refine lv_iload_n hx hb dX2_readPetition_94 rfl (lv_at hl 1 rfl) ?_
            refine lv_aload_n hx hb dX2_readPetition_95 rfl (lv_at hl 0 rfl) ?_
            obtain ⟨o_96, p_96, hN_96⟩ : ∃ o q2, knd t n p_75 = (o, q2) := ⟨_, _, rfl⟩
            have hB_96 := knd_ok hN_96 (by omega)
            refine rg_civd (As := []) (rest := [.int (nI i), .ref (ad 209)]) X hl.1 h (c_X2_readKind l J z ad (u1 (u1 (u1 G 206 (upd (G 206) i (nI d_9))) 207 (upd ((u1 G 206 (upd (G 206) i (nI d_9))) 207) i (nI d_42))) 208 (upd ((u1 (u1 G 206 (upd (G 206) i (nI d_9))) 207 (upd ((u1 G 206 (upd (G 206) i (nI d_9))) 207) i (nI d_42))) 208) i (nI d_75))) t (by first | exact ht | (rw [u1_n (by decide)]; exact ht) | (rw [u1_n (by decide), u1_n (by decide)]; exact ht) | (rw [u1_n (by decide), u1_n (by decide), u1_n (by decide)]; exact ht) | (rw [u1_n (by decide), u1_n (by decide), u1_n (by decide), u1_n (by decide)]; exact ht)) (upd (upd (upd (upd (upd f 2 (nI p_9)) 2 (nI (p_9 + 1))) 2 (nI p_42)) 2 (nI (p_42 + 1))) 2 (nI p_75)) n p_75 (by rw [upd_n (by decide), upd_n (by decide), upd_n (by decide), upd_n (by decide), upd_n (by decide)]; exact hn) hn60 (by rw [upd_s]) (by omega) o_96 p_96 hN_96) mw_479 mw_480 mw_481 mw_25 mw_482 pdX2_readKind (by decide) (xo_203 J ad _) rfl rfl ⟨Nat.le_of_ble_eq_true rfl, Nat.le_of_ble_eq_true rfl⟩ ⟨Nat.le_of_ble_eq_true rfl, Nat.le_of_ble_eq_true rfl⟩ rfl (Nat.le_of_ble_eq_true rfl) dX2_readPetition_96 (fun H locs h => ?_)
            rcases o_96 with _ | d_96
            · refine lv_as (y := (-1)) rfl ?_
              refine rg_ist X h 209 (by decide) (xa_209 J ad) (i) rfl (by omega) (by decide) dX2_readPetition_99 (fun H locs h => ?_)
              rw [u1_sw (by decide)] at h
              refine lv_aload_n hx hb dX2_readPetition_100 rfl (lv_at hl 0 rfl) ?_
              refine fg_X2_28 X h dX2_readPetition_101 ?_
              refine lv_iload_n hx hb dX2_readPetition_104 rfl (lv_at hl 1 rfl) ?_
              refine rg_ild X h 209 (by decide) (xa_209 J ad) (i) rfl (by omega) (by decide) dX2_readPetition_105 ?_
              refine lv_as (y := (u1 (u1 (u1 (u1 G 206 (upd (G 206) i (nI d_9))) 207 (upd ((u1 G 206 (upd (G 206) i (nI d_9))) 207) i (nI d_42))) 208 (upd ((u1 (u1 G 206 (upd (G 206) i (nI d_9))) 207 (upd ((u1 G 206 (upd (G 206) i (nI d_9))) 207) i (nI d_42))) 208) i (nI d_75))) 209 (upd ((u1 (u1 (u1 G 206 (upd (G 206) i (nI d_9))) 207 (upd ((u1 G 206 (upd (G 206) i (nI d_9))) 207) i (nI d_42))) 208 (upd ((u1 (u1 G 206 (upd (G 206) i (nI d_9))) 207 (upd ((u1 G 206 (upd (G 206) i (nI d_9))) 207) i (nI d_42))) 208) i (nI d_75))) 209) i (-1))) 209 i) (congrFun (u1_n (by decide)) _) ?_
              refine lv_as (y := (-1)) (by rw [u1_s, upd_s]) ?_
              refine lv_if_lt (tgt := 113) hx hb dX2_readPetition_106 (by decide) (fun c_106 => ?_) (fun c_106 => absurd (by decide) c_106)
              refine lv_iconst (v := nI 0) hx hb dX2_readPetition_113 (by decide) ?_
              have e : thP t n q = (none, p_96) := by
                simp only [thP,thK_knd, hN_9, cif_t hC_25, hN_42, cif_t hC_58, hN_75, hN_96, Option.map]
              exact hret (nI 0) (u1 (u1 (u1 (u1 (u1 G 206 (upd (G 206) i (nI d_9))) 207 (upd ((u1 G 206 (upd (G 206) i (nI d_9))) 207) i (nI d_42))) 208 (upd ((u1 (u1 G 206 (upd (G 206) i (nI d_9))) 207 (upd ((u1 G 206 (upd (G 206) i (nI d_9))) 207) i (nI d_42))) 208) i (nI d_75))) 209 (upd ((u1 (u1 (u1 G 206 (upd (G 206) i (nI d_9))) 207 (upd ((u1 G 206 (upd (G 206) i (nI d_9))) 207) i (nI d_42))) 208 (upd ((u1 (u1 G 206 (upd (G 206) i (nI d_9))) 207 (upd ((u1 G 206 (upd (G 206) i (nI d_9))) 207) i (nI d_42))) 208) i (nI d_75))) 209) i (-1))) 203 (upd (upd (upd (upd (upd (upd f 2 (nI p_9)) 2 (nI (p_9 + 1))) 2 (nI p_42)) 2 (nI (p_42 + 1))) 2 (nI p_75)) 2 (nI p_96))) _ _ 114 _ (⟨(fun k hk => by simp only [u1]; repeat rw [if_neg (by omega)]), by simp [u1, upd_n, upd_s], by simp [u1, upd_n, upd_s], by rw [e, u1_s, upd_s], by rw [e]; omega, (fun k g1 g2 j hj => by rcases (show k = 205 ∨ k = 206 ∨ k = 207 ∨ k = 208 ∨ k = 209 by omega) with rfl | rfl | rfl | rfl | rfl <;> simp [u1, upd_n hj]), Or.inr ⟨by rw [e], rfl⟩⟩) h rfl dX2_readPetition_114
            · have hV_96 := hB_96.2.2 d_96 rfl
              refine lv_as (y := nI d_96) rfl ?_
              refine rg_ist X h 209 (by decide) (xa_209 J ad) (i) rfl (by omega) (by decide) dX2_readPetition_99 (fun H locs h => ?_)
              rw [u1_sw (by decide)] at h
              refine lv_aload_n hx hb dX2_readPetition_100 rfl (lv_at hl 0 rfl) ?_
              refine fg_X2_28 X h dX2_readPetition_101 ?_
              refine lv_iload_n hx hb dX2_readPetition_104 rfl (lv_at hl 1 rfl) ?_
              refine rg_ild X h 209 (by decide) (xa_209 J ad) (i) rfl (by omega) (by decide) dX2_readPetition_105 ?_
              refine lv_as (y := (u1 (u1 (u1 (u1 G 206 (upd (G 206) i (nI d_9))) 207 (upd ((u1 G 206 (upd (G 206) i (nI d_9))) 207) i (nI d_42))) 208 (upd ((u1 (u1 G 206 (upd (G 206) i (nI d_9))) 207 (upd ((u1 G 206 (upd (G 206) i (nI d_9))) 207) i (nI d_42))) 208) i (nI d_75))) 209 (upd ((u1 (u1 (u1 G 206 (upd (G 206) i (nI d_9))) 207 (upd ((u1 G 206 (upd (G 206) i (nI d_9))) 207) i (nI d_42))) 208 (upd ((u1 (u1 G 206 (upd (G 206) i (nI d_9))) 207 (upd ((u1 G 206 (upd (G 206) i (nI d_9))) 207) i (nI d_42))) 208) i (nI d_75))) 209) i (nI d_96))) 209 i) (congrFun (u1_n (by decide)) _) ?_
              refine lv_as (y := nI d_96) (by rw [u1_s, upd_s]) ?_
              refine lv_if_lt (tgt := 113) hx hb dX2_readPetition_106 (by decide) (fun c_106 => absurd c_106 (nI_pos (by omega))) (fun c_106 => ?_)
              refine lv_iconst (v := nI 1) hx hb dX2_readPetition_109 (by decide) ?_
              refine lv_goto (tgt := 114) hx hb dX2_readPetition_110 (by decide) ?_
              have e : thP t n q = (some (0, d_9, d_42, d_75, d_96), p_96) := by
                simp only [thP,thK_knd, hN_9, cif_t hC_25, hN_42, cif_t hC_58, hN_75, hN_96, Option.map]
              exact hret (nI 1) (u1 (u1 (u1 (u1 (u1 G 206 (upd (G 206) i (nI d_9))) 207 (upd ((u1 G 206 (upd (G 206) i (nI d_9))) 207) i (nI d_42))) 208 (upd ((u1 (u1 G 206 (upd (G 206) i (nI d_9))) 207 (upd ((u1 G 206 (upd (G 206) i (nI d_9))) 207) i (nI d_42))) 208) i (nI d_75))) 209 (upd ((u1 (u1 (u1 G 206 (upd (G 206) i (nI d_9))) 207 (upd ((u1 G 206 (upd (G 206) i (nI d_9))) 207) i (nI d_42))) 208 (upd ((u1 (u1 G 206 (upd (G 206) i (nI d_9))) 207 (upd ((u1 G 206 (upd (G 206) i (nI d_9))) 207) i (nI d_42))) 208) i (nI d_75))) 209) i (nI d_96))) 203 (upd (upd (upd (upd (upd (upd f 2 (nI p_9)) 2 (nI (p_9 + 1))) 2 (nI p_42)) 2 (nI (p_42 + 1))) 2 (nI p_75)) 2 (nI p_96))) _ _ 114 _ (⟨(fun k hk => by simp only [u1]; repeat rw [if_neg (by omega)]), by simp [u1, upd_n, upd_s], by simp [u1, upd_n, upd_s], by rw [e, u1_s, upd_s], by rw [e]; omega, (fun k g1 g2 j hj => by rcases (show k = 205 ∨ k = 206 ∨ k = 207 ∨ k = 208 ∨ k = 209 by omega) with rfl | rfl | rfl | rfl | rfl <;> simp [u1, upd_n hj]), Or.inl ⟨(0, d_9, d_42, d_75, d_96), by rw [e], rfl, Or.inl ⟨rfl, by simp [u1, h5], by simp [u1, upd_s], by simp [u1, upd_s], by simp [u1, upd_s], by simp [u1, upd_s]⟩⟩⟩) h rfl dX2_readPetition_114
        · refine rg_civd (As := [.int (nI 46)]) (rest := []) X hl.1 h (c_X2_skip_f l J z ad (u1 (u1 G 206 (upd (G 206) i (nI d_9))) 207 (upd ((u1 G 206 (upd (G 206) i (nI d_9))) 207) i (nI d_42))) t (by first | exact ht | (rw [u1_n (by decide)]; exact ht) | (rw [u1_n (by decide), u1_n (by decide)]; exact ht) | (rw [u1_n (by decide), u1_n (by decide), u1_n (by decide)]; exact ht) | (rw [u1_n (by decide), u1_n (by decide), u1_n (by decide), u1_n (by decide)]; exact ht)) (upd (upd (upd f 2 (nI p_9)) 2 (nI (p_9 + 1))) 2 (nI p_42)) n p_42 (by rw [upd_n (by decide), upd_n (by decide), upd_n (by decide)]; exact hn) hn60 (by rw [upd_s]) (by omega) 46 (by omega) hC_58) mw_463 mw_464 mw_465 mw_25 mw_466 pdX2_skip (by decide) (xo_203 J ad _) rfl rfl ⟨Nat.le_of_ble_eq_true rfl, Nat.le_of_ble_eq_true rfl⟩ ⟨Nat.le_of_ble_eq_true rfl, Nat.le_of_ble_eq_true rfl⟩ rfl (Nat.le_of_ble_eq_true rfl) dX2_readPetition_58 (fun H locs h => ?_)
          refine lv_if_ne (tgt := 66) hx hb dX2_readPetition_61 (by decide) (fun c_61 => absurd (by decide) c_61) (fun c_61 => ?_)
          refine lv_iconst (v := nI 0) hx hb dX2_readPetition_64 (by decide) ?_
          have e : thP t n q = (none, p_42) := by
            simp only [thP,thK_knd, hN_9, cif_t hC_25, hN_42, cif_f hC_58, Option.map]
          exact hret (nI 0) (u1 (u1 (u1 G 206 (upd (G 206) i (nI d_9))) 207 (upd ((u1 G 206 (upd (G 206) i (nI d_9))) 207) i (nI d_42))) 203 (upd (upd (upd (upd f 2 (nI p_9)) 2 (nI (p_9 + 1))) 2 (nI p_42)) 2 (nI p_42))) _ _ 65 _ (⟨(fun k hk => by simp only [u1]; repeat rw [if_neg (by omega)]), by simp [u1, upd_n, upd_s], by simp [u1, upd_n, upd_s], by rw [e, u1_s, upd_s], by rw [e]; omega, (fun k g1 g2 j hj => by rcases (show k = 205 ∨ k = 206 ∨ k = 207 ∨ k = 208 ∨ k = 209 by omega) with rfl | rfl | rfl | rfl | rfl <;> simp [u1, upd_n hj]), Or.inr ⟨by rw [e], rfl⟩⟩) h rfl dX2_readPetition_65
    · refine rg_civd (As := [.int (nI 58)]) (rest := []) X hl.1 h (c_X2_skip_f l J z ad (u1 G 206 (upd (G 206) i (nI d_9))) t (by first | exact ht | (rw [u1_n (by decide)]; exact ht) | (rw [u1_n (by decide), u1_n (by decide)]; exact ht) | (rw [u1_n (by decide), u1_n (by decide), u1_n (by decide)]; exact ht) | (rw [u1_n (by decide), u1_n (by decide), u1_n (by decide), u1_n (by decide)]; exact ht)) (upd f 2 (nI p_9)) n p_9 (by rw [upd_n (by decide)]; exact hn) hn60 (by rw [upd_s]) (by omega) 58 (by omega) hC_25) mw_463 mw_464 mw_465 mw_25 mw_466 pdX2_skip (by decide) (xo_203 J ad _) rfl rfl ⟨Nat.le_of_ble_eq_true rfl, Nat.le_of_ble_eq_true rfl⟩ ⟨Nat.le_of_ble_eq_true rfl, Nat.le_of_ble_eq_true rfl⟩ rfl (Nat.le_of_ble_eq_true rfl) dX2_readPetition_25 (fun H locs h => ?_)
      refine lv_if_ne (tgt := 33) hx hb dX2_readPetition_28 (by decide) (fun c_28 => absurd (by decide) c_28) (fun c_28 => ?_)
      refine lv_iconst (v := nI 0) hx hb dX2_readPetition_31 (by decide) ?_
      have e : thP t n q = (none, p_9) := by
        simp only [thP,thK_knd, hN_9, cif_f hC_25, Option.map]
      exact hret (nI 0) (u1 (u1 G 206 (upd (G 206) i (nI d_9))) 203 (upd (upd f 2 (nI p_9)) 2 (nI p_9))) _ _ 32 _ (⟨(fun k hk => by simp only [u1]; repeat rw [if_neg (by omega)]), by simp [u1, upd_n, upd_s], by simp [u1, upd_n, upd_s], by rw [e, u1_s, upd_s], by rw [e]; omega, (fun k g1 g2 j hj => by rcases (show k = 205 ∨ k = 206 ∨ k = 207 ∨ k = 208 ∨ k = 209 by omega) with rfl | rfl | rfl | rfl | rfl <;> simp [u1, upd_n hj]), Or.inr ⟨by rw [e], rfl⟩⟩) h rfl dX2_readPetition_32
set_option maxHeartbeats 4000000 in
set_option maxRecDepth 100000 in
theorem c_X2_readThing (l : Launch) (J : JJ) (z : Nat) (ad : Nat → Nat) (G : GG) (t : Nat → Int32) (ht : G 204 = t) (f : Nat → Int32) (n q : Nat) (hn : f 1 = nI n) (hn60 : n ≤ 60) (hq : f 2 = nI q) (hqn : q ≤ n) (i : Nat) (hi : i < 20)  : MI l J z ad yX2_readThing cX2_readThing 2 .boolean 3 [.ref (ad 203), .int (nI i)] (u1 G 203 f) (fun ans uG => thW G uG f i (thO t n q) n ans) := by
  refine MZ.go (by decide) (Nat.le_of_ble_eq_true rfl) ?_
  intro pr e s m args below meth c ls Q X h hl hret
  have hx := X.1
  have hb := X.2.1
  have hown := X.2.2.2.1
  have hts := X.2.2.2.2
  have hl : lv_has ls 2 [(0, .ref (ad 203)), (1, .int (nI i))] := hl
  refine lv_aload_n hx hb dX2_readThing_0 rfl (lv_at hl 0 rfl) ?_
  refine lv_bipush (v := nI 112) hx hb dX2_readThing_1 (by decide) ?_
  rcases Classical.em (isC t n q 112) with hC_3 | hC_3
  · have hL_3 := hC_3.1
    refine rg_civd (As := [.int (nI 112)]) (rest := []) X hl.1 h (c_X2_skip_t l J z ad G t ht f n q hn hn60 hq (by omega) 112 (by omega) hC_3) mw_463 mw_464 mw_465 mw_25 mw_466 pdX2_skip (by decide) (xo_203 J ad _) rfl rfl ⟨Nat.le_of_ble_eq_true rfl, Nat.le_of_ble_eq_true rfl⟩ ⟨Nat.le_of_ble_eq_true rfl, Nat.le_of_ble_eq_true rfl⟩ rfl (Nat.le_of_ble_eq_true rfl) dX2_readThing_3 (fun H locs h => ?_)
    refine lv_if_eq (tgt := 22) hx hb dX2_readThing_6 (by decide) (fun c_6 => absurd c_6 (by decide)) (fun c_6 => ?_)
    refine lv_aload_n hx hb dX2_readThing_9 rfl (lv_at hl 0 rfl) ?_
    refine fg_X2_15 X h dX2_readThing_10 ?_
    refine lv_iload_n hx hb dX2_readThing_13 rfl (lv_at hl 1 rfl) ?_
    refine lv_iconst (v := nI 0) hx hb dX2_readThing_14 (by decide) ?_
    refine rg_ist X h 205 (by decide) (xa_205 J ad) (i) rfl (by omega) (by decide) dX2_readThing_15 (fun H locs h => ?_)
    rw [u1_sw (by decide)] at h
    refine lv_aload_n hx hb dX2_readThing_16 rfl (lv_at hl 0 rfl) ?_
    refine lv_iload_n hx hb dX2_readThing_17 rfl (lv_at hl 1 rfl) ?_
    refine rg_civ (As := [.int (nI i)]) (rest := []) X hl.1 h (c_X2_readPetition l J z ad (u1 G 205 (upd (G 205) i (nI 0))) t (by first | exact ht | (rw [u1_n (by decide)]; exact ht) | (rw [u1_n (by decide), u1_n (by decide)]; exact ht) | (rw [u1_n (by decide), u1_n (by decide), u1_n (by decide)]; exact ht) | (rw [u1_n (by decide), u1_n (by decide), u1_n (by decide), u1_n (by decide)]; exact ht)) (upd f 2 (nI (q + 1))) n (q + 1) (by rw [upd_n (by decide)]; exact hn) hn60 (by rw [upd_s]) (by omega) i hi (by rw [u1_s, upd_s])) mw_467 mw_468 mw_469 mw_25 mw_470 pdX2_readPetition (by decide) (xo_203 J ad _) rfl rfl ⟨Nat.le_of_ble_eq_true rfl, Nat.le_of_ble_eq_true rfl⟩ ⟨Nat.le_of_ble_eq_true rfl, Nat.le_of_ble_eq_true rfl⟩ rfl (Nat.le_of_ble_eq_true rfl) dX2_readThing_18 (fun r1 G1 H locs q1 h => ?_)
    have e : thO t n q = thP t n (q + 1) := by
      simp only [thO, cif_t hC_3]
    rw [← e] at q1
    exact hret r1 G1 _ _ 21 _ (thW.up q1 (by rw [upd_n (by decide)]) (by rw [upd_n (by decide)])) h (by rcases q1.2.2.2.2.2.2 with ⟨y, a1, a2, -⟩ | ⟨a1, a2⟩ <;> rw [a2] <;> rfl) dX2_readThing_21
  · refine rg_civd (As := [.int (nI 112)]) (rest := []) X hl.1 h (c_X2_skip_f l J z ad G t ht f n q hn hn60 hq (by omega) 112 (by omega) hC_3) mw_463 mw_464 mw_465 mw_25 mw_466 pdX2_skip (by decide) (xo_203 J ad _) rfl rfl ⟨Nat.le_of_ble_eq_true rfl, Nat.le_of_ble_eq_true rfl⟩ ⟨Nat.le_of_ble_eq_true rfl, Nat.le_of_ble_eq_true rfl⟩ rfl (Nat.le_of_ble_eq_true rfl) dX2_readThing_3 (fun H locs h => ?_)
    refine lv_if_eq (tgt := 22) hx hb dX2_readThing_6 (by decide) (fun c_6 => ?_) (fun c_6 => absurd (by decide) c_6)
    refine lv_aload_n hx hb dX2_readThing_22 rfl (lv_at hl 0 rfl) ?_
    refine lv_bipush (v := nI 121) hx hb dX2_readThing_23 (by decide) ?_
    rcases Classical.em (isC t n q 121) with hC_25 | hC_25
    · have hL_25 := hC_25.1
      refine rg_civd (As := [.int (nI 121)]) (rest := []) X hl.1 h (c_X2_skip_t l J z ad G t ht (upd f 2 (nI q)) n q (by rw [upd_n (by decide)]; exact hn) hn60 (by rw [upd_s]) (by omega) 121 (by omega) hC_25) mw_463 mw_464 mw_465 mw_25 mw_466 pdX2_skip (by decide) (xo_203 J ad _) rfl rfl ⟨Nat.le_of_ble_eq_true rfl, Nat.le_of_ble_eq_true rfl⟩ ⟨Nat.le_of_ble_eq_true rfl, Nat.le_of_ble_eq_true rfl⟩ rfl (Nat.le_of_ble_eq_true rfl) dX2_readThing_25 (fun H locs h => ?_)
      refine lv_if_eq (tgt := 44) hx hb dX2_readThing_28 (by decide) (fun c_28 => absurd c_28 (by decide)) (fun c_28 => ?_)
      refine lv_aload_n hx hb dX2_readThing_31 rfl (lv_at hl 0 rfl) ?_
      refine fg_X2_15 X h dX2_readThing_32 ?_
      refine lv_iload_n hx hb dX2_readThing_35 rfl (lv_at hl 1 rfl) ?_
      refine lv_iconst (v := nI 1) hx hb dX2_readThing_36 (by decide) ?_
      refine rg_ist X h 205 (by decide) (xa_205 J ad) (i) rfl (by omega) (by decide) dX2_readThing_37 (fun H locs h => ?_)
      rw [u1_sw (by decide)] at h
      refine lv_aload_n hx hb dX2_readThing_38 rfl (lv_at hl 0 rfl) ?_
      refine lv_iload_n hx hb dX2_readThing_39 rfl (lv_at hl 1 rfl) ?_
      refine rg_civ (As := [.int (nI i)]) (rest := []) X hl.1 h (c_X2_readSeconding l J z ad (u1 G 205 (upd (G 205) i (nI 1))) t (by first | exact ht | (rw [u1_n (by decide)]; exact ht) | (rw [u1_n (by decide), u1_n (by decide)]; exact ht) | (rw [u1_n (by decide), u1_n (by decide), u1_n (by decide)]; exact ht) | (rw [u1_n (by decide), u1_n (by decide), u1_n (by decide), u1_n (by decide)]; exact ht)) (upd (upd f 2 (nI q)) 2 (nI (q + 1))) n (q + 1) (by rw [upd_n (by decide), upd_n (by decide)]; exact hn) hn60 (by rw [upd_s]) (by omega) i hi (by rw [u1_s, upd_s])) mw_483 mw_484 mw_485 mw_25 mw_486 pdX2_readSeconding (by decide) (xo_203 J ad _) rfl rfl ⟨Nat.le_of_ble_eq_true rfl, Nat.le_of_ble_eq_true rfl⟩ ⟨Nat.le_of_ble_eq_true rfl, Nat.le_of_ble_eq_true rfl⟩ rfl (Nat.le_of_ble_eq_true rfl) dX2_readThing_40 (fun r2 G2 H locs q2 h => ?_)
      have e : thO t n q = thY t n (q + 1) := by
        simp only [thO, cif_f hC_3, cif_t hC_25]
      rw [← e] at q2
      exact hret r2 G2 _ _ 43 _ (thW.up q2 (by rw [upd_n (by decide), upd_n (by decide)]) (by rw [upd_n (by decide), upd_n (by decide)])) h (by rcases q2.2.2.2.2.2.2 with ⟨y, a1, a2, -⟩ | ⟨a1, a2⟩ <;> rw [a2] <;> rfl) dX2_readThing_43
    · refine rg_civd (As := [.int (nI 121)]) (rest := []) X hl.1 h (c_X2_skip_f l J z ad G t ht (upd f 2 (nI q)) n q (by rw [upd_n (by decide)]; exact hn) hn60 (by rw [upd_s]) (by omega) 121 (by omega) hC_25) mw_463 mw_464 mw_465 mw_25 mw_466 pdX2_skip (by decide) (xo_203 J ad _) rfl rfl ⟨Nat.le_of_ble_eq_true rfl, Nat.le_of_ble_eq_true rfl⟩ ⟨Nat.le_of_ble_eq_true rfl, Nat.le_of_ble_eq_true rfl⟩ rfl (Nat.le_of_ble_eq_true rfl) dX2_readThing_25 (fun H locs h => ?_)
      refine lv_if_eq (tgt := 44) hx hb dX2_readThing_28 (by decide) (fun c_28 => ?_) (fun c_28 => absurd (by decide) c_28)
      refine lv_aload_n hx hb dX2_readThing_44 rfl (lv_at hl 0 rfl) ?_
      refine lv_bipush (v := nI 46) hx hb dX2_readThing_45 (by decide) ?_
      rcases Classical.em (isC t n q 46) with hC_47 | hC_47
      · have hL_47 := hC_47.1
        refine rg_civd (As := [.int (nI 46)]) (rest := []) X hl.1 h (c_X2_skip_t l J z ad G t ht (upd (upd f 2 (nI q)) 2 (nI q)) n q (by rw [upd_n (by decide), upd_n (by decide)]; exact hn) hn60 (by rw [upd_s]) (by omega) 46 (by omega) hC_47) mw_463 mw_464 mw_465 mw_25 mw_466 pdX2_skip (by decide) (xo_203 J ad _) rfl rfl ⟨Nat.le_of_ble_eq_true rfl, Nat.le_of_ble_eq_true rfl⟩ ⟨Nat.le_of_ble_eq_true rfl, Nat.le_of_ble_eq_true rfl⟩ rfl (Nat.le_of_ble_eq_true rfl) dX2_readThing_47 (fun H locs h => ?_)
        refine lv_if_eq (tgt := 88) hx hb dX2_readThing_50 (by decide) (fun c_50 => absurd c_50 (by decide)) (fun c_50 => ?_)
        refine lv_aload_n hx hb dX2_readThing_53 rfl (lv_at hl 0 rfl) ?_
        refine fg_X2_15 X h dX2_readThing_54 ?_
        refine lv_iload_n hx hb dX2_readThing_57 rfl (lv_at hl 1 rfl) ?_
        refine lv_iconst (v := nI 2) hx hb dX2_readThing_58 (by decide) ?_
        refine rg_ist X h 205 (by decide) (xa_205 J ad) (i) rfl (by omega) (by decide) dX2_readThing_59 (fun H locs h => ?_)
        rw [u1_sw (by decide)] at h
        refine lv_aload_n hx hb dX2_readThing_60 rfl (lv_at hl 0 rfl) ?_
        refine fg_X2_22 X h dX2_readThing_61 ?_
        refine lv_iload_n hx hb dX2_readThing_64 rfl (lv_at hl 1 rfl) ?_
        refine lv_aload_n hx hb dX2_readThing_65 rfl (lv_at hl 0 rfl) ?_
        refine lv_iconst (v := nI 1) hx hb dX2_readThing_66 (by decide) ?_
        refine lv_bipush (v := nI 99) hx hb dX2_readThing_67 (by decide) ?_
        obtain ⟨o_69, p_69, hN_69⟩ : ∃ o q2, num t n (q + 1) 1 99 = (o, q2) := ⟨_, _, rfl⟩
        have hB_69 := num_ok hN_69 (by omega)
        refine rg_civd (As := [.int (nI 1), .int (nI 99)]) (rest := [.int (nI i), .ref (ad 207)]) X hl.1 h (c_X2_readNumber l J z ad (u1 G 205 (upd (G 205) i (nI 2))) t (by first | exact ht | (rw [u1_n (by decide)]; exact ht) | (rw [u1_n (by decide), u1_n (by decide)]; exact ht) | (rw [u1_n (by decide), u1_n (by decide), u1_n (by decide)]; exact ht) | (rw [u1_n (by decide), u1_n (by decide), u1_n (by decide), u1_n (by decide)]; exact ht)) (upd (upd (upd f 2 (nI q)) 2 (nI q)) 2 (nI (q + 1))) n (q + 1) (by rw [upd_n (by decide), upd_n (by decide), upd_n (by decide)]; exact hn) hn60 (by rw [upd_s]) (by omega) 1 99 (by omega) (by omega) o_69 p_69 hN_69) mw_471 mw_472 mw_473 mw_25 mw_474 pdX2_readNumber (by decide) (xo_203 J ad _) rfl rfl ⟨Nat.le_of_ble_eq_true rfl, Nat.le_of_ble_eq_true rfl⟩ ⟨Nat.le_of_ble_eq_true rfl, Nat.le_of_ble_eq_true rfl⟩ rfl (Nat.le_of_ble_eq_true rfl) dX2_readThing_69 (fun H locs h => ?_)
        rcases o_69 with _ | d_69
        · refine lv_as (y := (-1)) rfl ?_
          refine rg_ist X h 207 (by decide) (xa_207 J ad) (i) rfl (by omega) (by decide) dX2_readThing_72 (fun H locs h => ?_)
          rw [u1_sw (by decide)] at h
          refine lv_aload_n hx hb dX2_readThing_73 rfl (lv_at hl 0 rfl) ?_
          refine fg_X2_22 X h dX2_readThing_74 ?_
          refine lv_iload_n hx hb dX2_readThing_77 rfl (lv_at hl 1 rfl) ?_
          refine rg_ild X h 207 (by decide) (xa_207 J ad) (i) rfl (by omega) (by decide) dX2_readThing_78 ?_
          refine lv_as (y := (u1 (u1 G 205 (upd (G 205) i (nI 2))) 207 (upd ((u1 G 205 (upd (G 205) i (nI 2))) 207) i (-1))) 207 i) (congrFun (u1_n (by decide)) _) ?_
          refine lv_as (y := (-1)) (by rw [u1_s, upd_s]) ?_
          refine lv_if_lt (tgt := 86) hx hb dX2_readThing_79 (by decide) (fun c_79 => ?_) (fun c_79 => absurd (by decide) c_79)
          refine lv_iconst (v := nI 0) hx hb dX2_readThing_86 (by decide) ?_
          have e : thO t n q = (none, p_69) := by
            simp only [thO,thD, cif_f hC_3, cif_f hC_25, cif_t hC_47, hN_69]
          exact hret (nI 0) (u1 (u1 (u1 G 205 (upd (G 205) i (nI 2))) 207 (upd ((u1 G 205 (upd (G 205) i (nI 2))) 207) i (-1))) 203 (upd (upd (upd (upd f 2 (nI q)) 2 (nI q)) 2 (nI (q + 1))) 2 (nI p_69))) _ _ 87 _ (⟨(fun k hk => by simp only [u1]; repeat rw [if_neg (by omega)]), by simp [u1, upd_n, upd_s], by simp [u1, upd_n, upd_s], by rw [e, u1_s, upd_s], by rw [e]; omega, (fun k g1 g2 j hj => by rcases (show k = 205 ∨ k = 206 ∨ k = 207 ∨ k = 208 ∨ k = 209 by omega) with rfl | rfl | rfl | rfl | rfl <;> simp [u1, upd_n hj]), Or.inr ⟨by rw [e], rfl⟩⟩) h rfl dX2_readThing_87
        · have hV_69 := hB_69.2.2 d_69 rfl
          refine lv_as (y := nI d_69) rfl ?_
          refine rg_ist X h 207 (by decide) (xa_207 J ad) (i) rfl (by omega) (by decide) dX2_readThing_72 (fun H locs h => ?_)
          rw [u1_sw (by decide)] at h
          refine lv_aload_n hx hb dX2_readThing_73 rfl (lv_at hl 0 rfl) ?_
          refine fg_X2_22 X h dX2_readThing_74 ?_
          refine lv_iload_n hx hb dX2_readThing_77 rfl (lv_at hl 1 rfl) ?_
          refine rg_ild X h 207 (by decide) (xa_207 J ad) (i) rfl (by omega) (by decide) dX2_readThing_78 ?_
          refine lv_as (y := (u1 (u1 G 205 (upd (G 205) i (nI 2))) 207 (upd ((u1 G 205 (upd (G 205) i (nI 2))) 207) i (nI d_69))) 207 i) (congrFun (u1_n (by decide)) _) ?_
          refine lv_as (y := nI d_69) (by rw [u1_s, upd_s]) ?_
          refine lv_if_lt (tgt := 86) hx hb dX2_readThing_79 (by decide) (fun c_79 => absurd c_79 (nI_pos (by omega))) (fun c_79 => ?_)
          refine lv_iconst (v := nI 1) hx hb dX2_readThing_82 (by decide) ?_
          refine lv_goto (tgt := 87) hx hb dX2_readThing_83 (by decide) ?_
          have e : thO t n q = (some (2, d_69, 0, 0, 0), p_69) := by
            simp only [thO,thD, cif_f hC_3, cif_f hC_25, cif_t hC_47, hN_69]
          exact hret (nI 1) (u1 (u1 (u1 G 205 (upd (G 205) i (nI 2))) 207 (upd ((u1 G 205 (upd (G 205) i (nI 2))) 207) i (nI d_69))) 203 (upd (upd (upd (upd f 2 (nI q)) 2 (nI q)) 2 (nI (q + 1))) 2 (nI p_69))) _ _ 87 _ (⟨(fun k hk => by simp only [u1]; repeat rw [if_neg (by omega)]), by simp [u1, upd_n, upd_s], by simp [u1, upd_n, upd_s], by rw [e, u1_s, upd_s], by rw [e]; omega, (fun k g1 g2 j hj => by rcases (show k = 205 ∨ k = 206 ∨ k = 207 ∨ k = 208 ∨ k = 209 by omega) with rfl | rfl | rfl | rfl | rfl <;> simp [u1, upd_n hj]), Or.inl ⟨(2, d_69, 0, 0, 0), by rw [e], rfl, Or.inr (Or.inr ⟨rfl, by simp [u1, upd_s], by simp [u1, upd_s]⟩)⟩⟩) h rfl dX2_readThing_87
      · refine rg_civd (As := [.int (nI 46)]) (rest := []) X hl.1 h (c_X2_skip_f l J z ad G t ht (upd (upd f 2 (nI q)) 2 (nI q)) n q (by rw [upd_n (by decide), upd_n (by decide)]; exact hn) hn60 (by rw [upd_s]) (by omega) 46 (by omega) hC_47) mw_463 mw_464 mw_465 mw_25 mw_466 pdX2_skip (by decide) (xo_203 J ad _) rfl rfl ⟨Nat.le_of_ble_eq_true rfl, Nat.le_of_ble_eq_true rfl⟩ ⟨Nat.le_of_ble_eq_true rfl, Nat.le_of_ble_eq_true rfl⟩ rfl (Nat.le_of_ble_eq_true rfl) dX2_readThing_47 (fun H locs h => ?_)
        refine lv_if_eq (tgt := 88) hx hb dX2_readThing_50 (by decide) (fun c_50 => ?_) (fun c_50 => absurd (by decide) c_50)
        refine lv_iconst (v := nI 0) hx hb dX2_readThing_88 (by decide) ?_
        have e : thO t n q = (none, q) := by
          simp only [thO,thD, cif_f hC_3, cif_f hC_25, cif_f hC_47]
        exact hret (nI 0) (u1 G 203 (upd (upd (upd f 2 (nI q)) 2 (nI q)) 2 (nI q))) _ _ 89 _ (⟨(fun k hk => by simp only [u1]; repeat rw [if_neg (by omega)]), by simp [u1, upd_n, upd_s], by simp [u1, upd_n, upd_s], by rw [e, u1_s, upd_s], by rw [e]; omega, (fun k g1 g2 j hj => by rcases (show k = 205 ∨ k = 206 ∨ k = 207 ∨ k = 208 ∨ k = 209 by omega) with rfl | rfl | rfl | rfl | rfl <;> simp [u1, upd_n hj]), Or.inr ⟨by rw [e], rfl⟩⟩) h rfl dX2_readThing_89
