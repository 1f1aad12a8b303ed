
/-! a whole text: its things and its fault; the things are done one after the other -/
theorem num_ge {t : Nat → Int32} {n p lo gr : Nat} (hp : p ≤ n) : p ≤ (num t n p lo gr).2 ∧ (num t n p lo gr).2 ≤ n := by
  have := num_ok (t := t) (n := n) (p := p) (ls := lo) (gr := gr) (o := (num t n p lo gr).1) (p2 := (num t n p lo gr).2) rfl hp
  exact ⟨this.1, this.2.1⟩
theorem cif_ge {α : Type} {P : Prop} {p : Nat} {a b : α × Nat} (ha : P → p ≤ a.2) (hb : p ≤ b.2) : p ≤ (cif P a b).2 := by
  rcases Classical.em P with h | h
  · rw [cif_t h]; exact ha h
  · rw [cif_f h]; exact hb
theorem thP_ge {t : Nat → Int32} {n p : Nat} (hp : p ≤ n) : p ≤ (thP t n p).2 := by
  unfold thP
  have h1 := num_ge (t := t) (lo := 0) (gr := 11) hp
  rcases e1 : num t n p 0 11 with ⟨o1, p1⟩
  rw [e1] at h1
  cases o1 with
  | none => exact h1.1
  | some d =>
    refine cif_ge (fun c1 => ?_) h1.1
    have c2 := c1.1
    have h2 := num_ge (t := t) (lo := 0) (gr := 6) (show p1 + 1 ≤ n by omega)
    rcases e2 : num t n (p1 + 1) 0 6 with ⟨o2, p2⟩
    rw [e2] at h2
    have h1a := h1.1
    have h2a := h2.1
    cases o2 with
    | none => show p ≤ p2; dsimp only at h1a h2a; omega
    | some x =>
      refine cif_ge (fun c3 => ?_) (by show p ≤ p2; dsimp only at h1a h2a; omega)
      have c4 := c3.1
      have h3 := num_ge (t := t) (lo := 0) (gr := 19) (show p2 + 1 ≤ n by omega)
      rcases e3 : num t n (p2 + 1) 0 19 with ⟨o3, p3⟩
      rw [e3] at h3
      have h3a := h3.1
      dsimp only at h1a h2a h3a
      cases o3 with
      | none => show p ≤ p3; omega
      | some g =>
        show p ≤ (thK t n d x g p3).2
        unfold thK
        exact cif_ge (fun _ => by show p ≤ p3 + 1; omega) (cif_ge (fun _ => by show p ≤ p3 + 1; omega) (cif_ge (fun _ => by show p ≤ p3 + 1; omega) (by show p ≤ p3; omega)))
theorem thY_ge {t : Nat → Int32} {n p : Nat} (hp : p ≤ n) : p ≤ (thY t n p).2 := by
  unfold thY
  have h1 := num_ge (t := t) (lo := 0) (gr := 11) hp
  rcases e1 : num t n p 0 11 with ⟨o1, p1⟩
  rw [e1] at h1
  cases o1 with
  | none => exact h1.1
  | some d =>
    refine cif_ge (fun c1 => ?_) h1.1
    have c2 := c1.1
    have h2 := num_ge (t := t) (lo := 0) (gr := 11) (show p1 + 1 ≤ n by omega)
    rcases e2 : num t n (p1 + 1) 0 11 with ⟨o2, p2⟩
    rw [e2] at h2
    have h1a := h1.1
    have h2a := h2.1
    dsimp only at h1a h2a
    cases o2 with
    | none => show p ≤ p2; omega
    | some x => show p ≤ p2; omega
theorem thD_ge {t : Nat → Int32} {n p : Nat} (hp : p ≤ n) : p ≤ (thD t n p).2 := by
  unfold thD
  have h1 := num_ge (t := t) (lo := 1) (gr := 99) hp
  rcases e1 : num t n p 1 99 with ⟨o1, p1⟩
  rw [e1] at h1
  cases o1 with
  | none => exact h1.1
  | some d => exact h1.1
theorem thO_lt {t : Nat → Int32} {n p p1 : Nat} {y : TH} (h : thO t n p = (some y, p1)) : p < p1 := by
  unfold thO at h
  rcases Classical.em (isC t n p 112) with c | c
  · rw [cif_t c] at h
    have := thP_ge (t := t) (n := n) (p := p + 1) (by have := c.1; omega)
    rw [h] at this
    exact this
  · rw [cif_f c] at h
    rcases Classical.em (isC t n p 121) with c | c
    · rw [cif_t c] at h
      have := thY_ge (t := t) (n := n) (p := p + 1) (by have := c.1; omega)
      rw [h] at this
      exact this
    · rw [cif_f c] at h
      rcases Classical.em (isC t n p 46) with c | c
      · rw [cif_t c] at h
        have := thD_ge (t := t) (n := n) (p := p + 1) (by have := c.1; omega)
        rw [h] at this
        exact this
      · rw [cif_f c] at h
        cases congrArg Prod.fst h
noncomputable def prs (t : Nat → Int32) (n : Nat) : Nat → Nat → List TH × Option Nat
  | 0, p => ([], some p)
  | k + 1, p => match thO t n p with
    | (none, p1) => ([], some p1)
    | (some y, p1) => cif (isC t n p1 59) (y :: (prs t n k (p1 + 1)).1, (prs t n k (p1 + 1)).2) ([y], if p1 = n then none else some p1)
theorem prs_n {t : Nat → Int32} {n k p p1 : Nat} (h : thO t n p = (none, p1)) : prs t n (k + 1) p = ([], some p1) := by
  unfold prs
  rw [h]
theorem prs_c {t : Nat → Int32} {n k p p1 : Nat} {y : TH} (h : thO t n p = (some y, p1)) (c : isC t n p1 59) : prs t n (k + 1) p = (y :: (prs t n k (p1 + 1)).1, (prs t n k (p1 + 1)).2) := by
  show (match thO t n p with
    | (none, p1) => ([], some p1)
    | (some y, p1) => cif (isC t n p1 59) (y :: (prs t n k (p1 + 1)).1, (prs t n k (p1 + 1)).2) ([y], if p1 = n then none else some p1)) = _
  rw [h]
  exact cif_t c
theorem prs_e {t : Nat → Int32} {n k p p1 : Nat} {y : TH} (h : thO t n p = (some y, p1)) (c : ¬ isC t n p1 59) : prs t n (k + 1) p = ([y], if p1 = n then none else some p1) := by
  show (match thO t n p with
    | (none, p1) => ([], some p1)
    | (some y, p1) => cif (isC t n p1 59) (y :: (prs t n k (p1 + 1)).1, (prs t n k (p1 + 1)).2) ([y], if p1 = n then none else some p1)) = _
  rw [h]
  exact cif_f c
noncomputable def dsA (r : Nat → Int32) (y : TH) : Int32 := if y.1 = 0 then ptA r (nI y.2.1) (nI y.2.2.1) (nI y.2.2.2.1) (nI y.2.2.2.2) else if y.1 = 1 then scA r (nI y.2.1) (nI y.2.2.1) else edA r (nI y.2.1)
noncomputable def dsR (r : Nat → Int32) (y : TH) : Nat → Int32 := if y.1 = 0 then ptR r (nI y.2.1) (nI y.2.2.1) (nI y.2.2.2.1) (nI y.2.2.2.2) else if y.1 = 1 then scR r (nI y.2.1) (nI y.2.2.1) else edR r (nI y.2.1)
theorem dsR_RI {r : Nat → Int32} (h : RI r) (y : TH) : RI (dsR r y) := by
  unfold dsR
  split
  · exact ptR_RI h _ _ _ _
  · split
    · exact scR_RI h _ _
    · exact edR_RI h _
/-- the things are done: where it stops and by which error, the row then -/
noncomputable def rnL : List TH → (Nat → Int32) → Nat → Option (Nat × Int32) × (Nat → Int32)
  | [], r, _ => (none, r)
  | y :: ys, r, i => if dsA r y < 0 ∧ dsA r y ≠ (-5) then (some (i, dsA r y), dsR r y) else rnL ys (dsR r y) (i + 1)
/-- behind the row's 612 numbers nothing changes -/
def HiEq (r y : Nat → Int32) : Prop := ∀ k, 612 ≤ k → y k = r k
theorem HiEq.rf (r : Nat → Int32) : HiEq r r := fun _ _ => rfl
theorem HiEq.tr {a b c : Nat → Int32} (h : HiEq a b) (g : HiEq b c) : HiEq a c := fun k h1 => (g k h1).trans (h k h1)
theorem psr_hi {r : Nat → Int32} (hW : WR r) {q : Nat} (hq : q < mn r) (v : Int32) : HiEq r (psr r q v) := by
  obtain ⟨v1, v2, v3, v4, v5, v6, v7, v8⟩ := hW.2.2.2.1 q hq
  intro k hk
  unfold psr
  rw [upd_n (by omega), upd_n (by omega), upd_n (by omega), upd_n (by omega)]
theorem hear_hi {r f : Nat → Int32} {σ : Nat → Nat} (hW : WR r) (hs : ∀ j, j < mn r → σ j < mn r) : ∀ k, k ≤ mn r → HiEq r (hear r f σ k).1 := by
  intro k
  induction k with
  | zero => exact fun _ => HiEq.rf r
  | succ k ih =>
    intro hk
    have hL : LawEq r (hear r f σ k).1 := (hear_ok (r := r) (f := f) (σ := σ) (k := k) rfl).1
    refine (ih (by omega)).tr ?_
    show HiEq _ (hst σ k (hear r f σ k)).1
    unfold hst
    dsimp only
    split
    · exact psr_hi (hL.WR hW) (by rw [hL.mn]; exact hs k (by omega)) _
    · exact HiEq.rf _
theorem ests_hi {r f : Nat → Int32} (hW : WR r) : ∀ {n : Nat}, n ≤ mn r → HiEq r (ests r f n) := by
  intro n
  induction n with
  | zero => exact fun _ k hk => upd_n (by omega)
  | succ n ih =>
    intro hn
    obtain ⟨h1, o, h2, h3⟩ := ests_ok (f := f) hW (show n ≤ mn r by omega)
    have hm : mn r ≤ 12 := hW.2.1.2
    have hW2 := h1.WR hW ⟨o, by omega, h3⟩
    have ho : on (ests r f n) = o := by show tn _ = o; rw [h3]; exact tn_nI (by omega)
    obtain ⟨v1, v2, -⟩ := hW2.2.2.2.1 n (by rw [h1.mn]; omega)
    have hk := hW2.1.2
    refine (ih (by omega)).tr (fun k hk2 => ?_)
    show est f n (ests r f n) k = ests r f n k
    unfold est
    split
    · rw [upd_n (by omega), upd_n (by omega), upd_n (by omega), upd_n (by omega), upd_n (by omega), upd_n (by omega)]
    · rw [upd_n (by omega)]
theorem hrC_hi {r : Nat → Int32} (hW : WR r) : HiEq r (hrC r) := by
  have h1 : HiEq r (hearC r).1 := hear_hi hW (sg_ok r).1 (mn r) (Nat.le_refl _)
  have hL := (hearC_ok r).1
  have h2 : HiEq (hearC r).1 (ests (hearC r).1 (hearC r).2.2 (mn r)) := ests_hi (hL.WR hW) (by rw [hL.mn]; exact Nat.le_refl _)
  refine (h1.tr h2).tr (fun k hk => ?_)
  unfold hrC
  rw [upd_n (by omega), upd_n (by omega)]
theorem dayR_hi {r : Nat → Int32} (hW : WR r) : HiEq r (dayR r) := by
  have hE : HiEq r (dayE r) := fun k hk => by unfold dayE; rw [upd_n (by omega), upd_n (by omega)]
  have hk := hW.1.2
  unfold dayR
  split
  · exact hE
  · refine (hE.tr (hrC_hi (dayE_WR hW))).tr (fun k hk2 => ?_)
    rw [noOwn_n (fun d hd => by omega), upd_n (by omega), upd_n (by omega), upd_n (by omega)]
theorem edI_hi {r : Nat → Int32} (hW : WR r) : ∀ n, HiEq r (edI r n).1 := by
  intro n
  induction n with
  | zero => exact HiEq.rf r
  | succ n ih => exact ih.tr (dayR_hi (edI_WR hW n))
theorem edR_hi {r : Nat → Int32} (hW : WR r) (n : Int32) : HiEq r (edR r n) := by
  unfold edR
  rcases Classical.em (inN n 1 99 ∧ r 2 + n ≤ nI 99999) with c | c
  · rw [cif_t c]; exact edI_hi hW _
  · rw [cif_f c]; exact HiEq.rf r
theorem scR_hi {r : Nat → Int32} (hW : WR r) (d q : Int32) : HiEq r (scR r d q) := by
  unfold scR
  rcases Classical.em ((isN d (kn r) ∧ isN q (mn r)) ∧ r (5 * (tn q) + 84) ≠ d ∧ ¬ sbit r (tn q) d) with c | c
  · rw [cif_t c]
    obtain ⟨⟨-, k, hk, rfl⟩, -⟩ := c
    have hm := hW.2.1.2
    have e : tn (nI k) = k := tn_nI (by omega)
    rw [e]
    exact fun j hj => upd_n (by omega)
  · rw [cif_f c]; exact HiEq.rf r
theorem ptR_hi {r : Nat → Int32} (hW : WR r) (d x g k : Int32) : HiEq r (ptR r d x g k) := by
  unfold ptR
  rcases Classical.em ((isN d (kn r) ∧ inN x 0 6 ∧ isN g 20) ∧ inN k 0 2 ∧ ptF r d x) with c | c
  · rw [cif_t c]
    obtain ⟨⟨⟨D, hD, rfl⟩, -⟩, -⟩ := c
    have hm := hW.2.1.2
    have hk := hW.1.2
    have e : tn (nI D) = D := tn_nI (by omega)
    rw [e]
    exact fun j hj => by rw [upd_n (by omega), upd_n (by omega), upd_n (by omega), upd_n (by omega), upd_n (by omega), upd_n (by omega), upd_n (by omega), upd_n (by omega), upd_n (by omega)]
  · rw [cif_f c]; exact HiEq.rf r
theorem dsR_hi {r : Nat → Int32} (hW : WR r) (y : TH) : HiEq r (dsR r y) := by
  unfold dsR
  split
  · exact ptR_hi hW _ _ _ _
  · split
    · exact scR_hi hW _ _
    · exact edR_hi hW _
theorem u5 (G : GG) (a b F c d : Nat → Int32) : u1 (u1 (u1 (u1 (u1 G 213 a) 214 b) 210 F) 213 c) 214 d = u1 (u1 (u1 G 213 c) 214 d) 210 F := by
  funext k
  by_cases h1 : k = 214
  · subst h1; simp [u1]
  · by_cases h2 : k = 213
    · subst h2; simp [u1]
    · by_cases h3 : k = 210
      · subst h3; simp [u1]
      · simp [u1, h1, h2, h3]
set_option maxHeartbeats 4000000 in
set_option maxRecDepth 100000 in
theorem c_X8_fault (l : Launch) (J : JJ) (z : Nat) (ad : Nat → Nat) (G : GG) (f : Nat → Int32) (n : Nat) (hn : f 4 = nI n) (hn60 : n ≤ 60) : MI l J z ad yX8_fault cX8_fault 2 .int 5 [.ref (ad 210)] (u1 G 210 f) (fun ans uG => ∃ f1, uG = u1 G 210 f1 ∧ (∀ j, j < 9 → f1 j = f j) ∧ ans = opI (prs (G 212) n (n + 1) 0).2) := by
  refine MI.go (by decide) (Nat.le_of_ble_eq_true rfl) ?_
  intro pr e s m args below meth c ls Q X h hl hret
  have hx := X.1
  have hb := X.2.1
  have hown := X.2.2.2.1
  have hts := X.2.2.2.2
  have hl : lv_has ls 2 [(0, .ref (ad 210))] := hl
  refine lv_aload_n hx hb dX8_fault_0 rfl (lv_at hl 0 rfl) ?_
  refine lv_iconst (v := nI 0) hx hb dX8_fault_1 (by decide) ?_
  refine fp_X8_124 X h dX8_fault_2 (fun H locs h => ?_)
  rw [u1_uu] at h
  refine lv_iconst (v := nI 1) hx hb dX8_fault_5 (by decide) ?_
  refine lv_istore_n (lv' := [(1, .int (nI 1)), (0, .ref (ad 210))]) hx hb dX8_fault_6 rfl hl (by decide) rfl (fun ls hl => ?_)
  have LP : ∀ (k p : Nat) (f1 : Nat → Int32), n + 1 ≤ p + k → p ≤ n → (∀ j, j < 9 → f1 j = f j) → f1 9 = nI p → (prs (G 212) n k p).2 = (prs (G 212) n (n + 1) 0).2 → ∀ (H : Heap) (locs : List Loc) (ls : Array Slot), HG J z ad s (u1 G 210 f1) H locs → lv_has ls 2 [(0, .ref (ad 210)), (1, .int (nI 1))] → W pr l e (rmD 5 0 0) s m args below meth c H locs 0 0 Q (F0 m 7 ls []) := by
    intro k
    induction k with
    | zero =>
      intro p f1 g1 g2
      exact absurd g1 (by omega)
    | succ k ih =>
      intro p f1 g1 g2 hf h9 hX H locs ls h hl
      have h4 : f1 4 = nI n := by rw [hf 4 (by omega)]; exact hn
      refine lv_iload_n hx hb dX8_fault_7 rfl (lv_at hl 1 rfl) ?_
      refine lv_if_eq (tgt := 33) hx hb dX8_fault_8 (by decide) (fun c_8 => absurd c_8 (by decide)) (fun c_8 => ?_)
      refine lv_aload_n hx hb dX8_fault_11 rfl (lv_at hl 0 rfl) ?_
      refine rg_civ (As := []) (rest := []) X hl.1 h (c_X8_readsThing l J z ad G f1 n p h4 hn60 h9 (by omega)) mw_505 mw_506 mw_507 mw_5 mw_508 pdX8_readsThing (by decide) (xo_210 J ad _) rfl rfl ⟨Nat.le_of_ble_eq_true rfl, Nat.le_of_ble_eq_true rfl⟩ ⟨Nat.le_of_ble_eq_true rfl, Nat.le_of_ble_eq_true rfl⟩ rfl (Nat.le_of_ble_eq_true rfl) dX8_fault_12 (fun r2 G2 H locs q2 h => ?_)
      obtain ⟨f2, rfl, hj, h92, hle, hcase⟩ := q2
      obtain ⟨oo, p1, hO⟩ : ∃ o p1, thO (G 212) n p = (o, p1) := ⟨_, _, rfl⟩
      rw [hO] at h92 hle hcase
      have h92 : f2 9 = nI p1 := h92
      have hle : p1 ≤ n := hle
      have h42 : f2 4 = nI n := by rw [hj 4 (by omega)]; exact h4
      rcases hcase with ⟨y, hy, ha, hF, hB⟩ | ⟨hy, ha⟩
      · obtain rfl : oo = some y := hy
        have hlt := thO_lt hO
        refine lv_as (y := nI 1) ha ?_
        refine lv_if_ne (tgt := 23) hx hb dX8_fault_15 (by decide) (fun c_15 => ?_) (fun c_15 => absurd c_15 (by decide))
        refine lv_aload_n hx hb dX8_fault_23 rfl (lv_at hl 0 rfl) ?_
        refine lv_bipush (v := nI 59) hx hb dX8_fault_24 (by decide) ?_
        rcases Classical.em (isC (G 212) n p1 59) with hC_26 | hC_26
        · have hL_26 := hC_26.1
          refine rg_civd (As := [.int (nI 59)]) (rest := []) X hl.1 h (c_X8_takes_t l J z ad G f2 n p1 h42 hn60 h92 (by omega) 59 (by omega) hC_26) mw_526 mw_527 mw_528 mw_5 mw_529 pdX8_takes (by decide) (xo_210 J ad _) rfl rfl ⟨Nat.le_of_ble_eq_true rfl, Nat.le_of_ble_eq_true rfl⟩ ⟨Nat.le_of_ble_eq_true rfl, Nat.le_of_ble_eq_true rfl⟩ rfl (Nat.le_of_ble_eq_true rfl) dX8_fault_26 (fun H locs h => ?_)
          refine lv_istore_n (lv' := [(1, .int (nI 1)), (0, .ref (ad 210))]) hx hb dX8_fault_29 rfl hl (by decide) rfl (fun ls hl => ?_)
          refine lv_goto (tgt := 7) hx hb dX8_fault_30 (by decide) ?_
          exact ih (p1 + 1) (upd f2 9 (nI (p1 + 1))) (by omega) (by omega) (fun j hj2 => by rw [upd_n (by omega), hj j hj2]; exact hf j hj2) (by rw [upd_s]) (by rw [← hX, prs_c hO hC_26]) _ _ _ h (lv_sub hl [1, 0] rfl)
        · refine rg_civd (As := [.int (nI 59)]) (rest := []) X hl.1 h (c_X8_takes_f l J z ad G f2 n p1 h42 hn60 h92 (by omega) 59 (by omega) hC_26) mw_526 mw_527 mw_528 mw_5 mw_529 pdX8_takes (by decide) (xo_210 J ad _) rfl rfl ⟨Nat.le_of_ble_eq_true rfl, Nat.le_of_ble_eq_true rfl⟩ ⟨Nat.le_of_ble_eq_true rfl, Nat.le_of_ble_eq_true rfl⟩ rfl (Nat.le_of_ble_eq_true rfl) dX8_fault_26 (fun H locs h => ?_)
          refine lv_istore_n (lv' := [(1, .int (nI 0)), (0, .ref (ad 210))]) hx hb dX8_fault_29 rfl hl (by decide) rfl (fun ls hl => ?_)
          refine lv_goto (tgt := 7) hx hb dX8_fault_30 (by decide) ?_
          refine lv_iload_n hx hb dX8_fault_7 rfl (lv_at hl 0 rfl) ?_
          refine lv_if_eq (tgt := 33) hx hb dX8_fault_8 (by decide) (fun c_8 => ?_) (fun c_8 => absurd (by decide) c_8)
          refine lv_aload_n hx hb dX8_fault_33 rfl (lv_at hl 1 rfl) ?_
          refine fg_X8_124 X h dX8_fault_34 ?_
          refine lv_as (y := nI p1) ((congrFun (u1_s G 210 (upd f2 9 (nI p1))) 9).trans (by rw [upd_s])) ?_
          refine lv_aload_n hx hb dX8_fault_37 rfl (lv_at hl 1 rfl) ?_
          refine fg_X8_121 X h dX8_fault_38 ?_
          refine lv_as (y := nI n) (((congrFun (u1_s G 210 (upd f2 9 (nI p1))) 4).trans (by rw [upd_n (by decide)])).trans (h42)) ?_
          refine lv_icmp_ne (tgt := 49) hx hb dX8_fault_41 (by decide) (fun c_41 => ?_) (fun c_41 => ?_)
          · rw [nI_eq (by omega) (by omega)] at c_41
            refine lv_aload_n hx hb dX8_fault_49 rfl (lv_at hl 1 rfl) ?_
            refine fg_X8_124 X h dX8_fault_50 ?_
            refine lv_as (y := nI p1) ((congrFun (u1_s G 210 (upd f2 9 (nI p1))) 9).trans (by rw [upd_s])) ?_
            exact hret (nI p1) (u1 G 210 (upd f2 9 (nI p1))) _ _ 53 _ (⟨_, rfl, (fun j hj2 => by rw [upd_n (by omega), hj j hj2]; exact hf j hj2), by rw [← hX, prs_e hO hC_26, if_neg c_41]; rfl⟩) h dX8_fault_53
          · rw [nI_eq (by omega) (by omega)] at c_41
            refine lv_bipush (v := (-5)) hx hb dX8_fault_44 (by decide) ?_
            refine lv_goto (tgt := 53) hx hb dX8_fault_46 (by decide) ?_
            exact hret (-5) (u1 G 210 (upd f2 9 (nI p1))) _ _ 53 _ (⟨_, rfl, (fun j hj2 => by rw [upd_n (by omega), hj j hj2]; exact hf j hj2), by rw [← hX, prs_e hO hC_26, if_pos c_41]; rfl⟩) h dX8_fault_53
      · obtain rfl : oo = none := hy
        refine lv_as (y := nI 0) ha ?_
        refine lv_if_ne (tgt := 23) hx hb dX8_fault_15 (by decide) (fun c_15 => absurd (by decide) c_15) (fun c_15 => ?_)
        refine lv_aload_n hx hb dX8_fault_18 rfl (lv_at hl 0 rfl) ?_
        refine fg_X8_124 X h dX8_fault_19 ?_
        refine lv_as (y := nI p1) ((congrFun (u1_s G 210 f2) 9).trans (h92)) ?_
        exact hret (nI p1) (u1 G 210 f2) _ _ 22 _ (⟨_, rfl, (fun j hj2 => by rw [hj j hj2]; exact hf j hj2), by rw [← hX, prs_n hO]; rfl⟩) h dX8_fault_22
  exact LP (n + 1) 0 (upd f 9 (nI 0)) (by omega) (by omega) (fun j hj2 => by rw [upd_n (by omega)]) (by rw [upd_s]) rfl _ _ _ h (lv_sub hl [1, 0] rfl)
set_option maxHeartbeats 4000000 in
set_option maxRecDepth 100000 in
theorem c_X8_does (l : Launch) (J : JJ) (z : Nat) (ad : Nat → Nat) (G : GG) (f r : Nat → Int32) (hW : WR r) (y : TH) (hF : thF f y) : MI l J z ad yX8_does cX8_does 1 .int 6 [.ref (ad 210)] (RG (u1 G 210 f) 0 r) (fun ans uG => ∃ og g, ans = dsA r y ∧ uG = RG (u1 (u1 (u1 G 210 f) 213 og) 214 g) 0 (dsR r y)) := by
  refine MI.go (by decide) (Nat.le_of_ble_eq_true rfl) ?_
  intro pr e s m args below meth c ls Q X h hl hret
  have hx := X.1
  have hb := X.2.1
  have hown := X.2.2.2.1
  have hts := X.2.2.2.2
  have hl : lv_has ls 1 [(0, .ref (ad 210))] := hl
  rcases hF with ⟨y1, y10, y11, y12, y13, y14⟩ | ⟨y1, y10, y11, y12⟩ | ⟨y1, y10, y11⟩
  · refine lv_aload_n hx hb dX8_does_0 rfl (lv_at hl 0 rfl) ?_
    refine fg_X8_149 X h dX8_does_1 ?_
    refine lv_as (y := (u1 G 210 f) 210 10) (RG_get (by decide)) ?_
    refine lv_as (y := nI 112) ((congrFun (u1_s G 210 f) 10).trans (y10)) ?_
    refine lv_bipush (v := nI 112) hx hb dX8_does_4 (by decide) ?_
    refine lv_icmp_ne (tgt := 32) hx hb dX8_does_6 (by decide) (fun c_6 => absurd (by decide) c_6) (fun c_6 => ?_)
    refine lv_aload_n hx hb dX8_does_9 rfl (lv_at hl 0 rfl) ?_
    refine lv_aload_n hx hb dX8_does_10 rfl (lv_at hl 0 rfl) ?_
    refine fg_X8_134 X h dX8_does_11 ?_
    refine lv_as (y := (u1 G 210 f) 210 11) (RG_get (by decide)) ?_
    refine lv_as (y := nI ((y.2.1))) ((congrFun (u1_s G 210 f) 11).trans (y11)) ?_
    refine lv_aload_n hx hb dX8_does_14 rfl (lv_at hl 0 rfl) ?_
    refine fg_X8_140 X h dX8_does_15 ?_
    refine lv_as (y := (u1 G 210 f) 210 12) (RG_get (by decide)) ?_
    refine lv_as (y := nI ((y.2.2.1))) ((congrFun (u1_s G 210 f) 12).trans (y12)) ?_
    refine lv_aload_n hx hb dX8_does_18 rfl (lv_at hl 0 rfl) ?_
    refine fg_X8_143 X h dX8_does_19 ?_
    refine lv_as (y := (u1 G 210 f) 210 13) (RG_get (by decide)) ?_
    refine lv_as (y := nI ((y.2.2.2.1))) ((congrFun (u1_s G 210 f) 13).trans (y13)) ?_
    refine lv_aload_n hx hb dX8_does_22 rfl (lv_at hl 0 rfl) ?_
    refine fg_X8_146 X h dX8_does_23 ?_
    refine lv_as (y := (u1 G 210 f) 210 14) (RG_get (by decide)) ?_
    refine lv_as (y := nI ((y.2.2.2.2))) ((congrFun (u1_s G 210 f) 14).trans (y14)) ?_
    refine rg_civd (As := [.int (nI ((y.2.1))), .int (nI ((y.2.2.1))), .int (nI ((y.2.2.2.1))), .int (nI ((y.2.2.2.2)))]) (rest := []) X hl.1 h (c_X8_petitions l J z ad (u1 G 210 f) r hW (nI ((y.2.1))) (nI ((y.2.2.1))) (nI ((y.2.2.2.1))) (nI ((y.2.2.2.2)))) mw_254 mw_255 mw_256 mw_5 mw_257 pdX8_petitions (by decide) (xo_210 J ad _) rfl rfl ⟨Nat.le_of_ble_eq_true rfl, Nat.le_of_ble_eq_true rfl⟩ ⟨Nat.le_of_ble_eq_true rfl, Nat.le_of_ble_eq_true rfl⟩ rfl (Nat.le_of_ble_eq_true rfl) dX8_does_26 (fun H locs h => ?_)
    refine lv_goto (tgt := 64) hx hb dX8_does_29 (by decide) ?_
    exact hret (ptA r (nI ((y.2.1))) (nI ((y.2.2.1))) (nI ((y.2.2.2.1))) (nI ((y.2.2.2.2)))) (RG (u1 G 210 f) 0 (ptR r (nI ((y.2.1))) (nI ((y.2.2.1))) (nI ((y.2.2.2.1))) (nI ((y.2.2.2.2))))) _ _ 64 _ (⟨(u1 G 210 f) 213, (u1 G 210 f) 214, by unfold dsA; rw [if_pos y1], by unfold dsR; rw [if_pos y1, u1_self, u1_self]⟩) h dX8_does_64
  · refine lv_aload_n hx hb dX8_does_0 rfl (lv_at hl 0 rfl) ?_
    refine fg_X8_149 X h dX8_does_1 ?_
    refine lv_as (y := (u1 G 210 f) 210 10) (RG_get (by decide)) ?_
    refine lv_as (y := nI 121) ((congrFun (u1_s G 210 f) 10).trans (y10)) ?_
    refine lv_bipush (v := nI 112) hx hb dX8_does_4 (by decide) ?_
    refine lv_icmp_ne (tgt := 32) hx hb dX8_does_6 (by decide) (fun c_6 => ?_) (fun c_6 => absurd c_6 (by decide))
    refine lv_aload_n hx hb dX8_does_32 rfl (lv_at hl 0 rfl) ?_
    refine fg_X8_149 X h dX8_does_33 ?_
    refine lv_as (y := (u1 G 210 f) 210 10) (RG_get (by decide)) ?_
    refine lv_as (y := nI 121) ((congrFun (u1_s G 210 f) 10).trans (y10)) ?_
    refine lv_bipush (v := nI 121) hx hb dX8_does_36 (by decide) ?_
    refine lv_icmp_ne (tgt := 56) hx hb dX8_does_38 (by decide) (fun c_38 => absurd (by decide) c_38) (fun c_38 => ?_)
    refine lv_aload_n hx hb dX8_does_41 rfl (lv_at hl 0 rfl) ?_
    refine lv_aload_n hx hb dX8_does_42 rfl (lv_at hl 0 rfl) ?_
    refine fg_X8_134 X h dX8_does_43 ?_
    refine lv_as (y := (u1 G 210 f) 210 11) (RG_get (by decide)) ?_
    refine lv_as (y := nI ((y.2.1))) ((congrFun (u1_s G 210 f) 11).trans (y11)) ?_
    refine lv_aload_n hx hb dX8_does_46 rfl (lv_at hl 0 rfl) ?_
    refine fg_X8_140 X h dX8_does_47 ?_
    refine lv_as (y := (u1 G 210 f) 210 12) (RG_get (by decide)) ?_
    refine lv_as (y := nI ((y.2.2.1))) ((congrFun (u1_s G 210 f) 12).trans (y12)) ?_
    refine rg_civd (As := [.int (nI ((y.2.1))), .int (nI ((y.2.2.1)))]) (rest := []) X hl.1 h (c_X8_seconds l J z ad (u1 G 210 f) r hW (nI ((y.2.1))) (nI ((y.2.2.1)))) mw_283 mw_284 mw_285 mw_5 mw_286 pdX8_seconds (by decide) (xo_210 J ad _) rfl rfl ⟨Nat.le_of_ble_eq_true rfl, Nat.le_of_ble_eq_true rfl⟩ ⟨Nat.le_of_ble_eq_true rfl, Nat.le_of_ble_eq_true rfl⟩ rfl (Nat.le_of_ble_eq_true rfl) dX8_does_50 (fun H locs h => ?_)
    refine lv_goto (tgt := 64) hx hb dX8_does_53 (by decide) ?_
    exact hret (scA r (nI ((y.2.1))) (nI ((y.2.2.1)))) (RG (u1 G 210 f) 0 (scR r (nI ((y.2.1))) (nI ((y.2.2.1))))) _ _ 64 _ (⟨(u1 G 210 f) 213, (u1 G 210 f) 214, by unfold dsA; rw [if_neg (by omega), if_pos y1], by unfold dsR; rw [if_neg (by omega), if_pos y1, u1_self, u1_self]⟩) h dX8_does_64
  · refine lv_aload_n hx hb dX8_does_0 rfl (lv_at hl 0 rfl) ?_
    refine fg_X8_149 X h dX8_does_1 ?_
    refine lv_as (y := (u1 G 210 f) 210 10) (RG_get (by decide)) ?_
    refine lv_as (y := nI 46) ((congrFun (u1_s G 210 f) 10).trans (y10)) ?_
    refine lv_bipush (v := nI 112) hx hb dX8_does_4 (by decide) ?_
    refine lv_icmp_ne (tgt := 32) hx hb dX8_does_6 (by decide) (fun c_6 => ?_) (fun c_6 => absurd c_6 (by decide))
    refine lv_aload_n hx hb dX8_does_32 rfl (lv_at hl 0 rfl) ?_
    refine fg_X8_149 X h dX8_does_33 ?_
    refine lv_as (y := (u1 G 210 f) 210 10) (RG_get (by decide)) ?_
    refine lv_as (y := nI 46) ((congrFun (u1_s G 210 f) 10).trans (y10)) ?_
    refine lv_bipush (v := nI 121) hx hb dX8_does_36 (by decide) ?_
    refine lv_icmp_ne (tgt := 56) hx hb dX8_does_38 (by decide) (fun c_38 => ?_) (fun c_38 => absurd c_38 (by decide))
    refine lv_aload_n hx hb dX8_does_56 rfl (lv_at hl 0 rfl) ?_
    refine lv_aload_n hx hb dX8_does_57 rfl (lv_at hl 0 rfl) ?_
    refine fg_X8_134 X h dX8_does_58 ?_
    refine lv_as (y := (u1 G 210 f) 210 11) (RG_get (by decide)) ?_
    refine lv_as (y := nI ((y.2.1))) ((congrFun (u1_s G 210 f) 11).trans (y11)) ?_
    refine rg_civ (As := [.int (nI ((y.2.1)))]) (rest := []) X hl.1 h (c_X8_ends l J z ad (u1 G 210 f) r hW (nI ((y.2.1)))) mw_365 mw_366 mw_367 mw_5 mw_368 pdX8_ends (by decide) (xo_210 J ad _) rfl rfl ⟨Nat.le_of_ble_eq_true rfl, Nat.le_of_ble_eq_true rfl⟩ ⟨Nat.le_of_ble_eq_true rfl, Nat.le_of_ble_eq_true rfl⟩ rfl (Nat.le_of_ble_eq_true rfl) dX8_does_61 (fun r1 G1 H locs q1 h => ?_)
    obtain ⟨og, g, rfl, rfl⟩ := q1
    exact hret (edA r (nI ((y.2.1)))) _ _ _ 64 _ (⟨og, g, by unfold dsA; rw [if_neg (by omega), if_neg (by omega)], by unfold dsR; rw [if_neg (by omega), if_neg (by omega)]⟩) h dX8_does_64
