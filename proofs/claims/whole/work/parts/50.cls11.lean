/-! THE TEXT of the class -/
noncomputable def dgA (t : Nat → Int32) (n p : Nat) : Int32 := cif (isD t n p) (nI (dv t p)) (-1)
def opM (o : Option Nat) : Int32 := match o with
  | none => (-1)
  | some v => nI v
theorem m1_lt {a : Nat} (h : a < 2 ^ 31) : (-1 : Int32) < nI a := by
  rw [i32_lt, nI_toInt h]
  have : (-1 : Int32).toInt = -1 := by decide
  omega
noncomputable def knd (t : Nat → Int32) (n p : Nat) : Option Nat × Nat := cif (isC t n p 43) (some 1, p + 1) (cif (isC t n p 45) (some 0, p + 1) (cif (isC t n p 120) (some 2, p + 1) (none, p)))
theorem thK_knd {t : Nat → Int32} {n d x g p : Nat} : thK t n d x g p = ((knd t n p).1.map (fun k => ((0, d, x, g, k) : TH)), (knd t n p).2) := by
  unfold thK knd
  rcases Classical.em (isC t n p 43) with c | c
  · rw [cif_t c, cif_t c]; rfl
  · rw [cif_f c, cif_f c]
    rcases Classical.em (isC t n p 45) with c | c
    · rw [cif_t c, cif_t c]; rfl
    · rw [cif_f c, cif_f c]
      rcases Classical.em (isC t n p 120) with c | c
      · rw [cif_t c, cif_t c]; rfl
      · rw [cif_f c, cif_f c]; rfl
theorem knd_ok {t : Nat → Int32} {n p p2 : Nat} {o : Option Nat} (h : knd t n p = (o, p2)) (hp : p ≤ n) : p ≤ p2 ∧ p2 ≤ n ∧ ∀ k, o = some k → k ≤ 2 := by
  unfold knd at h
  rcases Classical.em (isC t n p 43) with c | c
  · rw [cif_t c] at h; cases h; exact ⟨by omega, c.1, fun k e => by cases e; omega⟩
  · rw [cif_f c] at h
    rcases Classical.em (isC t n p 45) with c | c
    · rw [cif_t c] at h; cases h; exact ⟨by omega, c.1, fun k e => by cases e; omega⟩
    · rw [cif_f c] at h
      rcases Classical.em (isC t n p 120) with c | c
      · rw [cif_t c] at h; cases h; exact ⟨by omega, c.1, fun k e => by cases e; omega⟩
      · rw [cif_f c] at h; cases h; exact ⟨by omega, hp, fun k e => by cases e⟩
set_option maxHeartbeats 4000000 in
set_option maxRecDepth 100000 in
theorem c_X2_append (l : Launch) (J : JJ) (z : Nat) (ad : Nat → Nat) (G : GG) (n : Nat) (hn : G 203 1 = nI n) (hn60 : n ≤ 60) (x : Int32) (hxc : vp_nar .char x = x) : MI l J z ad yX2_append cX2_append 2 .int 0 [.ref (ad 203), .int x] G (fun ans uG => ans = (if n = 60 then (-3) else nI (n + 1)) ∧ uG = (if n = 60 then G else u1 (u1 G 204 (upd (G 204) n x)) 203 (upd (G 203) 1 (nI (n + 1))))) := by
  refine MI.go (by decide) (Nat.le_of_ble_eq_true rfl) ?_
  intro pr e s m args below meth c ls Q X h hl hret
  have hx := X.1
  have hb := X.2.1
  have hown := X.2.2.2.1
  have hts := X.2.2.2.2
  have hl : lv_has ls 2 [(0, .ref (ad 203)), (1, .int x)] := hl
  refine lv_aload_n hx hb dX2_append_0 rfl (lv_at hl 0 rfl) ?_
  refine fg_X2_31 X h dX2_append_1 ?_
  refine lv_as (y := nI n) (hn) ?_
  refine lv_bipush (v := nI 60) hx hb dX2_append_4 (by decide) ?_
  refine lv_icmp_lt (tgt := 12) hx hb dX2_append_6 (by decide) (fun c_6 => ?_) (fun c_6 => ?_)
  · rw [nI_ltI (by omega) (by omega)] at c_6
    refine lv_aload_n hx hb dX2_append_12 rfl (lv_at hl 0 rfl) ?_
    refine fg_X2_9 X h dX2_append_13 ?_
    refine lv_aload_n hx hb dX2_append_16 rfl (lv_at hl 0 rfl) ?_
    refine fg_X2_31 X h dX2_append_17 ?_
    refine lv_as (y := nI n) (hn) ?_
    refine lv_iload_n hx hb dX2_append_20 rfl (lv_at hl 1 rfl) ?_
    refine rg_cst X h 204 (by decide) (xa_204 J ad) (n) rfl (by omega) (by decide) dX2_append_21 (fun H locs h => ?_)
    rw [hxc] at h
    refine lv_aload_n hx hb dX2_append_22 rfl (lv_at hl 0 rfl) ?_
    refine lv_dup hx hb dX2_append_23 rfl ?_
    refine fg_X2_31 X h dX2_append_24 ?_
    refine lv_as (y := nI n) (by rw [u1_n (by decide)]; exact hn) ?_
    refine lv_iconst (v := nI 1) hx hb dX2_append_27 (by decide) ?_
    refine lv_iadd hx hb dX2_append_28 ?_
    refine lv_as (y := nI (n + 1)) (nI_addc (by omega)) ?_
    refine fp_X2_31 X h dX2_append_29 (fun H locs h => ?_)
    refine lv_aload_n hx hb dX2_append_32 rfl (lv_at hl 0 rfl) ?_
    refine fg_X2_31 X h dX2_append_33 ?_
    refine lv_as (y := nI (n + 1)) (by rw [u1_s, upd_s]) ?_
    exact hret (nI (n + 1)) (u1 (u1 G 204 (upd (G 204) n x)) 203 (upd ((u1 G 204 (upd (G 204) n x)) 203) 1 (nI (n + 1)))) _ _ 36 _ (⟨by rw [if_neg (by omega)], by rw [if_neg (by omega), u1_n (show (203 : Nat) ≠ 204 by decide)]⟩) h dX2_append_36
  · rw [nI_ltI (by omega) (by omega)] at c_6
    refine lv_bipush (v := (-3)) hx hb dX2_append_9 (by decide) ?_
    exact hret (-3) G _ _ 11 _ (⟨by rw [if_pos (by omega)], by rw [if_pos (by omega)]⟩) h dX2_append_11
set_option maxHeartbeats 4000000 in
set_option maxRecDepth 100000 in
theorem c_X2_empty (l : Launch) (J : JJ) (z : Nat) (ad : Nat → Nat) (G : GG)  : MI l J z ad yX2_empty cX2_empty 2 .int 0 [.ref (ad 203)] G (fun ans uG => ans = (G 203 1) ∧ uG = (u1 G 203 (upd (G 203) 1 (nI 0)))) := by
  refine MI.go (by decide) (Nat.le_of_ble_eq_true rfl) ?_
  intro pr e s m args below meth c ls Q X h hl hret
  have hx := X.1
  have hb := X.2.1
  have hown := X.2.2.2.1
  have hts := X.2.2.2.2
  have hl : lv_has ls 2 [(0, .ref (ad 203))] := hl
  refine lv_aload_n hx hb dX2_empty_0 rfl (lv_at hl 0 rfl) ?_
  refine fg_X2_31 X h dX2_empty_1 ?_
  refine lv_istore_n (lv' := [(1, .int (G 203 1)), (0, .ref (ad 203))]) hx hb dX2_empty_4 rfl hl (by decide) rfl (fun ls hl => ?_)
  refine lv_aload_n hx hb dX2_empty_5 rfl (lv_at hl 1 rfl) ?_
  refine lv_iconst (v := nI 0) hx hb dX2_empty_6 (by decide) ?_
  refine fp_X2_31 X h dX2_empty_7 (fun H locs h => ?_)
  refine lv_iload_n hx hb dX2_empty_10 rfl (lv_at hl 0 rfl) ?_
  exact hret (G 203 1) (u1 G 203 (upd (G 203) 1 (nI 0))) _ _ 11 _ (⟨rfl, rfl⟩) h dX2_empty_11
set_option maxHeartbeats 4000000 in
set_option maxRecDepth 100000 in
theorem c_X2_digitHere (l : Launch) (J : JJ) (z : Nat) (ad : Nat → Nat) (G : GG) (t : Nat → Int32) (ht : G 204 = t) (f : Nat → Int32) (n q : Nat) (hn : f 1 = nI n) (hn60 : n ≤ 60) (hq : f 2 = nI q) (hqn : q ≤ n)  : MI l J z ad yX2_digitHere cX2_digitHere 1 .int 0 [.ref (ad 203)] (u1 G 203 f) (fun ans uG => ans = (dgA t n q) ∧ uG = (u1 G 203 f)) := by
  refine MI.go (by decide) (Nat.le_of_ble_eq_true rfl) ?_
  intro pr e s m args below meth c ls Q X h hl hret
  have hx := X.1
  have hb := X.2.1
  have hown := X.2.2.2.1
  have hts := X.2.2.2.2
  have hl : lv_has ls 1 [(0, .ref (ad 203))] := hl
  refine lv_aload_n hx hb dX2_digitHere_0 rfl (lv_at hl 0 rfl) ?_
  refine fg_X2_35 X h dX2_digitHere_1 ?_
  refine lv_as (y := nI q) ((congrFun (u1_s G 203 f) 2).trans (hq)) ?_
  refine lv_aload_n hx hb dX2_digitHere_4 rfl (lv_at hl 0 rfl) ?_
  refine fg_X2_31 X h dX2_digitHere_5 ?_
  refine lv_as (y := nI n) ((congrFun (u1_s G 203 f) 1).trans (hn)) ?_
  refine lv_icmp_ge (tgt := 39) hx hb dX2_digitHere_8 (by decide) (fun c_8 => ?_) (fun c_8 => ?_)
  · rw [nI_leI (by omega) (by omega)] at c_8
    refine lv_iconst (v := (-1)) hx hb dX2_digitHere_39 (by decide) ?_
    exact hret (-1) (u1 G 203 f) _ _ 40 _ (⟨(cif_f (fun k => by have k1 := k.1; have k2 := (inN_iff (by omega) (by omega)).mpr k.2; first | omega | exact Int32.not_lt.mpr k2.1 c_22 | exact c_36 k2.2)).symm, rfl⟩) h dX2_digitHere_40
  · rw [nI_leI (by omega) (by omega)] at c_8
    refine lv_aload_n hx hb dX2_digitHere_11 rfl (lv_at hl 0 rfl) ?_
    refine fg_X2_9 X h dX2_digitHere_12 ?_
    refine lv_aload_n hx hb dX2_digitHere_15 rfl (lv_at hl 0 rfl) ?_
    refine fg_X2_35 X h dX2_digitHere_16 ?_
    refine lv_as (y := nI q) ((congrFun (u1_s G 203 f) 2).trans (hq)) ?_
    refine rg_cld X h 204 (by decide) (xa_204 J ad) (q) rfl (by omega) (by decide) dX2_digitHere_19 ?_
    refine lv_as (y := G 204 q) (congrFun (u1_n (by decide)) _) ?_
    refine lv_as (y := t q) (congrFun ht _) ?_
    refine lv_bipush (v := nI 48) hx hb dX2_digitHere_20 (by decide) ?_
    refine lv_icmp_lt (tgt := 39) hx hb dX2_digitHere_22 (by decide) (fun c_22 => ?_) (fun c_22 => ?_)
    · refine lv_iconst (v := (-1)) hx hb dX2_digitHere_39 (by decide) ?_
      exact hret (-1) (u1 G 203 f) _ _ 40 _ (⟨(cif_f (fun k => by have k1 := k.1; have k2 := (inN_iff (by omega) (by omega)).mpr k.2; first | omega | exact Int32.not_lt.mpr k2.1 c_22 | exact c_36 k2.2)).symm, rfl⟩) h dX2_digitHere_40
    · refine lv_aload_n hx hb dX2_digitHere_25 rfl (lv_at hl 0 rfl) ?_
      refine fg_X2_9 X h dX2_digitHere_26 ?_
      refine lv_aload_n hx hb dX2_digitHere_29 rfl (lv_at hl 0 rfl) ?_
      refine fg_X2_35 X h dX2_digitHere_30 ?_
      refine lv_as (y := nI q) ((congrFun (u1_s G 203 f) 2).trans (hq)) ?_
      refine rg_cld X h 204 (by decide) (xa_204 J ad) (q) rfl (by omega) (by decide) dX2_digitHere_33 ?_
      refine lv_as (y := G 204 q) (congrFun (u1_n (by decide)) _) ?_
      refine lv_as (y := t q) (congrFun ht _) ?_
      refine lv_bipush (v := nI 57) hx hb dX2_digitHere_34 (by decide) ?_
      refine lv_icmp_le (tgt := 41) hx hb dX2_digitHere_36 (by decide) (fun c_36 => ?_) (fun c_36 => ?_)
      · have hD : isD t n q := ⟨by omega, (inN_iff (by omega) (by omega)).mp ⟨Int32.not_lt.mp c_22, c_36⟩⟩
        refine lv_aload_n hx hb dX2_digitHere_41 rfl (lv_at hl 0 rfl) ?_
        refine fg_X2_9 X h dX2_digitHere_42 ?_
        refine lv_aload_n hx hb dX2_digitHere_45 rfl (lv_at hl 0 rfl) ?_
        refine fg_X2_35 X h dX2_digitHere_46 ?_
        refine lv_as (y := nI q) ((congrFun (u1_s G 203 f) 2).trans (hq)) ?_
        refine rg_cld X h 204 (by decide) (xa_204 J ad) (q) rfl (by omega) (by decide) dX2_digitHere_49 ?_
        refine lv_as (y := G 204 q) (congrFun (u1_n (by decide)) _) ?_
        refine lv_as (y := nI ((dv t q) + 48)) ((congrFun ht _).trans (isD_v hD).1) ?_
        refine lv_bipush (v := nI 48) hx hb dX2_digitHere_50 (by decide) ?_
        refine lv_isub hx hb dX2_digitHere_52 ?_
        refine lv_as (y := nI ((dv t q))) (nI_subc (by omega)) ?_
        exact hret (nI ((dv t q))) (u1 G 203 f) _ _ 53 _ (⟨(cif_t hD).symm, rfl⟩) h dX2_digitHere_53
      · refine lv_iconst (v := (-1)) hx hb dX2_digitHere_39 (by decide) ?_
        exact hret (-1) (u1 G 203 f) _ _ 40 _ (⟨(cif_f (fun k => by have k1 := k.1; have k2 := (inN_iff (by omega) (by omega)).mpr k.2; first | omega | exact Int32.not_lt.mpr k2.1 c_22 | exact c_36 k2.2)).symm, rfl⟩) h dX2_digitHere_40
set_option maxHeartbeats 4000000 in
set_option maxRecDepth 100000 in
theorem c_X2_skip (l : Launch) (J : JJ) (z : Nat) (ad : Nat → Nat) (G : GG) (t : Nat → Int32) (ht : G 204 = t) (f : Nat → Int32) (n q : Nat) (hn : f 1 = nI n) (hn60 : n ≤ 60) (hq : f 2 = nI q) (hqn : q ≤ n) (ch : Nat) (hc : ch < 2 ^ 31) : MI l J z ad yX2_skip cX2_skip 2 .boolean 0 [.ref (ad 203), .int (nI ch)] (u1 G 203 f) (fun ans uG => ans = (b2 (isC t n q ch)) ∧ uG = (u1 G 203 (upd f 2 (nI (tkP t n q ch))))) := by
  refine MZ.go (by decide) (Nat.le_of_ble_eq_true rfl) ?_
  intro pr e s m args below meth c ls Q X h hl hret
  have hx := X.1
  have hb := X.2.1
  have hown := X.2.2.2.1
  have hts := X.2.2.2.2
  have hl : lv_has ls 2 [(0, .ref (ad 203)), (1, .int (nI ch))] := hl
  refine lv_aload_n hx hb dX2_skip_0 rfl (lv_at hl 0 rfl) ?_
  refine fg_X2_35 X h dX2_skip_1 ?_
  refine lv_as (y := nI q) ((congrFun (u1_s G 203 f) 2).trans (hq)) ?_
  refine lv_aload_n hx hb dX2_skip_4 rfl (lv_at hl 0 rfl) ?_
  refine fg_X2_31 X h dX2_skip_5 ?_
  refine lv_as (y := nI n) ((congrFun (u1_s G 203 f) 1).trans (hn)) ?_
  refine lv_icmp_ge (tgt := 24) hx hb dX2_skip_8 (by decide) (fun c_8 => ?_) (fun c_8 => ?_)
  · rw [nI_leI (by omega) (by omega)] at c_8
    refine lv_iconst (v := nI 0) hx hb dX2_skip_24 (by decide) ?_
    exact hret (nI 0) (u1 G 203 f) _ _ 25 _ (⟨(b2_f (fun k => by have k1 := k.1; first | exact c_21 k.2 | omega)).symm, by rw [show tkP t n q ch = q from cif_f (fun k => by have k1 := k.1; first | exact c_21 k.2 | omega), ← hq, upd_self]⟩) h rfl dX2_skip_25
  · rw [nI_leI (by omega) (by omega)] at c_8
    refine lv_aload_n hx hb dX2_skip_11 rfl (lv_at hl 0 rfl) ?_
    refine fg_X2_9 X h dX2_skip_12 ?_
    refine lv_aload_n hx hb dX2_skip_15 rfl (lv_at hl 0 rfl) ?_
    refine fg_X2_35 X h dX2_skip_16 ?_
    refine lv_as (y := nI q) ((congrFun (u1_s G 203 f) 2).trans (hq)) ?_
    refine rg_cld X h 204 (by decide) (xa_204 J ad) (q) rfl (by omega) (by decide) dX2_skip_19 ?_
    refine lv_as (y := G 204 q) (congrFun (u1_n (by decide)) _) ?_
    refine lv_as (y := t q) (congrFun ht _) ?_
    refine lv_iload_n hx hb dX2_skip_20 rfl (lv_at hl 1 rfl) ?_
    refine lv_icmp_eq (tgt := 26) hx hb dX2_skip_21 (by decide) (fun c_21 => ?_) (fun c_21 => ?_)
    · refine lv_aload_n hx hb dX2_skip_26 rfl (lv_at hl 0 rfl) ?_
      refine lv_dup hx hb dX2_skip_27 rfl ?_
      refine fg_X2_35 X h dX2_skip_28 ?_
      refine lv_as (y := nI q) ((congrFun (u1_s G 203 f) 2).trans (hq)) ?_
      refine lv_iconst (v := nI 1) hx hb dX2_skip_31 (by decide) ?_
      refine lv_iadd hx hb dX2_skip_32 ?_
      refine lv_as (y := nI (q + 1)) (nI_addc (by omega)) ?_
      refine fp_X2_35 X h dX2_skip_33 (fun H locs h => ?_)
      rw [u1_uu] at h
      refine lv_iconst (v := nI 1) hx hb dX2_skip_36 (by decide) ?_
      exact hret (nI 1) (u1 G 203 (upd f 2 (nI (q + 1)))) _ _ 37 _ (⟨(b2_t ⟨by omega, c_21⟩).symm, by rw [show tkP t n q ch = q + 1 from cif_t ⟨by omega, c_21⟩]⟩) h rfl dX2_skip_37
    · refine lv_iconst (v := nI 0) hx hb dX2_skip_24 (by decide) ?_
      exact hret (nI 0) (u1 G 203 f) _ _ 25 _ (⟨(b2_f (fun k => by have k1 := k.1; first | exact c_21 k.2 | omega)).symm, by rw [show tkP t n q ch = q from cif_f (fun k => by have k1 := k.1; first | exact c_21 k.2 | omega), ← hq, upd_self]⟩) h rfl dX2_skip_25
theorem c_X2_skip_t (l : Launch) (J : JJ) (z : Nat) (ad : Nat → Nat) (G : GG) (t : Nat → Int32) (ht : G 204 = t) (f : Nat → Int32) (n q : Nat) (hn : f 1 = nI n) (hn60 : n ≤ 60) (hq : f 2 = nI q) (hqn : q ≤ n) (ch : Nat) (hc : ch < 2 ^ 31) (hC : isC t n q ch) : MI l J z ad yX2_skip cX2_skip 2 .boolean 0 [.ref (ad 203), .int (nI ch)] (u1 G 203 f) (fun ans uG => ans = (nI 1) ∧ uG = (u1 G 203 (upd f 2 (nI (q + 1))))) := by
  have := c_X2_skip l J z ad G t ht f n q hn hn60 hq hqn ch hc
  rw [b2_t hC, show tkP t n q ch = q + 1 from cif_t hC] at this
  exact this
theorem c_X2_skip_f (l : Launch) (J : JJ) (z : Nat) (ad : Nat → Nat) (G : GG) (t : Nat → Int32) (ht : G 204 = t) (f : Nat → Int32) (n q : Nat) (hn : f 1 = nI n) (hn60 : n ≤ 60) (hq : f 2 = nI q) (hqn : q ≤ n) (ch : Nat) (hc : ch < 2 ^ 31) (hC : ¬ isC t n q ch) : MI l J z ad yX2_skip cX2_skip 2 .boolean 0 [.ref (ad 203), .int (nI ch)] (u1 G 203 f) (fun ans uG => ans = (nI 0) ∧ uG = (u1 G 203 (upd f 2 (nI q)))) := by
  have := c_X2_skip l J z ad G t ht f n q hn hn60 hq hqn ch hc
  rw [b2_f hC, show tkP t n q ch = q from cif_f hC] at this
  exact this
set_option maxHeartbeats 4000000 in
set_option maxRecDepth 100000 in
theorem c_X2_readKind (l : Launch) (J : JJ) (z : Nat) (ad : Nat → Nat) (G : GG) (t : Nat → Int32) (ht : G 204 = t) (f : Nat → Int32) (n q : Nat) (hn : f 1 = nI n) (hn60 : n ≤ 60) (hq : f 2 = nI q) (hqn : q ≤ n) (o : Option Nat) (q2 : Nat) (hK : knd t n q = (o, q2)) : MI l J z ad yX2_readKind cX2_readKind 1 .int 1 [.ref (ad 203)] (u1 G 203 f) (fun ans uG => ans = (opM o) ∧ uG = (u1 G 203 (upd f 2 (nI q2)))) := by
  refine MI.go (by decide) (Nat.le_of_ble_eq_true rfl) ?_
  intro pr e s m args below meth c ls Q X h hl hret
  have hx := X.1
  have hb := X.2.1
  have hown := X.2.2.2.1
  have hts := X.2.2.2.2
  have hl : lv_has ls 1 [(0, .ref (ad 203))] := hl
  refine lv_aload_n hx hb dX2_readKind_0 rfl (lv_at hl 0 rfl) ?_
  refine lv_bipush (v := nI 43) hx hb dX2_readKind_1 (by decide) ?_
  rcases Classical.em (isC t n q 43) with hC_3 | hC_3
  · have hL_3 := hC_3.1
    refine rg_civd (As := [.int (nI 43)]) (rest := []) X hl.1 h (c_X2_skip_t l J z ad G t ht f n q hn hn60 hq (by omega) 43 (by omega) hC_3) mw_463 mw_464 mw_465 mw_25 mw_466 pdX2_skip (by decide) (xo_203 J ad _) rfl rfl ⟨Nat.le_of_ble_eq_true rfl, Nat.le_of_ble_eq_true rfl⟩ ⟨Nat.le_of_ble_eq_true rfl, Nat.le_of_ble_eq_true rfl⟩ rfl (Nat.le_of_ble_eq_true rfl) dX2_readKind_3 (fun H locs h => ?_)
    refine lv_if_eq (tgt := 11) hx hb dX2_readKind_6 (by decide) (fun c_6 => absurd c_6 (by decide)) (fun c_6 => ?_)
    refine lv_iconst (v := nI 1) hx hb dX2_readKind_9 (by decide) ?_
    have e : knd t n q = (some 1, q + 1) := by
      simp only [knd, cif_t hC_3]
    rw [e] at hK
    cases hK
    exact hret (nI 1) (u1 G 203 (upd f 2 (nI (q + 1)))) _ _ 10 _ (⟨rfl, by first | rfl | simp only [upd_u]⟩) h dX2_readKind_10
  · refine rg_civd (As := [.int (nI 43)]) (rest := []) X hl.1 h (c_X2_skip_f l J z ad G t ht f n q hn hn60 hq (by omega) 43 (by omega) hC_3) mw_463 mw_464 mw_465 mw_25 mw_466 pdX2_skip (by decide) (xo_203 J ad _) rfl rfl ⟨Nat.le_of_ble_eq_true rfl, Nat.le_of_ble_eq_true rfl⟩ ⟨Nat.le_of_ble_eq_true rfl, Nat.le_of_ble_eq_true rfl⟩ rfl (Nat.le_of_ble_eq_true rfl) dX2_readKind_3 (fun H locs h => ?_)
    refine lv_if_eq (tgt := 11) hx hb dX2_readKind_6 (by decide) (fun c_6 => ?_) (fun c_6 => absurd (by decide) c_6)
    refine lv_aload_n hx hb dX2_readKind_11 rfl (lv_at hl 0 rfl) ?_
    refine lv_bipush (v := nI 45) hx hb dX2_readKind_12 (by decide) ?_
    rcases Classical.em (isC t n q 45) with hC_14 | hC_14
    · have hL_14 := hC_14.1
      refine rg_civd (As := [.int (nI 45)]) (rest := []) X hl.1 h (c_X2_skip_t l J z ad G t ht (upd f 2 (nI q)) n q (by rw [upd_n (by decide)]; exact hn) hn60 (by rw [upd_s]) (by omega) 45 (by omega) hC_14) mw_463 mw_464 mw_465 mw_25 mw_466 pdX2_skip (by decide) (xo_203 J ad _) rfl rfl ⟨Nat.le_of_ble_eq_true rfl, Nat.le_of_ble_eq_true rfl⟩ ⟨Nat.le_of_ble_eq_true rfl, Nat.le_of_ble_eq_true rfl⟩ rfl (Nat.le_of_ble_eq_true rfl) dX2_readKind_14 (fun H locs h => ?_)
      refine lv_if_eq (tgt := 22) hx hb dX2_readKind_17 (by decide) (fun c_17 => absurd c_17 (by decide)) (fun c_17 => ?_)
      refine lv_iconst (v := nI 0) hx hb dX2_readKind_20 (by decide) ?_
      have e : knd t n q = (some 0, q + 1) := by
        simp only [knd, cif_f hC_3, cif_t hC_14]
      rw [e] at hK
      cases hK
      exact hret (nI 0) (u1 G 203 (upd (upd f 2 (nI q)) 2 (nI (q + 1)))) _ _ 21 _ (⟨rfl, by first | rfl | simp only [upd_u]⟩) h dX2_readKind_21
    · refine rg_civd (As := [.int (nI 45)]) (rest := []) X hl.1 h (c_X2_skip_f l J z ad G t ht (upd f 2 (nI q)) n q (by rw [upd_n (by decide)]; exact hn) hn60 (by rw [upd_s]) (by omega) 45 (by omega) hC_14) mw_463 mw_464 mw_465 mw_25 mw_466 pdX2_skip (by decide) (xo_203 J ad _) rfl rfl ⟨Nat.le_of_ble_eq_true rfl, Nat.le_of_ble_eq_true rfl⟩ ⟨Nat.le_of_ble_eq_true rfl, Nat.le_of_ble_eq_true rfl⟩ rfl (Nat.le_of_ble_eq_true rfl) dX2_readKind_14 (fun H locs h => ?_)
      refine lv_if_eq (tgt := 22) hx hb dX2_readKind_17 (by decide) (fun c_17 => ?_) (fun c_17 => absurd (by decide) c_17)
      refine lv_aload_n hx hb dX2_readKind_22 rfl (lv_at hl 0 rfl) ?_
      refine lv_bipush (v := nI 120) hx hb dX2_readKind_23 (by decide) ?_
      rcases Classical.em (isC t n q 120) with hC_25 | hC_25
      · have hL_25 := hC_25.1
        refine rg_civd (As := [.int (nI 120)]) (rest := []) X hl.1 h (c_X2_skip_t l J z ad G t ht (upd (upd f 2 (nI q)) 2 (nI q)) n q (by rw [upd_n (by decide), upd_n (by decide)]; exact hn) hn60 (by rw [upd_s]) (by omega) 120 (by omega) hC_25) mw_463 mw_464 mw_465 mw_25 mw_466 pdX2_skip (by decide) (xo_203 J ad _) rfl rfl ⟨Nat.le_of_ble_eq_true rfl, Nat.le_of_ble_eq_true rfl⟩ ⟨Nat.le_of_ble_eq_true rfl, Nat.le_of_ble_eq_true rfl⟩ rfl (Nat.le_of_ble_eq_true rfl) dX2_readKind_25 (fun H locs h => ?_)
        refine lv_if_eq (tgt := 35) hx hb dX2_readKind_28 (by decide) (fun c_28 => absurd c_28 (by decide)) (fun c_28 => ?_)
        refine lv_iconst (v := nI 2) hx hb dX2_readKind_31 (by decide) ?_
        refine lv_goto (tgt := 36) hx hb dX2_readKind_32 (by decide) ?_
        have e : knd t n q = (some 2, q + 1) := by
          simp only [knd, cif_f hC_3, cif_f hC_14, cif_t hC_25]
        rw [e] at hK
        cases hK
        exact hret (nI 2) (u1 G 203 (upd (upd (upd f 2 (nI q)) 2 (nI q)) 2 (nI (q + 1)))) _ _ 36 _ (⟨rfl, by first | rfl | simp only [upd_u]⟩) h dX2_readKind_36
      · refine rg_civd (As := [.int (nI 120)]) (rest := []) X hl.1 h (c_X2_skip_f l J z ad G t ht (upd (upd f 2 (nI q)) 2 (nI q)) n q (by rw [upd_n (by decide), upd_n (by decide)]; exact hn) hn60 (by rw [upd_s]) (by omega) 120 (by omega) hC_25) mw_463 mw_464 mw_465 mw_25 mw_466 pdX2_skip (by decide) (xo_203 J ad _) rfl rfl ⟨Nat.le_of_ble_eq_true rfl, Nat.le_of_ble_eq_true rfl⟩ ⟨Nat.le_of_ble_eq_true rfl, Nat.le_of_ble_eq_true rfl⟩ rfl (Nat.le_of_ble_eq_true rfl) dX2_readKind_25 (fun H locs h => ?_)
        refine lv_if_eq (tgt := 35) hx hb dX2_readKind_28 (by decide) (fun c_28 => ?_) (fun c_28 => absurd (by decide) c_28)
        refine lv_iconst (v := (-1)) hx hb dX2_readKind_35 (by decide) ?_
        have e : knd t n q = (none, q) := by
          simp only [knd, cif_f hC_3, cif_f hC_14, cif_f hC_25]
        rw [e] at hK
        cases hK
        exact hret (-1) (u1 G 203 (upd (upd (upd f 2 (nI q)) 2 (nI q)) 2 (nI q))) _ _ 36 _ (⟨rfl, by first | rfl | simp only [upd_u]⟩) h dX2_readKind_36
set_option maxHeartbeats 4000000 in
set_option maxRecDepth 100000 in
theorem c_X2_readNumber (l : Launch) (J : JJ) (z : Nat) (ad : Nat → Nat) (G : GG) (t : Nat → Int32) (ht : G 204 = t) (f : Nat → Int32) (n q : Nat) (hn : f 1 = nI n) (hn60 : n ≤ 60) (hq : f 2 = nI q) (hqn : q ≤ n) (lo gr : Nat) (hls : lo = 0 ∨ lo = 1) (hgr : gr ≤ 99) (o : Option Nat) (q2 : Nat) (hN : num t n q lo gr = (o, q2)) : MI l J z ad yX2_readNumber cX2_readNumber 5 .int 1 [.ref (ad 203), .int (nI lo), .int (nI gr)] (u1 G 203 f) (fun ans uG => ans = (opM o) ∧ uG = (u1 G 203 (upd f 2 (nI q2)))) := by
  refine MI.go (by decide) (Nat.le_of_ble_eq_true rfl) ?_
  intro pr e s m args below meth c ls Q X h hl hret
  have hx := X.1
  have hb := X.2.1
  have hown := X.2.2.2.1
  have hts := X.2.2.2.2
  have hl : lv_has ls 5 [(0, .ref (ad 203)), (1, .int (nI lo)), (2, .int (nI gr))] := hl
  refine lv_aload_n hx hb dX2_readNumber_0 rfl (lv_at hl 0 rfl) ?_
  refine rg_civd (As := []) (rest := []) X hl.1 h (c_X2_digitHere l J z ad G t ht f n q hn hn60 hq (by omega)) mw_475 mw_476 mw_477 mw_25 mw_478 pdX2_digitHere (by decide) (xo_203 J ad _) rfl rfl ⟨Nat.le_of_ble_eq_true rfl, Nat.le_of_ble_eq_true rfl⟩ ⟨Nat.le_of_ble_eq_true rfl, Nat.le_of_ble_eq_true rfl⟩ rfl (Nat.le_of_ble_eq_true rfl) dX2_readNumber_1 (fun H locs h => ?_)
  rcases Classical.em (isD t n q) with hD_1 | hD_1
  · have hd9_1 := (isD_v hD_1).2
    refine lv_as (y := nI (dv t q)) (cif_t hD_1) ?_
    refine lv_istore_n (lv' := [(3, .int (nI ((dv t q)))), (0, .ref (ad 203)), (1, .int (nI lo)), (2, .int (nI gr))]) hx hb dX2_readNumber_4 rfl hl (by decide) rfl (fun ls hl => ?_)
    refine lv_iload_n hx hb dX2_readNumber_5 rfl (lv_at hl 0 rfl) ?_
    refine lv_iload_n hx hb dX2_readNumber_6 rfl (lv_at hl 2 rfl) ?_
    refine lv_icmp_lt (tgt := 15) hx hb dX2_readNumber_7 (by decide) (fun c_7 => ?_) (fun c_7 => ?_)
    · rw [nI_ltI (by omega) (by omega)] at c_7
      refine lv_iconst (v := (-1)) hx hb dX2_readNumber_15 (by decide) ?_
      exact hret (-1) (u1 G 203 f) _ _ 16 _ (⟨by unfold num at hN; rw [cif_f (fun k => by have k1 := k.2.1; have k2 := k.2.2; first | exact hD_1 k.1 | omega)] at hN; rw [show o = none from (congrArg Prod.fst hN).symm]; rfl, by unfold num at hN; rw [cif_f (fun k => by have k1 := k.2.1; have k2 := k.2.2; first | exact hD_1 k.1 | omega)] at hN; rw [show q2 = q from (congrArg Prod.snd hN).symm, ← hq, upd_self]⟩) h dX2_readNumber_16
    · rw [nI_ltI (by omega) (by omega)] at c_7
      refine lv_iload_n hx hb dX2_readNumber_10 rfl (lv_at hl 0 rfl) ?_
      refine lv_iload_n hx hb dX2_readNumber_11 rfl (lv_at hl 3 rfl) ?_
      refine lv_icmp_le (tgt := 17) hx hb dX2_readNumber_12 (by decide) (fun c_12 => ?_) (fun c_12 => ?_)
      · rw [nI_leI (by omega) (by omega)] at c_12
        refine lv_aload_n hx hb dX2_readNumber_17 rfl (lv_at hl 1 rfl) ?_
        refine lv_dup hx hb dX2_readNumber_18 rfl ?_
        refine fg_X2_35 X h dX2_readNumber_19 ?_
        refine lv_as (y := nI q) ((congrFun (u1_s G 203 f) 2).trans (hq)) ?_
        refine lv_iconst (v := nI 1) hx hb dX2_readNumber_22 (by decide) ?_
        refine lv_iadd hx hb dX2_readNumber_23 ?_
        refine lv_as (y := nI (q + 1)) (nI_addc (by omega)) ?_
        refine fp_X2_35 X h dX2_readNumber_24 (fun H locs h => ?_)
        rw [u1_uu] at h
        have hqn2 := hD_1.1
        unfold num at hN
        rw [cif_t ⟨hD_1, by omega, by omega⟩] at hN
        obtain ⟨V, hV⟩ : ∃ V, (nmR t n gr (dv t q) (q + 1)).1 = V := ⟨_, rfl⟩
        obtain rfl : some V = o := by rw [← hV]; exact congrArg Prod.fst hN
        have hR0 : nmR t n gr (dv t q) (q + 1) = (V, q2) := by rw [← hV, ← show (nmR t n gr (dv t q) (q + 1)).2 = q2 from congrArg Prod.snd hN]
        have LP : ∀ (k v p1 : Nat) (f1 : Nat → Int32), n + 1 ≤ p1 + k → v ≤ gr → p1 ≤ n → f1 1 = nI n → f1 2 = nI p1 → (∀ x, upd f1 2 x = upd f 2 x) → nmR t n gr v p1 = (V, q2) → ∀ (H : Heap) (locs : List Loc) (ls : Array Slot), HG J z ad s (u1 G 203 f1) H locs → lv_has ls 5 [(0, .ref (ad 203)), (1, .int (nI lo)), (2, .int (nI gr)), (3, .int (nI v))] → W pr l e (rmD 1 0 0) s m args below meth c H locs 0 0 Q (F0 m 27 ls []) := by
          intro k
          induction k with
          | zero =>
            intro v p1 f1 g1 g2 g3
            exact absurd g1 (by omega)
          | succ k ih =>
            intro v p1 f1 g1 hv hpn hn1 hp1 hf1 hR H locs ls h hl
            refine lv_iload_n hx hb dX2_readNumber_27 rfl (lv_at hl 3 rfl) ?_
            refine lv_if_le (tgt := 87) hx hb dX2_readNumber_28 (by decide) (fun c_28 => ?_) (fun c_28 => ?_)
            · rw [nz_le (by omega)] at c_28
              refine lv_iload_n hx hb dX2_readNumber_87 rfl (lv_at hl 3 rfl) ?_
              have hC2 : ¬ ndC t n gr v p1 := by
                intro k
                have k1 := k.1
                have k3 := k.2.1.1
                have k2 := k.2.2
                first | omega | exact hD_43 k.2.1
              rw [nmR_f hC2] at hR
              exact hret (nI v) (u1 G 203 f1) _ _ 88 _ (⟨by rw [show v = V from congrArg Prod.fst hR]; rfl, by rw [← hf1, ← show p1 = q2 from congrArg Prod.snd hR, ← hp1, upd_self]⟩) h dX2_readNumber_88
            · rw [nz_le (by omega)] at c_28
              refine lv_aload_n hx hb dX2_readNumber_31 rfl (lv_at hl 0 rfl) ?_
              refine fg_X2_35 X h dX2_readNumber_32 ?_
              refine lv_as (y := nI p1) ((congrFun (u1_s G 203 f1) 2).trans (hp1)) ?_
              refine lv_aload_n hx hb dX2_readNumber_35 rfl (lv_at hl 0 rfl) ?_
              refine fg_X2_31 X h dX2_readNumber_36 ?_
              refine lv_as (y := nI n) ((congrFun (u1_s G 203 f1) 1).trans (hn1)) ?_
              refine lv_icmp_ge (tgt := 87) hx hb dX2_readNumber_39 (by decide) (fun c_39 => ?_) (fun c_39 => ?_)
              · rw [nI_leI (by omega) (by omega)] at c_39
                refine lv_iload_n hx hb dX2_readNumber_87 rfl (lv_at hl 3 rfl) ?_
                have hC2 : ¬ ndC t n gr v p1 := by
                  intro k
                  have k1 := k.1
                  have k3 := k.2.1.1
                  have k2 := k.2.2
                  first | omega | exact hD_43 k.2.1
                rw [nmR_f hC2] at hR
                exact hret (nI v) (u1 G 203 f1) _ _ 88 _ (⟨by rw [show v = V from congrArg Prod.fst hR]; rfl, by rw [← hf1, ← show p1 = q2 from congrArg Prod.snd hR, ← hp1, upd_self]⟩) h dX2_readNumber_88
              · rw [nI_leI (by omega) (by omega)] at c_39
                refine lv_aload_n hx hb dX2_readNumber_42 rfl (lv_at hl 0 rfl) ?_
                refine rg_civd (As := []) (rest := []) X hl.1 h (c_X2_digitHere l J z ad G t ht f1 n p1 hn1 hn60 hp1 (by omega)) mw_475 mw_476 mw_477 mw_25 mw_478 pdX2_digitHere (by decide) (xo_203 J ad _) rfl rfl ⟨Nat.le_of_ble_eq_true rfl, Nat.le_of_ble_eq_true rfl⟩ ⟨Nat.le_of_ble_eq_true rfl, Nat.le_of_ble_eq_true rfl⟩ rfl (Nat.le_of_ble_eq_true rfl) dX2_readNumber_43 (fun H locs h => ?_)
                rcases Classical.em (isD t n p1) with hD_43 | hD_43
                · have hd9_43 := (isD_v hD_43).2
                  refine lv_as (y := nI (dv t p1)) (cif_t hD_43) ?_
                  refine lv_istore (lv' := [(4, .int (nI ((dv t p1)))), (0, .ref (ad 203)), (1, .int (nI lo)), (2, .int (nI gr)), (3, .int (nI v))]) hx hb dX2_readNumber_46 hl (by decide) rfl (fun ls hl => ?_)
                  refine lv_iload hx hb dX2_readNumber_48 (lv_at hl 0 rfl) ?_
                  refine lv_if_lt (tgt := 64) hx hb dX2_readNumber_50 (by decide) (fun c_50 => absurd c_50 (nI_pos (by omega))) (fun c_50 => ?_)
                  refine lv_iload_n hx hb dX2_readNumber_53 rfl (lv_at hl 4 rfl) ?_
                  refine lv_bipush (v := nI 10) hx hb dX2_readNumber_54 (by decide) ?_
                  refine lv_imul hx hb dX2_readNumber_56 ?_
                  refine lv_as (y := nI (10 * v)) (nI_mulc (by omega)) ?_
                  refine lv_iload hx hb dX2_readNumber_57 (lv_at hl 0 rfl) ?_
                  refine lv_iadd hx hb dX2_readNumber_59 ?_
                  refine lv_as (y := nI ((dv t p1) + 10 * v)) (nI_addc (by omega)) ?_
                  refine lv_iload_n hx hb dX2_readNumber_60 rfl (lv_at hl 3 rfl) ?_
                  refine lv_icmp_le (tgt := 66) hx hb dX2_readNumber_61 (by decide) (fun c_61 => ?_) (fun c_61 => ?_)
                  · rw [nI_leI (by omega) (by omega)] at c_61
                    refine lv_iload_n hx hb dX2_readNumber_66 rfl (lv_at hl 4 rfl) ?_
                    refine lv_bipush (v := nI 10) hx hb dX2_readNumber_67 (by decide) ?_
                    refine lv_imul hx hb dX2_readNumber_69 ?_
                    refine lv_as (y := nI (10 * v)) (nI_mulc (by omega)) ?_
                    refine lv_iload hx hb dX2_readNumber_70 (lv_at hl 0 rfl) ?_
                    refine lv_iadd hx hb dX2_readNumber_72 ?_
                    refine lv_as (y := nI ((dv t p1) + 10 * v)) (nI_addc (by omega)) ?_
                    refine lv_istore_n (lv' := [(3, .int (nI ((dv t p1) + 10 * v))), (4, .int (nI ((dv t p1)))), (0, .ref (ad 203)), (1, .int (nI lo)), (2, .int (nI gr))]) hx hb dX2_readNumber_73 rfl hl (by decide) rfl (fun ls hl => ?_)
                    refine lv_aload_n hx hb dX2_readNumber_74 rfl (lv_at hl 2 rfl) ?_
                    refine lv_dup hx hb dX2_readNumber_75 rfl ?_
                    refine fg_X2_35 X h dX2_readNumber_76 ?_
                    refine lv_as (y := nI p1) ((congrFun (u1_s G 203 f1) 2).trans (hp1)) ?_
                    refine lv_iconst (v := nI 1) hx hb dX2_readNumber_79 (by decide) ?_
                    refine lv_iadd hx hb dX2_readNumber_80 ?_
                    refine lv_as (y := nI (p1 + 1)) (nI_addc (by omega)) ?_
                    refine fp_X2_35 X h dX2_readNumber_81 (fun H locs h => ?_)
                    rw [u1_uu] at h
                    refine lv_goto (tgt := 27) hx hb dX2_readNumber_84 (by decide) ?_
                    have hC : ndC t n gr v p1 := ⟨by omega, hD_43, by omega⟩
                    rw [nmR_t hC] at hR
                    exact ih ((dv t p1) + 10 * v) (p1 + 1) (upd f1 2 (nI (p1 + 1))) (by omega) (by omega) (by omega) (by rw [upd_n (by decide)]; exact hn1) (by rw [upd_s]) (fun x => by rw [upd_u]; exact hf1 x) hR _ _ _ h (lv_sub hl [2, 3, 4, 0] rfl)
                  · rw [nI_leI (by omega) (by omega)] at c_61
                    refine lv_iload_n hx hb dX2_readNumber_64 rfl (lv_at hl 4 rfl) ?_
                    have hC2 : ¬ ndC t n gr v p1 := by
                      intro k
                      have k1 := k.1
                      have k3 := k.2.1.1
                      have k2 := k.2.2
                      first | omega | exact hD_43 k.2.1
                    rw [nmR_f hC2] at hR
                    exact hret (nI v) (u1 G 203 f1) _ _ 65 _ (⟨by rw [show v = V from congrArg Prod.fst hR]; rfl, by rw [← hf1, ← show p1 = q2 from congrArg Prod.snd hR, ← hp1, upd_self]⟩) h dX2_readNumber_65
                · refine lv_as (y := (-1)) (cif_f hD_43) ?_
                  refine lv_istore (lv' := [(4, .int ((-1))), (0, .ref (ad 203)), (1, .int (nI lo)), (2, .int (nI gr)), (3, .int (nI v))]) hx hb dX2_readNumber_46 hl (by decide) rfl (fun ls hl => ?_)
                  refine lv_iload hx hb dX2_readNumber_48 (lv_at hl 0 rfl) ?_
                  refine lv_if_lt (tgt := 64) hx hb dX2_readNumber_50 (by decide) (fun c_50 => ?_) (fun c_50 => absurd (by decide) c_50)
                  refine lv_iload_n hx hb dX2_readNumber_64 rfl (lv_at hl 4 rfl) ?_
                  have hC2 : ¬ ndC t n gr v p1 := by
                    intro k
                    have k1 := k.1
                    have k3 := k.2.1.1
                    have k2 := k.2.2
                    first | omega | exact hD_43 k.2.1
                  rw [nmR_f hC2] at hR
                  exact hret (nI v) (u1 G 203 f1) _ _ 65 _ (⟨by rw [show v = V from congrArg Prod.fst hR]; rfl, by rw [← hf1, ← show p1 = q2 from congrArg Prod.snd hR, ← hp1, upd_self]⟩) h dX2_readNumber_65
        exact LP (n + 1) (dv t q) (q + 1) (upd f 2 (nI (q + 1))) (by omega) (by omega) (by omega) (by rw [upd_n (by decide)]; exact hn) (by rw [upd_s]) (fun x => by rw [upd_u]) hR0 _ _ _ h (lv_sub hl [1, 2, 3, 0] rfl)
      · rw [nI_leI (by omega) (by omega)] at c_12
        refine lv_iconst (v := (-1)) hx hb dX2_readNumber_15 (by decide) ?_
        exact hret (-1) (u1 G 203 f) _ _ 16 _ (⟨by unfold num at hN; rw [cif_f (fun k => by have k1 := k.2.1; have k2 := k.2.2; first | exact hD_1 k.1 | omega)] at hN; rw [show o = none from (congrArg Prod.fst hN).symm]; rfl, by unfold num at hN; rw [cif_f (fun k => by have k1 := k.2.1; have k2 := k.2.2; first | exact hD_1 k.1 | omega)] at hN; rw [show q2 = q from (congrArg Prod.snd hN).symm, ← hq, upd_self]⟩) h dX2_readNumber_16
  · refine lv_as (y := (-1)) (cif_f hD_1) ?_
    refine lv_istore_n (lv' := [(3, .int ((-1))), (0, .ref (ad 203)), (1, .int (nI lo)), (2, .int (nI gr))]) hx hb dX2_readNumber_4 rfl hl (by decide) rfl (fun ls hl => ?_)
    refine lv_iload_n hx hb dX2_readNumber_5 rfl (lv_at hl 0 rfl) ?_
    refine lv_iload_n hx hb dX2_readNumber_6 rfl (lv_at hl 2 rfl) ?_
    refine lv_icmp_lt (tgt := 15) hx hb dX2_readNumber_7 (by decide) (fun c_7 => ?_) (fun c_7 => absurd (m1_lt (by omega)) c_7)
    refine lv_iconst (v := (-1)) hx hb dX2_readNumber_15 (by decide) ?_
    exact hret (-1) (u1 G 203 f) _ _ 16 _ (⟨by unfold num at hN; rw [cif_f (fun k => by have k1 := k.2.1; have k2 := k.2.2; first | exact hD_1 k.1 | omega)] at hN; rw [show o = none from (congrArg Prod.fst hN).symm]; rfl, by unfold num at hN; rw [cif_f (fun k => by have k1 := k.2.1; have k2 := k.2.2; first | exact hD_1 k.1 | omega)] at hN; rw [show q2 = q from (congrArg Prod.snd hN).symm, ← hq, upd_self]⟩) h dX2_readNumber_16
