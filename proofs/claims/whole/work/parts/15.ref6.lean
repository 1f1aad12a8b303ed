
/-! the acts of the reference on its row 0 -/
noncomputable def cif {α : Type} (P : Prop) (a b : α) : α := @ite _ P (Classical.propDecidable P) a b
theorem cif_t {α : Type} {P : Prop} {a b : α} (h : P) : cif P a b = a := by unfold cif; exact if_pos h
theorem cif_f {α : Type} {P : Prop} {a b : α} (h : ¬ P) : cif P a b = b := by unfold cif; exact if_neg h
noncomputable def cmA (r : Nat → Int32) (x w : Int32) : Int32 := cif (isN x 6) (cif (inN w 1 9) (if kn r = 12 then (-3) else nI (kn r)) (-2)) (-1)
noncomputable def cmR (r : Nat → Int32) (x w : Int32) : Nat → Int32 := cif (isN x 6 ∧ inN w 1 9 ∧ kn r ≠ 12) (upd (upd (upd (upd (upd (upd (upd r (6 * (kn r) + 12) x) (6 * (kn r) + 13) w) (6 * (kn r) + 14) (-5)) (6 * (kn r) + 15) (nI 0)) (6 * (kn r) + 16) (nI 0)) (6 * (kn r) + 17) (nI 0)) 5 (nI (kn r + 1))) r
noncomputable def mvA (r : Nat → Int32) (d x : Int32) : Int32 := cif (isN d (kn r) ∧ isN x 6) (if r (6 * (tn d) + 12) = x then (-5) else r (6 * (tn d) + 12)) (-1)
noncomputable def mvR (r : Nat → Int32) (d x : Int32) : Nat → Int32 := cif (isN d (kn r) ∧ isN x 6) (upd r (6 * (tn d) + 12) x) r
def ptF (r : Nat → Int32) (d x : Int32) : Prop := r (6 * (tn d) + 14) = (-5) ∧ (x = nI 6 ∨ r (6 * (tn d) + 12) = x)
noncomputable def ptA (r : Nat → Int32) (d x g k : Int32) : Int32 := cif (isN d (kn r) ∧ inN x 0 6 ∧ isN g 20) (cif (inN k 0 2) (cif (ptF r d x) (nI (mn r)) (-4)) (-2)) (-1)
noncomputable def ptR (r : Nat → Int32) (d x g k : Int32) : Nat → Int32 := cif ((isN d (kn r) ∧ inN x 0 6 ∧ isN g 20) ∧ inN k 0 2 ∧ ptF r d x) (upd (upd (upd (upd (upd (upd (upd (upd (upd r (5 * (mn r) + 84) d) (5 * (mn r) + 85) x) (5 * (mn r) + 86) g) (5 * (mn r) + 87) k) (5 * (mn r) + 88) (nI 0)) (6 * (tn d) + 14) (nI (mn r))) (6 * (tn d) + 15) (r (6 * (tn d) + 15) + nI 1)) 7 (r 7 + nI 1)) 6 (nI (mn r + 1))) r
def sbit (r : Nat → Int32) (q : Nat) (d : Int32) : Prop := ((r (5 * q + 88) >>> (d &&& 31)) &&& nI 1) = nI 1
noncomputable def scR (r : Nat → Int32) (d q : Int32) : Nat → Int32 := cif ((isN d (kn r) ∧ isN q (mn r)) ∧ r (5 * (tn q) + 84) ≠ d ∧ ¬ sbit r (tn q) d) (upd r (5 * (tn q) + 88) (r (5 * (tn q) + 88) ||| (nI 1 <<< (d &&& 31)))) r
noncomputable def scA (r : Nat → Int32) (d q : Int32) : Int32 := cif (isN d (kn r) ∧ isN q (mn r)) (if r (5 * (tn q) + 84) = d then (-4) else cif (sbit r (tn q) d) (-5) (supp (scR r d q) (tn q))) (-1)
noncomputable def stA (r : Nat → Int32) (x v : Int32) : Int32 := cif (inN x 0 1) (cif (inN v (tn x) 60) (if r (tn x) = v then (-5) else r (tn x)) (-2)) (-1)
noncomputable def stR (r : Nat → Int32) (x v : Int32) : Nat → Int32 := cif (inN x 0 1 ∧ inN v (tn x) 60) (upd r (tn x) v) r
/-- n days end: the row, and how many petitions passed -/
noncomputable def edI (r : Nat → Int32) (n : Nat) : (Nat → Int32) × Nat := itr (fun _ x => (dayR x.1, dayA x.1 + x.2)) (r, 0) n
noncomputable def edA (r : Nat → Int32) (n : Int32) : Int32 := cif (inN n 1 99) (if r 2 + n ≤ nI 99999 then nI (edI r (tn n)).2 else (-3)) (-2)
noncomputable def edR (r : Nat → Int32) (n : Int32) : Nat → Int32 := cif (inN n 1 99 ∧ r 2 + n ≤ nI 99999) (edI r (tn n)).1 r
theorem edI_WR {r : Nat → Int32} (hW : WR r) : ∀ n, WR (edI r n).1 := by
  intro n
  induction n with
  | zero => exact hW
  | succ n ih => exact dayR_WR ih
theorem u4 (G : GG) (a b c d : Nat → Int32) : u1 (u1 (u1 (u1 G 213 a) 214 b) 213 c) 214 d = u1 (u1 G 213 c) 214 d := by
  rw [u1_comm (show (214 : Nat) ≠ 213 by decide), u1_u1, u1_u1]

theorem WRs {r : Nat → Int32} (hW : WR r) {q : Nat} (hq : q < mn r) (v : Int32) : WR (upd r (5 * q + 88) v) := by
  have hW0 := hW
  obtain ⟨⟨w1, w2⟩, ⟨w3, w4⟩, ⟨w5, w6⟩, w7, w8⟩ := hW
  have e1 : kn (upd r (5 * q + 88) v) = kn r := by unfold kn; rw [upd_n (by omega)]
  have e2 : mn (upd r (5 * q + 88) v) = mn r := by unfold mn; rw [upd_n (by omega)]
  have e3 : on (upd r (5 * q + 88) v) = on r := by unfold on; rw [upd_n (by omega)]
  refine ⟨⟨by rw [upd_n (by omega), e1]; exact w1, by omega⟩, ⟨by rw [upd_n (by omega), e2]; exact w3, by omega⟩, ⟨by rw [upd_n (by omega), e3]; exact w5, by omega⟩, fun q2 hq2 => ?_, fun d hd => ?_⟩
  · rw [e2] at hq2
    have a1 : pd (upd r (5 * q + 88) v) q2 = pd r q2 := by unfold pd; rw [upd_n (by omega)]
    have a2 : pc (upd r (5 * q + 88) v) q2 = pc r q2 := by unfold pc; rw [upd_n (by omega)]
    have a3 : pg (upd r (5 * q + 88) v) q2 = pg r q2 := by unfold pg; rw [upd_n (by omega)]
    have a4 : pk (upd r (5 * q + 88) v) q2 = pk r q2 := by unfold pk; rw [upd_n (by omega)]
    rw [a1, a2, a3, a4, e1, upd_n (by omega), upd_n (by omega), upd_n (by omega), upd_n (by omega)]
    exact w7 q2 hq2
  · rw [e1] at hd
    have a1 : dc (upd r (5 * q + 88) v) d = dc r d := by unfold dc; rw [upd_n (by omega)]
    rw [a1, upd_n (by omega)]
    exact w8 d hd
set_option maxHeartbeats 4000000 in
set_option maxRecDepth 100000 in
theorem c_X8_inN (l : Launch) (J : JJ) (z : Nat) (ad : Nat → Nat) (G : GG) (v : Int32) (a b : Nat) (ha : a < 2 ^ 31) (hb2 : b < 2 ^ 31) : MI l J z ad yX8_in cX8_in 3 .boolean 0 [.int v, .int (nI a), .int (nI b)] G (fun ans uG => ans = (b2 (inN v a b)) ∧ uG = (G)) := by
  refine MZ.go (by decide) (Nat.le_of_ble_eq_true rfl) ?_
  intro pr e s m args below meth c ls Q X h hl hret
  have hx := X.1
  have hb := X.2.1
  have hown := X.2.2.2.1
  have hts := X.2.2.2.2
  have hl : lv_has ls 3 [(0, .int v), (1, .int (nI a)), (2, .int (nI b))] := hl
  refine lv_iload_n hx hb dX8_in_0 rfl (lv_at hl 0 rfl) ?_
  refine lv_iload_n hx hb dX8_in_1 rfl (lv_at hl 1 rfl) ?_
  refine lv_icmp_lt (tgt := 14) hx hb dX8_in_2 (by decide) (fun c_2 => ?_) (fun c_2 => ?_)
  · refine lv_iconst (v := nI 0) hx hb dX8_in_14 (by decide) ?_
    exact hret (nI 0) G _ _ 15 _ (⟨(b2_f (fun q => by have q2 := (inN_iff ha hb2).mpr q; first | exact Int32.not_lt.mpr q2.1 c_2 | exact Int32.not_lt.mpr q2.2 c_7)).symm, rfl⟩) h rfl dX8_in_15
  · refine lv_iload_n hx hb dX8_in_5 rfl (lv_at hl 0 rfl) ?_
    refine lv_iload_n hx hb dX8_in_6 rfl (lv_at hl 2 rfl) ?_
    refine lv_icmp_gt (tgt := 14) hx hb dX8_in_7 (by decide) (fun c_7 => ?_) (fun c_7 => ?_)
    · refine lv_iconst (v := nI 0) hx hb dX8_in_14 (by decide) ?_
      exact hret (nI 0) G _ _ 15 _ (⟨(b2_f (fun q => by have q2 := (inN_iff ha hb2).mpr q; first | exact Int32.not_lt.mpr q2.1 c_2 | exact Int32.not_lt.mpr q2.2 c_7)).symm, rfl⟩) h rfl dX8_in_15
    · refine lv_iconst (v := nI 1) hx hb dX8_in_10 (by decide) ?_
      refine lv_goto (tgt := 15) hx hb dX8_in_11 (by decide) ?_
      exact hret (nI 1) G _ _ 15 _ (⟨(b2_t ((inN_iff ha hb2).mp ⟨Int32.not_lt.mp c_2, Int32.not_lt.mp c_7⟩)).symm, rfl⟩) h rfl dX8_in_15
set_option maxHeartbeats 4000000 in
set_option maxRecDepth 100000 in
theorem c_X8_isDrone (l : Launch) (J : JJ) (z : Nat) (ad : Nat → Nat) (G : GG) (r : Nat → Int32) (hrow : rwS (G 211) 0 = r) (hk : r 5 = nI (kn r)) (hk2 : kn r ≤ 12) (x : Int32) : MI l J z ad yX8_isDrone cX8_isDrone 2 .boolean 1 [.ref (ad 210), .int x] G (fun ans uG => ans = (b2 (isN x (kn r))) ∧ uG = (G)) := by
  refine MZ.go (by decide) (Nat.le_of_ble_eq_true rfl) ?_
  intro pr e s m args below meth c ls Q X h hl hret
  have hx := X.1
  have hb := X.2.1
  have hown := X.2.2.2.1
  have hts := X.2.2.2.2
  have hl : lv_has ls 2 [(0, .ref (ad 210)), (1, .int x)] := hl
  refine lv_iload_n hx hb dX8_isDrone_0 rfl (lv_at hl 1 rfl) ?_
  refine lv_iconst (v := nI 0) hx hb dX8_isDrone_1 (by decide) ?_
  refine lv_aload_n hx hb dX8_isDrone_2 rfl (lv_at hl 0 rfl) ?_
  refine fg_X8_7 X h dX8_isDrone_3 ?_
  refine lv_iconst (v := nI 5) hx hb dX8_isDrone_6 (by decide) ?_
  refine rs_ld X h 0 (5) (congrArg nI (by omega)) (by omega) dX8_isDrone_7 ?_
  refine lv_as (y := nI ((kn r))) ((congrFun hrow _).trans (hk)) ?_
  refine lv_iconst (v := nI 1) hx hb dX8_isDrone_8 (by decide) ?_
  refine lv_isub hx hb dX8_isDrone_9 ?_
  refine rg_cisd (As := [.int x, .int (nI 0), .int ((nI ((kn r))) - (nI 1))]) (rest := []) X hl.1 h (c_X8_in l J z ad G x (nI 0) ((nI ((kn r))) - (nI 1))) mw_187 mw_188 mw_5 mw_189 pdX8_in ⟨Nat.le_of_ble_eq_true rfl, Nat.le_of_ble_eq_true rfl⟩ ⟨Nat.le_of_ble_eq_true rfl, Nat.le_of_ble_eq_true rfl⟩ rfl (Nat.le_of_ble_eq_true rfl) dX8_isDrone_10 (fun H locs h => ?_)
  exact hret (b2 (nI 0 ≤ x ∧ x ≤ (nI ((kn r))) - (nI 1))) G _ _ 13 _ (⟨b2_c (isN_iff (by omega)), rfl⟩) h (b2_n _) dX8_isDrone_13
set_option maxHeartbeats 4000000 in
set_option maxRecDepth 100000 in
theorem c_X8_isPetition (l : Launch) (J : JJ) (z : Nat) (ad : Nat → Nat) (G : GG) (r : Nat → Int32) (hrow : rwS (G 211) 0 = r) (hk : r 6 = nI (mn r)) (hk2 : mn r ≤ 12) (x : Int32) : MI l J z ad yX8_isPetition cX8_isPetition 2 .boolean 1 [.ref (ad 210), .int x] G (fun ans uG => ans = (b2 (isN x (mn r))) ∧ uG = (G)) := by
  refine MZ.go (by decide) (Nat.le_of_ble_eq_true rfl) ?_
  intro pr e s m args below meth c ls Q X h hl hret
  have hx := X.1
  have hb := X.2.1
  have hown := X.2.2.2.1
  have hts := X.2.2.2.2
  have hl : lv_has ls 2 [(0, .ref (ad 210)), (1, .int x)] := hl
  refine lv_iload_n hx hb dX8_isPetition_0 rfl (lv_at hl 1 rfl) ?_
  refine lv_iconst (v := nI 0) hx hb dX8_isPetition_1 (by decide) ?_
  refine lv_aload_n hx hb dX8_isPetition_2 rfl (lv_at hl 0 rfl) ?_
  refine fg_X8_7 X h dX8_isPetition_3 ?_
  refine lv_bipush (v := nI 6) hx hb dX8_isPetition_6 (by decide) ?_
  refine rs_ld X h 0 (6) (congrArg nI (by omega)) (by omega) dX8_isPetition_8 ?_
  refine lv_as (y := nI ((mn r))) ((congrFun hrow _).trans (hk)) ?_
  refine lv_iconst (v := nI 1) hx hb dX8_isPetition_9 (by decide) ?_
  refine lv_isub hx hb dX8_isPetition_10 ?_
  refine rg_cisd (As := [.int x, .int (nI 0), .int ((nI ((mn r))) - (nI 1))]) (rest := []) X hl.1 h (c_X8_in l J z ad G x (nI 0) ((nI ((mn r))) - (nI 1))) mw_187 mw_188 mw_5 mw_189 pdX8_in ⟨Nat.le_of_ble_eq_true rfl, Nat.le_of_ble_eq_true rfl⟩ ⟨Nat.le_of_ble_eq_true rfl, Nat.le_of_ble_eq_true rfl⟩ rfl (Nat.le_of_ble_eq_true rfl) dX8_isPetition_11 (fun H locs h => ?_)
  exact hret (b2 (nI 0 ≤ x ∧ x ≤ (nI ((mn r))) - (nI 1))) G _ _ 14 _ (⟨b2_c (isN_iff (by omega)), rfl⟩) h (b2_n _) dX8_isPetition_14
set_option maxHeartbeats 4000000 in
set_option maxRecDepth 100000 in
theorem c_X8_isDoing (l : Launch) (J : JJ) (z : Nat) (ad : Nat → Nat) (G : GG) (x : Int32) : MI l J z ad yX8_isDoing cX8_isDoing 1 .boolean 1 [.int x] G (fun ans uG => ans = (b2 (isN x 20)) ∧ uG = (G)) := by
  refine MZ.go (by decide) (Nat.le_of_ble_eq_true rfl) ?_
  intro pr e s m args below meth c ls Q X h hl hret
  have hx := X.1
  have hb := X.2.1
  have hown := X.2.2.2.1
  have hts := X.2.2.2.2
  have hl : lv_has ls 1 [(0, .int x)] := hl
  refine lv_iload_n hx hb dX8_isDoing_0 rfl (lv_at hl 0 rfl) ?_
  refine lv_iconst (v := nI 0) hx hb dX8_isDoing_1 (by decide) ?_
  refine lv_bipush (v := nI 19) hx hb dX8_isDoing_2 (by decide) ?_
  refine rg_cisd (As := [.int x, .int (nI 0), .int (nI 19)]) (rest := []) X hl.1 h (c_X8_inN l J z ad G x 0 19 (by omega) (by omega)) mw_187 mw_188 mw_5 mw_189 pdX8_in ⟨Nat.le_of_ble_eq_true rfl, Nat.le_of_ble_eq_true rfl⟩ ⟨Nat.le_of_ble_eq_true rfl, Nat.le_of_ble_eq_true rfl⟩ rfl (Nat.le_of_ble_eq_true rfl) dX8_isDoing_4 (fun H locs h => ?_)
  exact hret (b2 (inN x 0 19)) G _ _ 7 _ (⟨b2_c (isN_in (n := 20) (by omega)), rfl⟩) h (b2_n _) dX8_isDoing_7
set_option maxHeartbeats 4000000 in
set_option maxRecDepth 100000 in
theorem c_X8_isComb (l : Launch) (J : JJ) (z : Nat) (ad : Nat → Nat) (G : GG) (x : Int32) : MI l J z ad yX8_isComb cX8_isComb 1 .boolean 1 [.int x] G (fun ans uG => ans = (b2 (isN x 6)) ∧ uG = (G)) := by
  refine MZ.go (by decide) (Nat.le_of_ble_eq_true rfl) ?_
  intro pr e s m args below meth c ls Q X h hl hret
  have hx := X.1
  have hb := X.2.1
  have hown := X.2.2.2.1
  have hts := X.2.2.2.2
  have hl : lv_has ls 1 [(0, .int x)] := hl
  refine lv_iload_n hx hb dX8_isComb_0 rfl (lv_at hl 0 rfl) ?_
  refine lv_iconst (v := nI 0) hx hb dX8_isComb_1 (by decide) ?_
  refine lv_iconst (v := nI 5) hx hb dX8_isComb_2 (by decide) ?_
  refine rg_cisd (As := [.int x, .int (nI 0), .int (nI 5)]) (rest := []) X hl.1 h (c_X8_inN l J z ad G x 0 5 (by omega) (by omega)) mw_187 mw_188 mw_5 mw_189 pdX8_in ⟨Nat.le_of_ble_eq_true rfl, Nat.le_of_ble_eq_true rfl⟩ ⟨Nat.le_of_ble_eq_true rfl, Nat.le_of_ble_eq_true rfl⟩ rfl (Nat.le_of_ble_eq_true rfl) dX8_isComb_3 (fun H locs h => ?_)
  exact hret (b2 (inN x 0 5)) G _ _ 6 _ (⟨b2_c (isN_in (n := 6) (by omega)), rfl⟩) h (b2_n _) dX8_isComb_6
set_option maxHeartbeats 4000000 in
set_option maxRecDepth 100000 in
theorem c_X8_comes (l : Launch) (J : JJ) (z : Nat) (ad : Nat → Nat) (G : GG) (r : Nat → Int32) (hW : WR r) (x w : Int32) : MI l J z ad yX8_comes cX8_comes 5 .int 2 [.ref (ad 210), .int x, .int w] (RG G 0 r) (fun ans uG => ans = (cmA r x w) ∧ uG = (RG G 0 (cmR r x w))) := by
  refine MI.go (by decide) (Nat.le_of_ble_eq_true rfl) ?_
  intro pr e s m args below meth c ls Q X h hl hret
  have hx := X.1
  have hb := X.2.1
  have hown := X.2.2.2.1
  have hts := X.2.2.2.2
  have hl : lv_has ls 5 [(0, .ref (ad 210)), (1, .int x), (2, .int w)] := hl
  have hW0 := hW
  obtain ⟨⟨w1, w2⟩, ⟨w3, w4⟩, ⟨w5, w6⟩, w7, w8⟩ := hW
  refine lv_iload_n hx hb dX8_comes_0 rfl (lv_at hl 1 rfl) ?_
  refine rg_cisd (As := [.int x]) (rest := []) X hl.1 h (c_X8_isComb l J z ad (RG G 0 r) x) mw_184 mw_185 mw_5 mw_186 pdX8_isComb ⟨Nat.le_of_ble_eq_true rfl, Nat.le_of_ble_eq_true rfl⟩ ⟨Nat.le_of_ble_eq_true rfl, Nat.le_of_ble_eq_true rfl⟩ rfl (Nat.le_of_ble_eq_true rfl) dX8_comes_1 (fun H locs h => ?_)
  refine lv_if_ne (tgt := 9) hx hb dX8_comes_4 (by decide) (fun c_4 => ?_) (fun c_4 => ?_)
  · rw [b2_z] at c_4
    refine lv_iload_n hx hb dX8_comes_9 rfl (lv_at hl 2 rfl) ?_
    refine lv_iconst (v := nI 1) hx hb dX8_comes_10 (by decide) ?_
    refine lv_bipush (v := nI 9) hx hb dX8_comes_11 (by decide) ?_
    refine rg_cisd (As := [.int w, .int (nI 1), .int (nI 9)]) (rest := []) X hl.1 h (c_X8_inN l J z ad (RG G 0 r) w 1 9 (by omega) (by omega)) mw_187 mw_188 mw_5 mw_189 pdX8_in ⟨Nat.le_of_ble_eq_true rfl, Nat.le_of_ble_eq_true rfl⟩ ⟨Nat.le_of_ble_eq_true rfl, Nat.le_of_ble_eq_true rfl⟩ rfl (Nat.le_of_ble_eq_true rfl) dX8_comes_13 (fun H locs h => ?_)
    refine lv_if_ne (tgt := 22) hx hb dX8_comes_16 (by decide) (fun c_16 => ?_) (fun c_16 => ?_)
    · rw [b2_z] at c_16
      refine lv_aload_n hx hb dX8_comes_22 rfl (lv_at hl 0 rfl) ?_
      refine fg_X8_7 X h dX8_comes_23 ?_
      refine lv_iconst (v := nI 5) hx hb dX8_comes_26 (by decide) ?_
      refine rs_ld X h 0 (5) (congrArg nI (by omega)) (by omega) dX8_comes_27 ?_
      refine lv_as (y := nI ((kn r))) ((congrFun (RG_row G 0 r) _).trans (w1)) ?_
      refine lv_bipush (v := nI 12) hx hb dX8_comes_28 (by decide) ?_
      refine lv_icmp_ne (tgt := 36) hx hb dX8_comes_30 (by decide) (fun c_30 => ?_) (fun c_30 => ?_)
      · rw [nI_eq (by omega) (by omega)] at c_30
        refine lv_iconst (v := nI 0) hx hb dX8_comes_36 (by decide) ?_
        refine lv_aload_n hx hb dX8_comes_37 rfl (lv_at hl 0 rfl) ?_
        refine fg_X8_7 X h dX8_comes_38 ?_
        refine lv_iconst (v := nI 5) hx hb dX8_comes_41 (by decide) ?_
        refine rs_ld X h 0 (5) (congrArg nI (by omega)) (by omega) dX8_comes_42 ?_
        refine lv_as (y := nI ((kn r))) ((congrFun (RG_row G 0 r) _).trans (w1)) ?_
        refine rg_cisd (As := [.int (nI 0), .int (nI ((kn r)))]) (rest := []) X hl.1 h (c_X8_droneAt l J z ad (RG G 0 r) 0 (kn r)) mw_190 mw_191 mw_5 mw_192 pdX8_droneAt ⟨Nat.le_of_ble_eq_true rfl, Nat.le_of_ble_eq_true rfl⟩ ⟨Nat.le_of_ble_eq_true rfl, Nat.le_of_ble_eq_true rfl⟩ rfl (Nat.le_of_ble_eq_true rfl) dX8_comes_43 (fun H locs h => ?_)
        refine lv_as (y := nI (6 * (kn r) + 12)) (congrArg nI (by omega)) ?_
        refine lv_istore_n (lv' := [(3, .int (nI (6 * (kn r) + 12))), (0, .ref (ad 210)), (1, .int x), (2, .int w)]) hx hb dX8_comes_46 rfl hl (by decide) rfl (fun ls hl => ?_)
        refine lv_iconst (v := nI 0) hx hb dX8_comes_47 (by decide) ?_
        refine lv_istore (lv' := [(4, .int (nI 0)), (3, .int (nI (6 * (kn r) + 12))), (0, .ref (ad 210)), (1, .int x), (2, .int w)]) hx hb dX8_comes_48 hl (by decide) rfl (fun ls hl => ?_)
        refine lv_iload hx hb dX8_comes_50 (lv_at hl 0 rfl) ?_
        refine lv_bipush (v := nI 6) hx hb dX8_comes_52 (by decide) ?_
        refine lv_icmp_ge (tgt := 103) hx hb dX8_comes_54 (by decide) (fun c_54 => absurd c_54 (by decide)) (fun c_54 => ?_)
        refine lv_aload_n hx hb dX8_comes_57 rfl (lv_at hl 2 rfl) ?_
        refine fg_X8_7 X h dX8_comes_58 ?_
        refine lv_iload_n hx hb dX8_comes_61 rfl (lv_at hl 1 rfl) ?_
        refine lv_iload hx hb dX8_comes_62 (lv_at hl 0 rfl) ?_
        refine lv_iadd hx hb dX8_comes_64 ?_
        refine lv_as (y := nI (6 * (kn r) + 12)) (nI_addc (by omega)) ?_
        refine lv_iload hx hb dX8_comes_65 (lv_at hl 0 rfl) ?_
        refine lv_if_ne (tgt := 74) hx hb dX8_comes_67 (by decide) (fun c_67 => absurd (by decide) c_67) (fun c_67 => ?_)
        refine lv_iload_n hx hb dX8_comes_70 rfl (lv_at hl 3 rfl) ?_
        refine lv_goto (tgt := 96) hx hb dX8_comes_71 (by decide) ?_
        refine rs_st X h (6 * (kn r) + 12) (congrArg nI (by omega)) (by omega) dX8_comes_96 (fun H locs h => ?_)
        refine lv_iinc (v := nI 1) (lv' := [(4, .int (nI 1)), (3, .int (nI (6 * (kn r) + 12))), (0, .ref (ad 210)), (1, .int x), (2, .int w)]) hx hb dX8_comes_97 hl (k := 0) rfl (nI_addc (b := 1) (by omega)) (by decide) rfl (fun ls hl => ?_)
        refine lv_goto (tgt := 50) hx hb dX8_comes_100 (by decide) ?_
        refine lv_iload hx hb dX8_comes_50 (lv_at hl 0 rfl) ?_
        refine lv_bipush (v := nI 6) hx hb dX8_comes_52 (by decide) ?_
        refine lv_icmp_ge (tgt := 103) hx hb dX8_comes_54 (by decide) (fun c_54 => absurd c_54 (by decide)) (fun c_54 => ?_)
        refine lv_aload_n hx hb dX8_comes_57 rfl (lv_at hl 2 rfl) ?_
        refine fg_X8_7 X h dX8_comes_58 ?_
        refine lv_iload_n hx hb dX8_comes_61 rfl (lv_at hl 1 rfl) ?_
        refine lv_iload hx hb dX8_comes_62 (lv_at hl 0 rfl) ?_
        refine lv_iadd hx hb dX8_comes_64 ?_
        refine lv_as (y := nI (6 * (kn r) + 13)) (nI_addc (by omega)) ?_
        refine lv_iload hx hb dX8_comes_65 (lv_at hl 0 rfl) ?_
        refine lv_if_ne (tgt := 74) hx hb dX8_comes_67 (by decide) (fun c_67 => ?_) (fun c_67 => absurd c_67 (by decide))
        refine lv_iload hx hb dX8_comes_74 (lv_at hl 0 rfl) ?_
        refine lv_iconst (v := nI 1) hx hb dX8_comes_76 (by decide) ?_
        refine lv_icmp_ne (tgt := 84) hx hb dX8_comes_77 (by decide) (fun c_77 => absurd (by decide) c_77) (fun c_77 => ?_)
        refine lv_iload_n hx hb dX8_comes_80 rfl (lv_at hl 4 rfl) ?_
        refine lv_goto (tgt := 96) hx hb dX8_comes_81 (by decide) ?_
        refine rs_st X h (6 * (kn r) + 13) (congrArg nI (by omega)) (by omega) dX8_comes_96 (fun H locs h => ?_)
        refine lv_iinc (v := nI 2) (lv' := [(4, .int (nI 2)), (3, .int (nI (6 * (kn r) + 12))), (0, .ref (ad 210)), (1, .int x), (2, .int w)]) hx hb dX8_comes_97 hl (k := 0) rfl (nI_addc (b := 1) (by omega)) (by decide) rfl (fun ls hl => ?_)
        refine lv_goto (tgt := 50) hx hb dX8_comes_100 (by decide) ?_
        refine lv_iload hx hb dX8_comes_50 (lv_at hl 0 rfl) ?_
        refine lv_bipush (v := nI 6) hx hb dX8_comes_52 (by decide) ?_
        refine lv_icmp_ge (tgt := 103) hx hb dX8_comes_54 (by decide) (fun c_54 => absurd c_54 (by decide)) (fun c_54 => ?_)
        refine lv_aload_n hx hb dX8_comes_57 rfl (lv_at hl 2 rfl) ?_
        refine fg_X8_7 X h dX8_comes_58 ?_
        refine lv_iload_n hx hb dX8_comes_61 rfl (lv_at hl 1 rfl) ?_
        refine lv_iload hx hb dX8_comes_62 (lv_at hl 0 rfl) ?_
        refine lv_iadd hx hb dX8_comes_64 ?_
        refine lv_as (y := nI (6 * (kn r) + 14)) (nI_addc (by omega)) ?_
        refine lv_iload hx hb dX8_comes_65 (lv_at hl 0 rfl) ?_
        refine lv_if_ne (tgt := 74) hx hb dX8_comes_67 (by decide) (fun c_67 => ?_) (fun c_67 => absurd c_67 (by decide))
        refine lv_iload hx hb dX8_comes_74 (lv_at hl 0 rfl) ?_
        refine lv_iconst (v := nI 1) hx hb dX8_comes_76 (by decide) ?_
        refine lv_icmp_ne (tgt := 84) hx hb dX8_comes_77 (by decide) (fun c_77 => ?_) (fun c_77 => absurd c_77 (by decide))
        refine lv_iload hx hb dX8_comes_84 (lv_at hl 0 rfl) ?_
        refine lv_iconst (v := nI 2) hx hb dX8_comes_86 (by decide) ?_
        refine lv_icmp_ne (tgt := 95) hx hb dX8_comes_87 (by decide) (fun c_87 => absurd (by decide) c_87) (fun c_87 => ?_)
        refine lv_bipush (v := (-5)) hx hb dX8_comes_90 (by decide) ?_
        refine lv_goto (tgt := 96) hx hb dX8_comes_92 (by decide) ?_
        refine rs_st X h (6 * (kn r) + 14) (congrArg nI (by omega)) (by omega) dX8_comes_96 (fun H locs h => ?_)
        refine lv_iinc (v := nI 3) (lv' := [(4, .int (nI 3)), (3, .int (nI (6 * (kn r) + 12))), (0, .ref (ad 210)), (1, .int x), (2, .int w)]) hx hb dX8_comes_97 hl (k := 0) rfl (nI_addc (b := 1) (by omega)) (by decide) rfl (fun ls hl => ?_)
        refine lv_goto (tgt := 50) hx hb dX8_comes_100 (by decide) ?_
        refine lv_iload hx hb dX8_comes_50 (lv_at hl 0 rfl) ?_
        refine lv_bipush (v := nI 6) hx hb dX8_comes_52 (by decide) ?_
        refine lv_icmp_ge (tgt := 103) hx hb dX8_comes_54 (by decide) (fun c_54 => absurd c_54 (by decide)) (fun c_54 => ?_)
        refine lv_aload_n hx hb dX8_comes_57 rfl (lv_at hl 2 rfl) ?_
        refine fg_X8_7 X h dX8_comes_58 ?_
        refine lv_iload_n hx hb dX8_comes_61 rfl (lv_at hl 1 rfl) ?_
        refine lv_iload hx hb dX8_comes_62 (lv_at hl 0 rfl) ?_
        refine lv_iadd hx hb dX8_comes_64 ?_
        refine lv_as (y := nI (6 * (kn r) + 15)) (nI_addc (by omega)) ?_
        refine lv_iload hx hb dX8_comes_65 (lv_at hl 0 rfl) ?_
        refine lv_if_ne (tgt := 74) hx hb dX8_comes_67 (by decide) (fun c_67 => ?_) (fun c_67 => absurd c_67 (by decide))
        refine lv_iload hx hb dX8_comes_74 (lv_at hl 0 rfl) ?_
        refine lv_iconst (v := nI 1) hx hb dX8_comes_76 (by decide) ?_
        refine lv_icmp_ne (tgt := 84) hx hb dX8_comes_77 (by decide) (fun c_77 => ?_) (fun c_77 => absurd c_77 (by decide))
        refine lv_iload hx hb dX8_comes_84 (lv_at hl 0 rfl) ?_
        refine lv_iconst (v := nI 2) hx hb dX8_comes_86 (by decide) ?_
        refine lv_icmp_ne (tgt := 95) hx hb dX8_comes_87 (by decide) (fun c_87 => ?_) (fun c_87 => absurd c_87 (by decide))
        refine lv_iconst (v := nI 0) hx hb dX8_comes_95 (by decide) ?_
        refine rs_st X h (6 * (kn r) + 15) (congrArg nI (by omega)) (by omega) dX8_comes_96 (fun H locs h => ?_)
        refine lv_iinc (v := nI 4) (lv' := [(4, .int (nI 4)), (3, .int (nI (6 * (kn r) + 12))), (0, .ref (ad 210)), (1, .int x), (2, .int w)]) hx hb dX8_comes_97 hl (k := 0) rfl (nI_addc (b := 1) (by omega)) (by decide) rfl (fun ls hl => ?_)
        refine lv_goto (tgt := 50) hx hb dX8_comes_100 (by decide) ?_
        refine lv_iload hx hb dX8_comes_50 (lv_at hl 0 rfl) ?_
        refine lv_bipush (v := nI 6) hx hb dX8_comes_52 (by decide) ?_
        refine lv_icmp_ge (tgt := 103) hx hb dX8_comes_54 (by decide) (fun c_54 => absurd c_54 (by decide)) (fun c_54 => ?_)
        refine lv_aload_n hx hb dX8_comes_57 rfl (lv_at hl 2 rfl) ?_
        refine fg_X8_7 X h dX8_comes_58 ?_
        refine lv_iload_n hx hb dX8_comes_61 rfl (lv_at hl 1 rfl) ?_
        refine lv_iload hx hb dX8_comes_62 (lv_at hl 0 rfl) ?_
        refine lv_iadd hx hb dX8_comes_64 ?_
        refine lv_as (y := nI (6 * (kn r) + 16)) (nI_addc (by omega)) ?_
        refine lv_iload hx hb dX8_comes_65 (lv_at hl 0 rfl) ?_
        refine lv_if_ne (tgt := 74) hx hb dX8_comes_67 (by decide) (fun c_67 => ?_) (fun c_67 => absurd c_67 (by decide))
        refine lv_iload hx hb dX8_comes_74 (lv_at hl 0 rfl) ?_
        refine lv_iconst (v := nI 1) hx hb dX8_comes_76 (by decide) ?_
        refine lv_icmp_ne (tgt := 84) hx hb dX8_comes_77 (by decide) (fun c_77 => ?_) (fun c_77 => absurd c_77 (by decide))
        refine lv_iload hx hb dX8_comes_84 (lv_at hl 0 rfl) ?_
        refine lv_iconst (v := nI 2) hx hb dX8_comes_86 (by decide) ?_
        refine lv_icmp_ne (tgt := 95) hx hb dX8_comes_87 (by decide) (fun c_87 => ?_) (fun c_87 => absurd c_87 (by decide))
        refine lv_iconst (v := nI 0) hx hb dX8_comes_95 (by decide) ?_
        refine rs_st X h (6 * (kn r) + 16) (congrArg nI (by omega)) (by omega) dX8_comes_96 (fun H locs h => ?_)
        refine lv_iinc (v := nI 5) (lv' := [(4, .int (nI 5)), (3, .int (nI (6 * (kn r) + 12))), (0, .ref (ad 210)), (1, .int x), (2, .int w)]) hx hb dX8_comes_97 hl (k := 0) rfl (nI_addc (b := 1) (by omega)) (by decide) rfl (fun ls hl => ?_)
        refine lv_goto (tgt := 50) hx hb dX8_comes_100 (by decide) ?_
        refine lv_iload hx hb dX8_comes_50 (lv_at hl 0 rfl) ?_
        refine lv_bipush (v := nI 6) hx hb dX8_comes_52 (by decide) ?_
        refine lv_icmp_ge (tgt := 103) hx hb dX8_comes_54 (by decide) (fun c_54 => absurd c_54 (by decide)) (fun c_54 => ?_)
        refine lv_aload_n hx hb dX8_comes_57 rfl (lv_at hl 2 rfl) ?_
        refine fg_X8_7 X h dX8_comes_58 ?_
        refine lv_iload_n hx hb dX8_comes_61 rfl (lv_at hl 1 rfl) ?_
        refine lv_iload hx hb dX8_comes_62 (lv_at hl 0 rfl) ?_
        refine lv_iadd hx hb dX8_comes_64 ?_
        refine lv_as (y := nI (6 * (kn r) + 17)) (nI_addc (by omega)) ?_
        refine lv_iload hx hb dX8_comes_65 (lv_at hl 0 rfl) ?_
        refine lv_if_ne (tgt := 74) hx hb dX8_comes_67 (by decide) (fun c_67 => ?_) (fun c_67 => absurd c_67 (by decide))
        refine lv_iload hx hb dX8_comes_74 (lv_at hl 0 rfl) ?_
        refine lv_iconst (v := nI 1) hx hb dX8_comes_76 (by decide) ?_
        refine lv_icmp_ne (tgt := 84) hx hb dX8_comes_77 (by decide) (fun c_77 => ?_) (fun c_77 => absurd c_77 (by decide))
        refine lv_iload hx hb dX8_comes_84 (lv_at hl 0 rfl) ?_
        refine lv_iconst (v := nI 2) hx hb dX8_comes_86 (by decide) ?_
        refine lv_icmp_ne (tgt := 95) hx hb dX8_comes_87 (by decide) (fun c_87 => ?_) (fun c_87 => absurd c_87 (by decide))
        refine lv_iconst (v := nI 0) hx hb dX8_comes_95 (by decide) ?_
        refine rs_st X h (6 * (kn r) + 17) (congrArg nI (by omega)) (by omega) dX8_comes_96 (fun H locs h => ?_)
        refine lv_iinc (v := nI 6) (lv' := [(4, .int (nI 6)), (3, .int (nI (6 * (kn r) + 12))), (0, .ref (ad 210)), (1, .int x), (2, .int w)]) hx hb dX8_comes_97 hl (k := 0) rfl (nI_addc (b := 1) (by omega)) (by decide) rfl (fun ls hl => ?_)
        refine lv_goto (tgt := 50) hx hb dX8_comes_100 (by decide) ?_
        refine lv_iload hx hb dX8_comes_50 (lv_at hl 0 rfl) ?_
        refine lv_bipush (v := nI 6) hx hb dX8_comes_52 (by decide) ?_
        refine lv_icmp_ge (tgt := 103) hx hb dX8_comes_54 (by decide) (fun c_54 => ?_) (fun c_54 => absurd (by decide) c_54)
        refine lv_aload_n hx hb dX8_comes_103 rfl (lv_at hl 2 rfl) ?_
        refine fg_X8_7 X h dX8_comes_104 ?_
        refine lv_iconst (v := nI 5) hx hb dX8_comes_107 (by decide) ?_
        refine lv_dup2_11 hx hb dX8_comes_108 rfl rfl ?_
        refine rs_ld X h 0 (5) (congrArg nI (by omega)) (by omega) dX8_comes_109 ?_
        refine lv_as (y := nI ((kn r))) (((congrFun (RG_row G 0 (upd (upd (upd (upd (upd (upd r (6 * (kn r) + 12) x) (6 * (kn r) + 13) w) (6 * (kn r) + 14) (-5)) (6 * (kn r) + 15) (nI 0)) (6 * (kn r) + 16) (nI 0)) (6 * (kn r) + 17) (nI 0))) _).trans (by rw [upd_n (by omega), upd_n (by omega), upd_n (by omega), upd_n (by omega), upd_n (by omega), upd_n (by omega)])).trans (w1)) ?_
        refine lv_iconst (v := nI 1) hx hb dX8_comes_110 (by decide) ?_
        refine lv_iadd hx hb dX8_comes_111 ?_
        refine lv_as (y := nI ((kn r) + 1)) (nI_addc (by omega)) ?_
        refine rs_st X h (5) (congrArg nI (by omega)) (by omega) dX8_comes_112 (fun H locs h => ?_)
        refine lv_aload_n hx hb dX8_comes_113 rfl (lv_at hl 2 rfl) ?_
        refine fg_X8_7 X h dX8_comes_114 ?_
        refine lv_iconst (v := nI 5) hx hb dX8_comes_117 (by decide) ?_
        refine rs_ld X h 0 (5) (congrArg nI (by omega)) (by omega) dX8_comes_118 ?_
        refine lv_as (y := nI ((kn r) + 1)) ((congrFun (RG_row G 0 (upd (upd (upd (upd (upd (upd (upd r (6 * (kn r) + 12) x) (6 * (kn r) + 13) w) (6 * (kn r) + 14) (-5)) (6 * (kn r) + 15) (nI 0)) (6 * (kn r) + 16) (nI 0)) (6 * (kn r) + 17) (nI 0)) 5 (nI ((kn r) + 1)))) _).trans (by rw [upd_s])) ?_
        refine lv_iconst (v := nI 1) hx hb dX8_comes_119 (by decide) ?_
        refine lv_isub hx hb dX8_comes_120 ?_
        refine lv_as (y := nI ((kn r))) (nI_subc (by omega)) ?_
        exact hret (nI ((kn r))) (RG G 0 (upd (upd (upd (upd (upd (upd (upd r (6 * (kn r) + 12) x) (6 * (kn r) + 13) w) (6 * (kn r) + 14) (-5)) (6 * (kn r) + 15) (nI 0)) (6 * (kn r) + 16) (nI 0)) (6 * (kn r) + 17) (nI 0)) 5 (nI ((kn r) + 1)))) _ _ 121 _ (⟨by unfold cmA; rw [cif_t (Classical.not_not.mp c_4), cif_t (Classical.not_not.mp c_16), if_neg c_30], by unfold cmR; rw [cif_t ⟨Classical.not_not.mp c_4, Classical.not_not.mp c_16, c_30⟩]⟩) h dX8_comes_121
      · rw [nI_eq (by omega) (by omega)] at c_30
        refine lv_bipush (v := (-3)) hx hb dX8_comes_33 (by decide) ?_
        exact hret (-3) (RG G 0 r) _ _ 35 _ (⟨by unfold cmA; rw [cif_t (Classical.not_not.mp c_4), cif_t (Classical.not_not.mp c_16), if_pos c_30], by unfold cmR; rw [cif_f (fun q => q.2.2 c_30)]⟩) h dX8_comes_35
    · rw [b2_z] at c_16
      refine lv_bipush (v := (-2)) hx hb dX8_comes_19 (by decide) ?_
      exact hret (-2) (RG G 0 r) _ _ 21 _ (⟨by unfold cmA; rw [cif_t (Classical.not_not.mp c_4), cif_f c_16], by unfold cmR; rw [cif_f (fun q => c_16 q.2.1)]⟩) h dX8_comes_21
  · rw [b2_z] at c_4
    refine lv_iconst (v := (-1)) hx hb dX8_comes_7 (by decide) ?_
    exact hret (-1) (RG G 0 r) _ _ 8 _ (⟨by unfold cmA; rw [cif_f c_4], by unfold cmR; rw [cif_f (fun q => c_4 q.1)]⟩) h dX8_comes_8
set_option maxHeartbeats 4000000 in
set_option maxRecDepth 100000 in
theorem c_X8_moves (l : Launch) (J : JJ) (z : Nat) (ad : Nat → Nat) (G : GG) (r : Nat → Int32) (hW : WR r) (d x : Int32) : MI l J z ad yX8_moves cX8_moves 4 .int 2 [.ref (ad 210), .int d, .int x] (RG G 0 r) (fun ans uG => ans = (mvA r d x) ∧ uG = (RG G 0 (mvR r d x))) := by
  refine MI.go (by decide) (Nat.le_of_ble_eq_true rfl) ?_
  intro pr e s m args below meth c ls Q X h hl hret
  have hx := X.1
  have hb := X.2.1
  have hown := X.2.2.2.1
  have hts := X.2.2.2.2
  have hl : lv_has ls 4 [(0, .ref (ad 210)), (1, .int d), (2, .int x)] := hl
  have hW0 := hW
  obtain ⟨⟨w1, w2⟩, ⟨w3, w4⟩, ⟨w5, w6⟩, w7, w8⟩ := hW
  refine lv_aload_n hx hb dX8_moves_0 rfl (lv_at hl 0 rfl) ?_
  refine lv_iload_n hx hb dX8_moves_1 rfl (lv_at hl 1 rfl) ?_
  refine rg_civd (As := [.int d]) (rest := []) X hl.1 h (c_X8_isDrone l J z ad (RG G 0 r) r (RG_row G 0 r) w1 w2 d) mw_223 mw_224 mw_225 mw_5 mw_226 pdX8_isDrone (by decide) (xo_210 J ad _) rfl rfl ⟨Nat.le_of_ble_eq_true rfl, Nat.le_of_ble_eq_true rfl⟩ ⟨Nat.le_of_ble_eq_true rfl, Nat.le_of_ble_eq_true rfl⟩ rfl (Nat.le_of_ble_eq_true rfl) dX8_moves_2 (fun H locs h => ?_)
  refine lv_if_eq (tgt := 15) hx hb dX8_moves_5 (by decide) (fun c_5 => ?_) (fun c_5 => ?_)
  · rw [b2_z] at c_5
    refine lv_iconst (v := (-1)) hx hb dX8_moves_15 (by decide) ?_
    exact hret (-1) (RG G 0 r) _ _ 16 _ (⟨by unfold mvA; rw [cif_f (fun q => by first | exact c_5 q.1 | exact c_12 q.2)], by unfold mvR; rw [cif_f (fun q => by first | exact c_5 q.1 | exact c_12 q.2)]⟩) h dX8_moves_16
  · rw [b2_z] at c_5
    obtain ⟨D, hD, rfl⟩ := Classical.not_not.mp c_5
    refine lv_iload_n hx hb dX8_moves_8 rfl (lv_at hl 2 rfl) ?_
    refine rg_cisd (As := [.int x]) (rest := []) X hl.1 h (c_X8_isComb l J z ad (RG G 0 r) x) mw_184 mw_185 mw_5 mw_186 pdX8_isComb ⟨Nat.le_of_ble_eq_true rfl, Nat.le_of_ble_eq_true rfl⟩ ⟨Nat.le_of_ble_eq_true rfl, Nat.le_of_ble_eq_true rfl⟩ rfl (Nat.le_of_ble_eq_true rfl) dX8_moves_9 (fun H locs h => ?_)
    refine lv_if_ne (tgt := 17) hx hb dX8_moves_12 (by decide) (fun c_12 => ?_) (fun c_12 => ?_)
    · rw [b2_z] at c_12
      refine lv_aload_n hx hb dX8_moves_17 rfl (lv_at hl 0 rfl) ?_
      refine fg_X8_7 X h dX8_moves_18 ?_
      refine lv_iconst (v := nI 0) hx hb dX8_moves_21 (by decide) ?_
      refine lv_iload_n hx hb dX8_moves_22 rfl (lv_at hl 1 rfl) ?_
      refine rg_cisd (As := [.int (nI 0), .int (nI D)]) (rest := [.ref (ad 211)]) X hl.1 h (c_X8_droneAt l J z ad (RG G 0 r) 0 D) mw_190 mw_191 mw_5 mw_192 pdX8_droneAt ⟨Nat.le_of_ble_eq_true rfl, Nat.le_of_ble_eq_true rfl⟩ ⟨Nat.le_of_ble_eq_true rfl, Nat.le_of_ble_eq_true rfl⟩ rfl (Nat.le_of_ble_eq_true rfl) dX8_moves_23 (fun H locs h => ?_)
      refine lv_as (y := nI (6 * D + 12)) (congrArg nI (by omega)) ?_
      refine rs_ld X h 0 (6 * D + 12) (congrArg nI (by omega)) (by omega) dX8_moves_26 ?_
      refine lv_as (y := r (6 * D + 12)) (congrFun (RG_row G 0 r) _) ?_
      refine lv_istore_n (lv' := [(3, .int (r (6 * D + 12))), (0, .ref (ad 210)), (1, .int (nI D)), (2, .int x)]) hx hb dX8_moves_27 rfl hl (by decide) rfl (fun ls hl => ?_)
      refine lv_aload_n hx hb dX8_moves_28 rfl (lv_at hl 1 rfl) ?_
      refine fg_X8_7 X h dX8_moves_29 ?_
      refine lv_iconst (v := nI 0) hx hb dX8_moves_32 (by decide) ?_
      refine lv_iload_n hx hb dX8_moves_33 rfl (lv_at hl 2 rfl) ?_
      refine rg_cisd (As := [.int (nI 0), .int (nI D)]) (rest := [.ref (ad 211)]) X hl.1 h (c_X8_droneAt l J z ad (RG G 0 r) 0 D) mw_190 mw_191 mw_5 mw_192 pdX8_droneAt ⟨Nat.le_of_ble_eq_true rfl, Nat.le_of_ble_eq_true rfl⟩ ⟨Nat.le_of_ble_eq_true rfl, Nat.le_of_ble_eq_true rfl⟩ rfl (Nat.le_of_ble_eq_true rfl) dX8_moves_34 (fun H locs h => ?_)
      refine lv_as (y := nI (6 * D + 12)) (congrArg nI (by omega)) ?_
      refine lv_iload_n hx hb dX8_moves_37 rfl (lv_at hl 3 rfl) ?_
      refine rs_st X h (6 * D + 12) (congrArg nI (by omega)) (by omega) dX8_moves_38 (fun H locs h => ?_)
      refine lv_iload_n hx hb dX8_moves_39 rfl (lv_at hl 0 rfl) ?_
      refine lv_iload_n hx hb dX8_moves_40 rfl (lv_at hl 3 rfl) ?_
      refine lv_icmp_ne (tgt := 49) hx hb dX8_moves_41 (by decide) (fun c_41 => ?_) (fun c_41 => ?_)
      · refine lv_iload_n hx hb dX8_moves_49 rfl (lv_at hl 0 rfl) ?_
        exact hret (r (6 * D + 12)) (RG G 0 (upd r (6 * D + 12) x)) _ _ 50 _ (⟨by unfold mvA; rw [cif_t ⟨⟨D, hD, rfl⟩, Classical.not_not.mp c_12⟩, tn_nI (show D < 2 ^ 31 by omega), if_neg c_41], by unfold mvR; rw [cif_t ⟨⟨D, hD, rfl⟩, Classical.not_not.mp c_12⟩, tn_nI (show D < 2 ^ 31 by omega)]⟩) h dX8_moves_50
      · refine lv_bipush (v := (-5)) hx hb dX8_moves_44 (by decide) ?_
        refine lv_goto (tgt := 50) hx hb dX8_moves_46 (by decide) ?_
        exact hret (-5) (RG G 0 (upd r (6 * D + 12) x)) _ _ 50 _ (⟨by unfold mvA; rw [cif_t ⟨⟨D, hD, rfl⟩, Classical.not_not.mp c_12⟩, tn_nI (show D < 2 ^ 31 by omega), if_pos c_41], by unfold mvR; rw [cif_t ⟨⟨D, hD, rfl⟩, Classical.not_not.mp c_12⟩, tn_nI (show D < 2 ^ 31 by omega)]⟩) h dX8_moves_50
    · rw [b2_z] at c_12
      refine lv_iconst (v := (-1)) hx hb dX8_moves_15 (by decide) ?_
      exact hret (-1) (RG G 0 r) _ _ 16 _ (⟨by unfold mvA; rw [cif_f (fun q => by first | exact c_5 q.1 | exact c_12 q.2)], by unfold mvR; rw [cif_f (fun q => by first | exact c_5 q.1 | exact c_12 q.2)]⟩) h dX8_moves_16
set_option maxHeartbeats 4000000 in
set_option maxRecDepth 100000 in
theorem c_X8_petitions (l : Launch) (J : JJ) (z : Nat) (ad : Nat → Nat) (G : GG) (r : Nat → Int32) (hW : WR r) (d x g k : Int32) : MI l J z ad yX8_petitions cX8_petitions 7 .int 2 [.ref (ad 210), .int d, .int x, .int g, .int k] (RG G 0 r) (fun ans uG => ans = (ptA r d x g k) ∧ uG = (RG G 0 (ptR r d x g k))) := by
  refine MI.go (by decide) (Nat.le_of_ble_eq_true rfl) ?_
  intro pr e s m args below meth c ls Q X h hl hret
  have hx := X.1
  have hb := X.2.1
  have hown := X.2.2.2.1
  have hts := X.2.2.2.2
  have hl : lv_has ls 7 [(0, .ref (ad 210)), (1, .int d), (2, .int x), (3, .int g), (4, .int k)] := hl
  have hW0 := hW
  obtain ⟨⟨w1, w2⟩, ⟨w3, w4⟩, ⟨w5, w6⟩, w7, w8⟩ := hW
  refine lv_aload_n hx hb dX8_petitions_0 rfl (lv_at hl 0 rfl) ?_
  refine lv_iload_n hx hb dX8_petitions_1 rfl (lv_at hl 1 rfl) ?_
  refine rg_civd (As := [.int d]) (rest := []) X hl.1 h (c_X8_isDrone l J z ad (RG G 0 r) r (RG_row G 0 r) w1 w2 d) mw_223 mw_224 mw_225 mw_5 mw_226 pdX8_isDrone (by decide) (xo_210 J ad _) rfl rfl ⟨Nat.le_of_ble_eq_true rfl, Nat.le_of_ble_eq_true rfl⟩ ⟨Nat.le_of_ble_eq_true rfl, Nat.le_of_ble_eq_true rfl⟩ rfl (Nat.le_of_ble_eq_true rfl) dX8_petitions_2 (fun H locs h => ?_)
  refine lv_if_eq (tgt := 25) hx hb dX8_petitions_5 (by decide) (fun c_5 => ?_) (fun c_5 => ?_)
  · rw [b2_z] at c_5
    refine lv_iconst (v := (-1)) hx hb dX8_petitions_25 (by decide) ?_
    exact hret (-1) (RG G 0 r) _ _ 26 _ (⟨by unfold ptA; rw [cif_f (fun q => by first | exact c_5 q.1 | exact c_15 q.2.1 | exact c_22 q.2.2)], by unfold ptR; rw [cif_f (fun q => by first | exact c_5 q.1.1 | exact c_15 q.1.2.1 | exact c_22 q.1.2.2)]⟩) h dX8_petitions_26
  · rw [b2_z] at c_5
    obtain ⟨D, hD, rfl⟩ := Classical.not_not.mp c_5
    refine lv_iload_n hx hb dX8_petitions_8 rfl (lv_at hl 2 rfl) ?_
    refine lv_iconst (v := nI 0) hx hb dX8_petitions_9 (by decide) ?_
    refine lv_bipush (v := nI 6) hx hb dX8_petitions_10 (by decide) ?_
    refine rg_cisd (As := [.int x, .int (nI 0), .int (nI 6)]) (rest := []) X hl.1 h (c_X8_inN l J z ad (RG G 0 r) x 0 6 (by omega) (by omega)) mw_187 mw_188 mw_5 mw_189 pdX8_in ⟨Nat.le_of_ble_eq_true rfl, Nat.le_of_ble_eq_true rfl⟩ ⟨Nat.le_of_ble_eq_true rfl, Nat.le_of_ble_eq_true rfl⟩ rfl (Nat.le_of_ble_eq_true rfl) dX8_petitions_12 (fun H locs h => ?_)
    refine lv_if_eq (tgt := 25) hx hb dX8_petitions_15 (by decide) (fun c_15 => ?_) (fun c_15 => ?_)
    · rw [b2_z] at c_15
      refine lv_iconst (v := (-1)) hx hb dX8_petitions_25 (by decide) ?_
      exact hret (-1) (RG G 0 r) _ _ 26 _ (⟨by unfold ptA; rw [cif_f (fun q => by first | exact c_5 q.1 | exact c_15 q.2.1 | exact c_22 q.2.2)], by unfold ptR; rw [cif_f (fun q => by first | exact c_5 q.1.1 | exact c_15 q.1.2.1 | exact c_22 q.1.2.2)]⟩) h dX8_petitions_26
    · rw [b2_z] at c_15
      refine lv_iload_n hx hb dX8_petitions_18 rfl (lv_at hl 3 rfl) ?_
      refine rg_cisd (As := [.int g]) (rest := []) X hl.1 h (c_X8_isDoing l J z ad (RG G 0 r) g) mw_258 mw_259 mw_5 mw_260 pdX8_isDoing ⟨Nat.le_of_ble_eq_true rfl, Nat.le_of_ble_eq_true rfl⟩ ⟨Nat.le_of_ble_eq_true rfl, Nat.le_of_ble_eq_true rfl⟩ rfl (Nat.le_of_ble_eq_true rfl) dX8_petitions_19 (fun H locs h => ?_)
      refine lv_if_ne (tgt := 27) hx hb dX8_petitions_22 (by decide) (fun c_22 => ?_) (fun c_22 => ?_)
      · rw [b2_z] at c_22
        refine lv_iload hx hb dX8_petitions_27 (lv_at hl 4 rfl) ?_
        refine lv_iconst (v := nI 0) hx hb dX8_petitions_29 (by decide) ?_
        refine lv_iconst (v := nI 2) hx hb dX8_petitions_30 (by decide) ?_
        refine rg_cisd (As := [.int k, .int (nI 0), .int (nI 2)]) (rest := []) X hl.1 h (c_X8_inN l J z ad (RG G 0 r) k 0 2 (by omega) (by omega)) mw_187 mw_188 mw_5 mw_189 pdX8_in ⟨Nat.le_of_ble_eq_true rfl, Nat.le_of_ble_eq_true rfl⟩ ⟨Nat.le_of_ble_eq_true rfl, Nat.le_of_ble_eq_true rfl⟩ rfl (Nat.le_of_ble_eq_true rfl) dX8_petitions_31 (fun H locs h => ?_)
        refine lv_if_ne (tgt := 40) hx hb dX8_petitions_34 (by decide) (fun c_34 => ?_) (fun c_34 => ?_)
        · rw [b2_z] at c_34
          refine lv_iconst (v := nI 0) hx hb dX8_petitions_40 (by decide) ?_
          refine lv_iload_n hx hb dX8_petitions_41 rfl (lv_at hl 1 rfl) ?_
          refine rg_cisd (As := [.int (nI 0), .int (nI D)]) (rest := []) X hl.1 h (c_X8_droneAt l J z ad (RG G 0 r) 0 D) mw_190 mw_191 mw_5 mw_192 pdX8_droneAt ⟨Nat.le_of_ble_eq_true rfl, Nat.le_of_ble_eq_true rfl⟩ ⟨Nat.le_of_ble_eq_true rfl, Nat.le_of_ble_eq_true rfl⟩ rfl (Nat.le_of_ble_eq_true rfl) dX8_petitions_42 (fun H locs h => ?_)
          refine lv_as (y := nI (6 * D + 12)) (congrArg nI (by omega)) ?_
          refine lv_istore (lv' := [(5, .int (nI (6 * D + 12))), (0, .ref (ad 210)), (1, .int (nI D)), (2, .int x), (3, .int g), (4, .int k)]) hx hb dX8_petitions_45 hl (by decide) rfl (fun ls hl => ?_)
          refine lv_aload_n hx hb dX8_petitions_47 rfl (lv_at hl 1 rfl) ?_
          refine fg_X8_7 X h dX8_petitions_48 ?_
          refine lv_iload hx hb dX8_petitions_51 (lv_at hl 0 rfl) ?_
          refine lv_iconst (v := nI 2) hx hb dX8_petitions_53 (by decide) ?_
          refine lv_iadd hx hb dX8_petitions_54 ?_
          refine lv_as (y := nI (6 * D + 14)) (nI_addc (by omega)) ?_
          refine rs_ld X h 0 (6 * D + 14) (congrArg nI (by omega)) (by omega) dX8_petitions_55 ?_
          refine lv_as (y := r (6 * D + 14)) (congrFun (RG_row G 0 r) _) ?_
          refine lv_bipush (v := (-5)) hx hb dX8_petitions_56 (by decide) ?_
          refine lv_icmp_ne (tgt := 78) hx hb dX8_petitions_58 (by decide) (fun c_58 => ?_) (fun c_58 => ?_)
          · refine lv_bipush (v := (-4)) hx hb dX8_petitions_78 (by decide) ?_
            exact hret (-4) (RG G 0 r) _ _ 80 _ (⟨by unfold ptA; rw [cif_t ⟨⟨D, hD, rfl⟩, Classical.not_not.mp c_15, Classical.not_not.mp c_22⟩, cif_t (Classical.not_not.mp c_34), cif_f (fun q => by unfold ptF at q; rw [tn_nI (show D < 2 ^ 31 by omega)] at q; first | exact c_58 q.1 | exact q.2.elim c_64 c_75)], by unfold ptR; rw [cif_f (fun q => ((fun q => by unfold ptF at q; rw [tn_nI (show D < 2 ^ 31 by omega)] at q; first | exact c_58 q.1 | exact q.2.elim c_64 c_75) : ¬ ptF r (nI D) x) q.2.2)]⟩) h dX8_petitions_80
          · refine lv_iload_n hx hb dX8_petitions_61 rfl (lv_at hl 3 rfl) ?_
            refine lv_bipush (v := nI 6) hx hb dX8_petitions_62 (by decide) ?_
            refine lv_icmp_eq (tgt := 81) hx hb dX8_petitions_64 (by decide) (fun c_64 => ?_) (fun c_64 => ?_)
            · refine lv_iconst (v := nI 0) hx hb dX8_petitions_81 (by decide) ?_
              refine lv_aload_n hx hb dX8_petitions_82 rfl (lv_at hl 1 rfl) ?_
              refine fg_X8_7 X h dX8_petitions_83 ?_
              refine lv_bipush (v := nI 6) hx hb dX8_petitions_86 (by decide) ?_
              refine rs_ld X h 0 (6) (congrArg nI (by omega)) (by omega) dX8_petitions_88 ?_
              refine lv_as (y := nI ((mn r))) ((congrFun (RG_row G 0 r) _).trans (w3)) ?_
              refine rg_cisd (As := [.int (nI 0), .int (nI ((mn r)))]) (rest := []) X hl.1 h (c_X8_petitionAt l J z ad (RG G 0 r) 0 (mn r)) mw_261 mw_262 mw_5 mw_263 pdX8_petitionAt ⟨Nat.le_of_ble_eq_true rfl, Nat.le_of_ble_eq_true rfl⟩ ⟨Nat.le_of_ble_eq_true rfl, Nat.le_of_ble_eq_true rfl⟩ rfl (Nat.le_of_ble_eq_true rfl) dX8_petitions_89 (fun H locs h => ?_)
              refine lv_as (y := nI (5 * (mn r) + 84)) (congrArg nI (by omega)) ?_
              refine lv_istore (lv' := [(6, .int (nI (5 * (mn r) + 84))), (5, .int (nI (6 * D + 12))), (0, .ref (ad 210)), (1, .int (nI D)), (2, .int x), (3, .int g), (4, .int k)]) hx hb dX8_petitions_92 hl (by decide) rfl (fun ls hl => ?_)
              refine lv_aload_n hx hb dX8_petitions_94 rfl (lv_at hl 2 rfl) ?_
              refine fg_X8_7 X h dX8_petitions_95 ?_
              refine lv_iload hx hb dX8_petitions_98 (lv_at hl 0 rfl) ?_
              refine lv_iload_n hx hb dX8_petitions_100 rfl (lv_at hl 3 rfl) ?_
              refine rs_st X h (5 * (mn r) + 84) (congrArg nI (by omega)) (by omega) dX8_petitions_101 (fun H locs h => ?_)
              refine lv_aload_n hx hb dX8_petitions_102 rfl (lv_at hl 2 rfl) ?_
              refine fg_X8_7 X h dX8_petitions_103 ?_
              refine lv_iload hx hb dX8_petitions_106 (lv_at hl 0 rfl) ?_
              refine lv_iconst (v := nI 1) hx hb dX8_petitions_108 (by decide) ?_
              refine lv_iadd hx hb dX8_petitions_109 ?_
              refine lv_as (y := nI (5 * (mn r) + 85)) (nI_addc (by omega)) ?_
              refine lv_iload_n hx hb dX8_petitions_110 rfl (lv_at hl 4 rfl) ?_
              refine rs_st X h (5 * (mn r) + 85) (congrArg nI (by omega)) (by omega) dX8_petitions_111 (fun H locs h => ?_)
              refine lv_aload_n hx hb dX8_petitions_112 rfl (lv_at hl 2 rfl) ?_
              refine fg_X8_7 X h dX8_petitions_113 ?_
              refine lv_iload hx hb dX8_petitions_116 (lv_at hl 0 rfl) ?_
              refine lv_iconst (v := nI 2) hx hb dX8_petitions_118 (by decide) ?_
              refine lv_iadd hx hb dX8_petitions_119 ?_
              refine lv_as (y := nI (5 * (mn r) + 86)) (nI_addc (by omega)) ?_
              refine lv_iload_n hx hb dX8_petitions_120 rfl (lv_at hl 5 rfl) ?_
              refine rs_st X h (5 * (mn r) + 86) (congrArg nI (by omega)) (by omega) dX8_petitions_121 (fun H locs h => ?_)
              refine lv_aload_n hx hb dX8_petitions_122 rfl (lv_at hl 2 rfl) ?_
              refine fg_X8_7 X h dX8_petitions_123 ?_
              refine lv_iload hx hb dX8_petitions_126 (lv_at hl 0 rfl) ?_
              refine lv_iconst (v := nI 3) hx hb dX8_petitions_128 (by decide) ?_
              refine lv_iadd hx hb dX8_petitions_129 ?_
              refine lv_as (y := nI (5 * (mn r) + 87)) (nI_addc (by omega)) ?_
              refine lv_iload hx hb dX8_petitions_130 (lv_at hl 6 rfl) ?_
              refine rs_st X h (5 * (mn r) + 87) (congrArg nI (by omega)) (by omega) dX8_petitions_132 (fun H locs h => ?_)
              refine lv_aload_n hx hb dX8_petitions_133 rfl (lv_at hl 2 rfl) ?_
              refine fg_X8_7 X h dX8_petitions_134 ?_
              refine lv_iload hx hb dX8_petitions_137 (lv_at hl 0 rfl) ?_
              refine lv_iconst (v := nI 4) hx hb dX8_petitions_139 (by decide) ?_
              refine lv_iadd hx hb dX8_petitions_140 ?_
              refine lv_as (y := nI (5 * (mn r) + 88)) (nI_addc (by omega)) ?_
              refine lv_iconst (v := nI 0) hx hb dX8_petitions_141 (by decide) ?_
              refine rs_st X h (5 * (mn r) + 88) (congrArg nI (by omega)) (by omega) dX8_petitions_142 (fun H locs h => ?_)
              refine lv_aload_n hx hb dX8_petitions_143 rfl (lv_at hl 2 rfl) ?_
              refine fg_X8_7 X h dX8_petitions_144 ?_
              refine lv_iload hx hb dX8_petitions_147 (lv_at hl 1 rfl) ?_
              refine lv_iconst (v := nI 2) hx hb dX8_petitions_149 (by decide) ?_
              refine lv_iadd hx hb dX8_petitions_150 ?_
              refine lv_as (y := nI (6 * D + 14)) (nI_addc (by omega)) ?_
              refine lv_aload_n hx hb dX8_petitions_151 rfl (lv_at hl 2 rfl) ?_
              refine fg_X8_7 X h dX8_petitions_152 ?_
              refine lv_bipush (v := nI 6) hx hb dX8_petitions_155 (by decide) ?_
              refine rs_ld X h 0 (6) (congrArg nI (by omega)) (by omega) dX8_petitions_157 ?_
              refine lv_as (y := nI ((mn r))) (((congrFun (RG_row G 0 (upd (upd (upd (upd (upd r (5 * (mn r) + 84) (nI D)) (5 * (mn r) + 85) x) (5 * (mn r) + 86) g) (5 * (mn r) + 87) k) (5 * (mn r) + 88) (nI 0))) _).trans (by rw [upd_n (by omega), upd_n (by omega), upd_n (by omega), upd_n (by omega), upd_n (by omega)])).trans (w3)) ?_
              refine rs_st X h (6 * D + 14) (congrArg nI (by omega)) (by omega) dX8_petitions_158 (fun H locs h => ?_)
              refine lv_aload_n hx hb dX8_petitions_159 rfl (lv_at hl 2 rfl) ?_
              refine fg_X8_7 X h dX8_petitions_160 ?_
              refine lv_iload hx hb dX8_petitions_163 (lv_at hl 1 rfl) ?_
              refine lv_iconst (v := nI 3) hx hb dX8_petitions_165 (by decide) ?_
              refine lv_iadd hx hb dX8_petitions_166 ?_
              refine lv_as (y := nI (6 * D + 15)) (nI_addc (by omega)) ?_
              refine lv_dup2_11 hx hb dX8_petitions_167 rfl rfl ?_
              refine rs_ld X h 0 (6 * D + 15) (congrArg nI (by omega)) (by omega) dX8_petitions_168 ?_
              refine lv_as (y := r (6 * D + 15)) ((congrFun (RG_row G 0 (upd (upd (upd (upd (upd (upd r (5 * (mn r) + 84) (nI D)) (5 * (mn r) + 85) x) (5 * (mn r) + 86) g) (5 * (mn r) + 87) k) (5 * (mn r) + 88) (nI 0)) (6 * D + 14) (nI ((mn r))))) _).trans (by rw [upd_n (by omega), upd_n (by omega), upd_n (by omega), upd_n (by omega), upd_n (by omega), upd_n (by omega)])) ?_
              refine lv_iconst (v := nI 1) hx hb dX8_petitions_169 (by decide) ?_
              refine lv_iadd hx hb dX8_petitions_170 ?_
              refine rs_st X h (6 * D + 15) (congrArg nI (by omega)) (by omega) dX8_petitions_171 (fun H locs h => ?_)
              refine lv_aload_n hx hb dX8_petitions_172 rfl (lv_at hl 2 rfl) ?_
              refine fg_X8_7 X h dX8_petitions_173 ?_
              refine lv_bipush (v := nI 7) hx hb dX8_petitions_176 (by decide) ?_
              refine lv_dup2_11 hx hb dX8_petitions_178 rfl rfl ?_
              refine rs_ld X h 0 (7) (congrArg nI (by omega)) (by omega) dX8_petitions_179 ?_
              refine lv_as (y := r 7) ((congrFun (RG_row G 0 (upd (upd (upd (upd (upd (upd (upd r (5 * (mn r) + 84) (nI D)) (5 * (mn r) + 85) x) (5 * (mn r) + 86) g) (5 * (mn r) + 87) k) (5 * (mn r) + 88) (nI 0)) (6 * D + 14) (nI ((mn r)))) (6 * D + 15) ((r (6 * D + 15)) + (nI 1)))) _).trans (by rw [upd_n (by omega), upd_n (by omega), upd_n (by omega), upd_n (by omega), upd_n (by omega), upd_n (by omega), upd_n (by omega)])) ?_
              refine lv_iconst (v := nI 1) hx hb dX8_petitions_180 (by decide) ?_
              refine lv_iadd hx hb dX8_petitions_181 ?_
              refine rs_st X h (7) (congrArg nI (by omega)) (by omega) dX8_petitions_182 (fun H locs h => ?_)
              refine lv_aload_n hx hb dX8_petitions_183 rfl (lv_at hl 2 rfl) ?_
              refine fg_X8_7 X h dX8_petitions_184 ?_
              refine lv_bipush (v := nI 6) hx hb dX8_petitions_187 (by decide) ?_
              refine lv_dup2_11 hx hb dX8_petitions_189 rfl rfl ?_
              refine rs_ld X h 0 (6) (congrArg nI (by omega)) (by omega) dX8_petitions_190 ?_
              refine lv_as (y := nI ((mn r))) (((congrFun (RG_row G 0 (upd (upd (upd (upd (upd (upd (upd (upd r (5 * (mn r) + 84) (nI D)) (5 * (mn r) + 85) x) (5 * (mn r) + 86) g) (5 * (mn r) + 87) k) (5 * (mn r) + 88) (nI 0)) (6 * D + 14) (nI ((mn r)))) (6 * D + 15) ((r (6 * D + 15)) + (nI 1))) 7 ((r 7) + (nI 1)))) _).trans (by rw [upd_n (by omega), upd_n (by omega), upd_n (by omega), upd_n (by omega), upd_n (by omega), upd_n (by omega), upd_n (by omega), upd_n (by omega)])).trans (w3)) ?_
              refine lv_iconst (v := nI 1) hx hb dX8_petitions_191 (by decide) ?_
              refine lv_iadd hx hb dX8_petitions_192 ?_
              refine lv_as (y := nI ((mn r) + 1)) (nI_addc (by omega)) ?_
              refine rs_st X h (6) (congrArg nI (by omega)) (by omega) dX8_petitions_193 (fun H locs h => ?_)
              refine lv_aload_n hx hb dX8_petitions_194 rfl (lv_at hl 2 rfl) ?_
              refine fg_X8_7 X h dX8_petitions_195 ?_
              refine lv_bipush (v := nI 6) hx hb dX8_petitions_198 (by decide) ?_
              refine rs_ld X h 0 (6) (congrArg nI (by omega)) (by omega) dX8_petitions_200 ?_
              refine lv_as (y := nI ((mn r) + 1)) ((congrFun (RG_row G 0 (upd (upd (upd (upd (upd (upd (upd (upd (upd r (5 * (mn r) + 84) (nI D)) (5 * (mn r) + 85) x) (5 * (mn r) + 86) g) (5 * (mn r) + 87) k) (5 * (mn r) + 88) (nI 0)) (6 * D + 14) (nI ((mn r)))) (6 * D + 15) ((r (6 * D + 15)) + (nI 1))) 7 ((r 7) + (nI 1))) 6 (nI ((mn r) + 1)))) _).trans (by rw [upd_s])) ?_
              refine lv_iconst (v := nI 1) hx hb dX8_petitions_201 (by decide) ?_
              refine lv_isub hx hb dX8_petitions_202 ?_
              refine lv_as (y := nI ((mn r))) (nI_subc (by omega)) ?_
              exact hret (nI ((mn r))) (RG G 0 (upd (upd (upd (upd (upd (upd (upd (upd (upd r (5 * (mn r) + 84) (nI D)) (5 * (mn r) + 85) x) (5 * (mn r) + 86) g) (5 * (mn r) + 87) k) (5 * (mn r) + 88) (nI 0)) (6 * D + 14) (nI ((mn r)))) (6 * D + 15) ((r (6 * D + 15)) + (nI 1))) 7 ((r 7) + (nI 1))) 6 (nI ((mn r) + 1)))) _ _ 203 _ (⟨by unfold ptA; rw [cif_t ⟨⟨D, hD, rfl⟩, Classical.not_not.mp c_15, Classical.not_not.mp c_22⟩, cif_t (Classical.not_not.mp c_34), cif_t (show ptF r (nI D) x by unfold ptF; rw [tn_nI (show D < 2 ^ 31 by omega)]; exact ⟨c_58, by first | exact Or.inl c_64 | exact Or.inr c_75⟩)], by unfold ptR; rw [cif_t ⟨⟨⟨D, hD, rfl⟩, Classical.not_not.mp c_15, Classical.not_not.mp c_22⟩, Classical.not_not.mp c_34, (show ptF r (nI D) x by unfold ptF; rw [tn_nI (show D < 2 ^ 31 by omega)]; exact ⟨c_58, by first | exact Or.inl c_64 | exact Or.inr c_75⟩)⟩, tn_nI (show D < 2 ^ 31 by omega)]⟩) h dX8_petitions_203
            · refine lv_aload_n hx hb dX8_petitions_67 rfl (lv_at hl 1 rfl) ?_
              refine fg_X8_7 X h dX8_petitions_68 ?_
              refine lv_iload hx hb dX8_petitions_71 (lv_at hl 0 rfl) ?_
              refine rs_ld X h 0 (6 * D + 12) (congrArg nI (by omega)) (by omega) dX8_petitions_73 ?_
              refine lv_as (y := r (6 * D + 12)) (congrFun (RG_row G 0 r) _) ?_
              refine lv_iload_n hx hb dX8_petitions_74 rfl (lv_at hl 3 rfl) ?_
              refine lv_icmp_eq (tgt := 81) hx hb dX8_petitions_75 (by decide) (fun c_75 => ?_) (fun c_75 => ?_)
              · refine lv_iconst (v := nI 0) hx hb dX8_petitions_81 (by decide) ?_
                refine lv_aload_n hx hb dX8_petitions_82 rfl (lv_at hl 1 rfl) ?_
                refine fg_X8_7 X h dX8_petitions_83 ?_
                refine lv_bipush (v := nI 6) hx hb dX8_petitions_86 (by decide) ?_
                refine rs_ld X h 0 (6) (congrArg nI (by omega)) (by omega) dX8_petitions_88 ?_
                refine lv_as (y := nI ((mn r))) ((congrFun (RG_row G 0 r) _).trans (w3)) ?_
                refine rg_cisd (As := [.int (nI 0), .int (nI ((mn r)))]) (rest := []) X hl.1 h (c_X8_petitionAt l J z ad (RG G 0 r) 0 (mn r)) mw_261 mw_262 mw_5 mw_263 pdX8_petitionAt ⟨Nat.le_of_ble_eq_true rfl, Nat.le_of_ble_eq_true rfl⟩ ⟨Nat.le_of_ble_eq_true rfl, Nat.le_of_ble_eq_true rfl⟩ rfl (Nat.le_of_ble_eq_true rfl) dX8_petitions_89 (fun H locs h => ?_)
                refine lv_as (y := nI (5 * (mn r) + 84)) (congrArg nI (by omega)) ?_
                refine lv_istore (lv' := [(6, .int (nI (5 * (mn r) + 84))), (5, .int (nI (6 * D + 12))), (0, .ref (ad 210)), (1, .int (nI D)), (2, .int x), (3, .int g), (4, .int k)]) hx hb dX8_petitions_92 hl (by decide) rfl (fun ls hl => ?_)
                refine lv_aload_n hx hb dX8_petitions_94 rfl (lv_at hl 2 rfl) ?_
                refine fg_X8_7 X h dX8_petitions_95 ?_
                refine lv_iload hx hb dX8_petitions_98 (lv_at hl 0 rfl) ?_
                refine lv_iload_n hx hb dX8_petitions_100 rfl (lv_at hl 3 rfl) ?_
                refine rs_st X h (5 * (mn r) + 84) (congrArg nI (by omega)) (by omega) dX8_petitions_101 (fun H locs h => ?_)
                refine lv_aload_n hx hb dX8_petitions_102 rfl (lv_at hl 2 rfl) ?_
                refine fg_X8_7 X h dX8_petitions_103 ?_
                refine lv_iload hx hb dX8_petitions_106 (lv_at hl 0 rfl) ?_
                refine lv_iconst (v := nI 1) hx hb dX8_petitions_108 (by decide) ?_
                refine lv_iadd hx hb dX8_petitions_109 ?_
                refine lv_as (y := nI (5 * (mn r) + 85)) (nI_addc (by omega)) ?_
                refine lv_iload_n hx hb dX8_petitions_110 rfl (lv_at hl 4 rfl) ?_
                refine rs_st X h (5 * (mn r) + 85) (congrArg nI (by omega)) (by omega) dX8_petitions_111 (fun H locs h => ?_)
                refine lv_aload_n hx hb dX8_petitions_112 rfl (lv_at hl 2 rfl) ?_
                refine fg_X8_7 X h dX8_petitions_113 ?_
                refine lv_iload hx hb dX8_petitions_116 (lv_at hl 0 rfl) ?_
                refine lv_iconst (v := nI 2) hx hb dX8_petitions_118 (by decide) ?_
                refine lv_iadd hx hb dX8_petitions_119 ?_
                refine lv_as (y := nI (5 * (mn r) + 86)) (nI_addc (by omega)) ?_
                refine lv_iload_n hx hb dX8_petitions_120 rfl (lv_at hl 5 rfl) ?_
                refine rs_st X h (5 * (mn r) + 86) (congrArg nI (by omega)) (by omega) dX8_petitions_121 (fun H locs h => ?_)
                refine lv_aload_n hx hb dX8_petitions_122 rfl (lv_at hl 2 rfl) ?_
                refine fg_X8_7 X h dX8_petitions_123 ?_
                refine lv_iload hx hb dX8_petitions_126 (lv_at hl 0 rfl) ?_
                refine lv_iconst (v := nI 3) hx hb dX8_petitions_128 (by decide) ?_
                refine lv_iadd hx hb dX8_petitions_129 ?_
                refine lv_as (y := nI (5 * (mn r) + 87)) (nI_addc (by omega)) ?_
                refine lv_iload hx hb dX8_petitions_130 (lv_at hl 6 rfl) ?_
                refine rs_st X h (5 * (mn r) + 87) (congrArg nI (by omega)) (by omega) dX8_petitions_132 (fun H locs h => ?_)
                refine lv_aload_n hx hb dX8_petitions_133 rfl (lv_at hl 2 rfl) ?_
                refine fg_X8_7 X h dX8_petitions_134 ?_
                refine lv_iload hx hb dX8_petitions_137 (lv_at hl 0 rfl) ?_
                refine lv_iconst (v := nI 4) hx hb dX8_petitions_139 (by decide) ?_
                refine lv_iadd hx hb dX8_petitions_140 ?_
                refine lv_as (y := nI (5 * (mn r) + 88)) (nI_addc (by omega)) ?_
                refine lv_iconst (v := nI 0) hx hb dX8_petitions_141 (by decide) ?_
                refine rs_st X h (5 * (mn r) + 88) (congrArg nI (by omega)) (by omega) dX8_petitions_142 (fun H locs h => ?_)
                refine lv_aload_n hx hb dX8_petitions_143 rfl (lv_at hl 2 rfl) ?_
                refine fg_X8_7 X h dX8_petitions_144 ?_
                refine lv_iload hx hb dX8_petitions_147 (lv_at hl 1 rfl) ?_
                refine lv_iconst (v := nI 2) hx hb dX8_petitions_149 (by decide) ?_
                refine lv_iadd hx hb dX8_petitions_150 ?_
                refine lv_as (y := nI (6 * D + 14)) (nI_addc (by omega)) ?_
                refine lv_aload_n hx hb dX8_petitions_151 rfl (lv_at hl 2 rfl) ?_
                refine fg_X8_7 X h dX8_petitions_152 ?_
                refine lv_bipush (v := nI 6) hx hb dX8_petitions_155 (by decide) ?_
                refine rs_ld X h 0 (6) (congrArg nI (by omega)) (by omega) dX8_petitions_157 ?_
                refine lv_as (y := nI ((mn r))) (((congrFun (RG_row G 0 (upd (upd (upd (upd (upd r (5 * (mn r) + 84) (nI D)) (5 * (mn r) + 85) x) (5 * (mn r) + 86) g) (5 * (mn r) + 87) k) (5 * (mn r) + 88) (nI 0))) _).trans (by rw [upd_n (by omega), upd_n (by omega), upd_n (by omega), upd_n (by omega), upd_n (by omega)])).trans (w3)) ?_
                refine rs_st X h (6 * D + 14) (congrArg nI (by omega)) (by omega) dX8_petitions_158 (fun H locs h => ?_)
                refine lv_aload_n hx hb dX8_petitions_159 rfl (lv_at hl 2 rfl) ?_
                refine fg_X8_7 X h dX8_petitions_160 ?_
                refine lv_iload hx hb dX8_petitions_163 (lv_at hl 1 rfl) ?_
                refine lv_iconst (v := nI 3) hx hb dX8_petitions_165 (by decide) ?_
                refine lv_iadd hx hb dX8_petitions_166 ?_
                refine lv_as (y := nI (6 * D + 15)) (nI_addc (by omega)) ?_
                refine lv_dup2_11 hx hb dX8_petitions_167 rfl rfl ?_
                refine rs_ld X h 0 (6 * D + 15) (congrArg nI (by omega)) (by omega) dX8_petitions_168 ?_
                refine lv_as (y := r (6 * D + 15)) ((congrFun (RG_row G 0 (upd (upd (upd (upd (upd (upd r (5 * (mn r) + 84) (nI D)) (5 * (mn r) + 85) x) (5 * (mn r) + 86) g) (5 * (mn r) + 87) k) (5 * (mn r) + 88) (nI 0)) (6 * D + 14) (nI ((mn r))))) _).trans (by rw [upd_n (by omega), upd_n (by omega), upd_n (by omega), upd_n (by omega), upd_n (by omega), upd_n (by omega)])) ?_
                refine lv_iconst (v := nI 1) hx hb dX8_petitions_169 (by decide) ?_
                refine lv_iadd hx hb dX8_petitions_170 ?_
                refine rs_st X h (6 * D + 15) (congrArg nI (by omega)) (by omega) dX8_petitions_171 (fun H locs h => ?_)
                refine lv_aload_n hx hb dX8_petitions_172 rfl (lv_at hl 2 rfl) ?_
                refine fg_X8_7 X h dX8_petitions_173 ?_
                refine lv_bipush (v := nI 7) hx hb dX8_petitions_176 (by decide) ?_
                refine lv_dup2_11 hx hb dX8_petitions_178 rfl rfl ?_
                refine rs_ld X h 0 (7) (congrArg nI (by omega)) (by omega) dX8_petitions_179 ?_
                refine lv_as (y := r 7) ((congrFun (RG_row G 0 (upd (upd (upd (upd (upd (upd (upd r (5 * (mn r) + 84) (nI D)) (5 * (mn r) + 85) x) (5 * (mn r) + 86) g) (5 * (mn r) + 87) k) (5 * (mn r) + 88) (nI 0)) (6 * D + 14) (nI ((mn r)))) (6 * D + 15) ((r (6 * D + 15)) + (nI 1)))) _).trans (by rw [upd_n (by omega), upd_n (by omega), upd_n (by omega), upd_n (by omega), upd_n (by omega), upd_n (by omega), upd_n (by omega)])) ?_
                refine lv_iconst (v := nI 1) hx hb dX8_petitions_180 (by decide) ?_
                refine lv_iadd hx hb dX8_petitions_181 ?_
                refine rs_st X h (7) (congrArg nI (by omega)) (by omega) dX8_petitions_182 (fun H locs h => ?_)
                refine lv_aload_n hx hb dX8_petitions_183 rfl (lv_at hl 2 rfl) ?_
                refine fg_X8_7 X h dX8_petitions_184 ?_
                refine lv_bipush (v := nI 6) hx hb dX8_petitions_187 (by decide) ?_
                refine lv_dup2_11 hx hb dX8_petitions_189 rfl rfl ?_
                refine rs_ld X h 0 (6) (congrArg nI (by omega)) (by omega) dX8_petitions_190 ?_
                refine lv_as (y := nI ((mn r))) (((congrFun (RG_row G 0 (upd (upd (upd (upd (upd (upd (upd (upd r (5 * (mn r) + 84) (nI D)) (5 * (mn r) + 85) x) (5 * (mn r) + 86) g) (5 * (mn r) + 87) k) (5 * (mn r) + 88) (nI 0)) (6 * D + 14) (nI ((mn r)))) (6 * D + 15) ((r (6 * D + 15)) + (nI 1))) 7 ((r 7) + (nI 1)))) _).trans (by rw [upd_n (by omega), upd_n (by omega), upd_n (by omega), upd_n (by omega), upd_n (by omega), upd_n (by omega), upd_n (by omega), upd_n (by omega)])).trans (w3)) ?_
                refine lv_iconst (v := nI 1) hx hb dX8_petitions_191 (by decide) ?_
                refine lv_iadd hx hb dX8_petitions_192 ?_
                refine lv_as (y := nI ((mn r) + 1)) (nI_addc (by omega)) ?_
                refine rs_st X h (6) (congrArg nI (by omega)) (by omega) dX8_petitions_193 (fun H locs h => ?_)
                refine lv_aload_n hx hb dX8_petitions_194 rfl (lv_at hl 2 rfl) ?_
                refine fg_X8_7 X h dX8_petitions_195 ?_
                refine lv_bipush (v := nI 6) hx hb dX8_petitions_198 (by decide) ?_
                refine rs_ld X h 0 (6) (congrArg nI (by omega)) (by omega) dX8_petitions_200 ?_
                refine lv_as (y := nI ((mn r) + 1)) ((congrFun (RG_row G 0 (upd (upd (upd (upd (upd (upd (upd (upd (upd r (5 * (mn r) + 84) (nI D)) (5 * (mn r) + 85) x) (5 * (mn r) + 86) g) (5 * (mn r) + 87) k) (5 * (mn r) + 88) (nI 0)) (6 * D + 14) (nI ((mn r)))) (6 * D + 15) ((r (6 * D + 15)) + (nI 1))) 7 ((r 7) + (nI 1))) 6 (nI ((mn r) + 1)))) _).trans (by rw [upd_s])) ?_
                refine lv_iconst (v := nI 1) hx hb dX8_petitions_201 (by decide) ?_
                refine lv_isub hx hb dX8_petitions_202 ?_
                refine lv_as (y := nI ((mn r))) (nI_subc (by omega)) ?_
                exact hret (nI ((mn r))) (RG G 0 (upd (upd (upd (upd (upd (upd (upd (upd (upd r (5 * (mn r) + 84) (nI D)) (5 * (mn r) + 85) x) (5 * (mn r) + 86) g) (5 * (mn r) + 87) k) (5 * (mn r) + 88) (nI 0)) (6 * D + 14) (nI ((mn r)))) (6 * D + 15) ((r (6 * D + 15)) + (nI 1))) 7 ((r 7) + (nI 1))) 6 (nI ((mn r) + 1)))) _ _ 203 _ (⟨by unfold ptA; rw [cif_t ⟨⟨D, hD, rfl⟩, Classical.not_not.mp c_15, Classical.not_not.mp c_22⟩, cif_t (Classical.not_not.mp c_34), cif_t (show ptF r (nI D) x by unfold ptF; rw [tn_nI (show D < 2 ^ 31 by omega)]; exact ⟨c_58, by first | exact Or.inl c_64 | exact Or.inr c_75⟩)], by unfold ptR; rw [cif_t ⟨⟨⟨D, hD, rfl⟩, Classical.not_not.mp c_15, Classical.not_not.mp c_22⟩, Classical.not_not.mp c_34, (show ptF r (nI D) x by unfold ptF; rw [tn_nI (show D < 2 ^ 31 by omega)]; exact ⟨c_58, by first | exact Or.inl c_64 | exact Or.inr c_75⟩)⟩, tn_nI (show D < 2 ^ 31 by omega)]⟩) h dX8_petitions_203
              · refine lv_bipush (v := (-4)) hx hb dX8_petitions_78 (by decide) ?_
                exact hret (-4) (RG G 0 r) _ _ 80 _ (⟨by unfold ptA; rw [cif_t ⟨⟨D, hD, rfl⟩, Classical.not_not.mp c_15, Classical.not_not.mp c_22⟩, cif_t (Classical.not_not.mp c_34), cif_f (fun q => by unfold ptF at q; rw [tn_nI (show D < 2 ^ 31 by omega)] at q; first | exact c_58 q.1 | exact q.2.elim c_64 c_75)], by unfold ptR; rw [cif_f (fun q => ((fun q => by unfold ptF at q; rw [tn_nI (show D < 2 ^ 31 by omega)] at q; first | exact c_58 q.1 | exact q.2.elim c_64 c_75) : ¬ ptF r (nI D) x) q.2.2)]⟩) h dX8_petitions_80
        · rw [b2_z] at c_34
          refine lv_bipush (v := (-2)) hx hb dX8_petitions_37 (by decide) ?_
          exact hret (-2) (RG G 0 r) _ _ 39 _ (⟨by unfold ptA; rw [cif_t ⟨⟨D, hD, rfl⟩, Classical.not_not.mp c_15, Classical.not_not.mp c_22⟩, cif_f c_34], by unfold ptR; rw [cif_f (fun q => c_34 q.2.1)]⟩) h dX8_petitions_39
      · rw [b2_z] at c_22
        refine lv_iconst (v := (-1)) hx hb dX8_petitions_25 (by decide) ?_
        exact hret (-1) (RG G 0 r) _ _ 26 _ (⟨by unfold ptA; rw [cif_f (fun q => by first | exact c_5 q.1 | exact c_15 q.2.1 | exact c_22 q.2.2)], by unfold ptR; rw [cif_f (fun q => by first | exact c_5 q.1.1 | exact c_15 q.1.2.1 | exact c_22 q.1.2.2)]⟩) h dX8_petitions_26
set_option maxHeartbeats 4000000 in
set_option maxRecDepth 100000 in
theorem c_X8_seconds (l : Launch) (J : JJ) (z : Nat) (ad : Nat → Nat) (G : GG) (r : Nat → Int32) (hW : WR r) (d q : Int32) : MI l J z ad yX8_seconds cX8_seconds 4 .int 2 [.ref (ad 210), .int d, .int q] (RG G 0 r) (fun ans uG => ans = (scA r d q) ∧ uG = (RG G 0 (scR r d q))) := by
  refine MI.go (by decide) (Nat.le_of_ble_eq_true rfl) ?_
  intro pr e s m args below meth c ls Q X h hl hret
  have hx := X.1
  have hb := X.2.1
  have hown := X.2.2.2.1
  have hts := X.2.2.2.2
  have hl : lv_has ls 4 [(0, .ref (ad 210)), (1, .int d), (2, .int q)] := hl
  have hW0 := hW
  obtain ⟨⟨w1, w2⟩, ⟨w3, w4⟩, ⟨w5, w6⟩, w7, w8⟩ := hW
  refine lv_aload_n hx hb dX8_seconds_0 rfl (lv_at hl 0 rfl) ?_
  refine lv_iload_n hx hb dX8_seconds_1 rfl (lv_at hl 1 rfl) ?_
  refine rg_civd (As := [.int d]) (rest := []) X hl.1 h (c_X8_isDrone l J z ad (RG G 0 r) r (RG_row G 0 r) w1 w2 d) mw_223 mw_224 mw_225 mw_5 mw_226 pdX8_isDrone (by decide) (xo_210 J ad _) rfl rfl ⟨Nat.le_of_ble_eq_true rfl, Nat.le_of_ble_eq_true rfl⟩ ⟨Nat.le_of_ble_eq_true rfl, Nat.le_of_ble_eq_true rfl⟩ rfl (Nat.le_of_ble_eq_true rfl) dX8_seconds_2 (fun H locs h => ?_)
  refine lv_if_eq (tgt := 16) hx hb dX8_seconds_5 (by decide) (fun c_5 => ?_) (fun c_5 => ?_)
  · rw [b2_z] at c_5
    refine lv_iconst (v := (-1)) hx hb dX8_seconds_16 (by decide) ?_
    exact hret (-1) (RG G 0 r) _ _ 17 _ (⟨by unfold scA; rw [cif_f (fun q => by first | exact c_5 q.1 | exact c_13 q.2)], by unfold scR; rw [cif_f (fun q => by first | exact c_5 q.1.1 | exact c_13 q.1.2)]⟩) h dX8_seconds_17
  · rw [b2_z] at c_5
    obtain ⟨D, hD, rfl⟩ := Classical.not_not.mp c_5
    refine lv_aload_n hx hb dX8_seconds_8 rfl (lv_at hl 0 rfl) ?_
    refine lv_iload_n hx hb dX8_seconds_9 rfl (lv_at hl 2 rfl) ?_
    refine rg_civd (As := [.int q]) (rest := []) X hl.1 h (c_X8_isPetition l J z ad (RG G 0 r) r (RG_row G 0 r) w3 w4 q) mw_287 mw_288 mw_289 mw_5 mw_290 pdX8_isPetition (by decide) (xo_210 J ad _) rfl rfl ⟨Nat.le_of_ble_eq_true rfl, Nat.le_of_ble_eq_true rfl⟩ ⟨Nat.le_of_ble_eq_true rfl, Nat.le_of_ble_eq_true rfl⟩ rfl (Nat.le_of_ble_eq_true rfl) dX8_seconds_10 (fun H locs h => ?_)
    refine lv_if_ne (tgt := 18) hx hb dX8_seconds_13 (by decide) (fun c_13 => ?_) (fun c_13 => ?_)
    · rw [b2_z] at c_13
      obtain ⟨q2, hq2, rfl⟩ := Classical.not_not.mp c_13
      have T2 : tn (nI q2) = q2 := tn_nI (by omega)
      obtain ⟨v1, v2, v3, v4, v5, v6, v7, v8⟩ := w7 q2 hq2
      refine lv_iconst (v := nI 0) hx hb dX8_seconds_18 (by decide) ?_
      refine lv_iload_n hx hb dX8_seconds_19 rfl (lv_at hl 2 rfl) ?_
      refine rg_cisd (As := [.int (nI 0), .int (nI q2)]) (rest := []) X hl.1 h (c_X8_petitionAt l J z ad (RG G 0 r) 0 q2) mw_261 mw_262 mw_5 mw_263 pdX8_petitionAt ⟨Nat.le_of_ble_eq_true rfl, Nat.le_of_ble_eq_true rfl⟩ ⟨Nat.le_of_ble_eq_true rfl, Nat.le_of_ble_eq_true rfl⟩ rfl (Nat.le_of_ble_eq_true rfl) dX8_seconds_20 (fun H locs h => ?_)
      refine lv_as (y := nI (5 * q2 + 84)) (congrArg nI (by omega)) ?_
      refine lv_istore_n (lv' := [(3, .int (nI (5 * q2 + 84))), (0, .ref (ad 210)), (1, .int (nI D)), (2, .int (nI q2))]) hx hb dX8_seconds_23 rfl hl (by decide) rfl (fun ls hl => ?_)
      refine lv_aload_n hx hb dX8_seconds_24 rfl (lv_at hl 1 rfl) ?_
      refine fg_X8_7 X h dX8_seconds_25 ?_
      refine lv_iload_n hx hb dX8_seconds_28 rfl (lv_at hl 0 rfl) ?_
      refine rs_ld X h 0 (5 * q2 + 84) (congrArg nI (by omega)) (by omega) dX8_seconds_29 ?_
      refine lv_as (y := nI ((pd r q2))) ((congrFun (RG_row G 0 r) _).trans (v1)) ?_
      refine lv_iload_n hx hb dX8_seconds_30 rfl (lv_at hl 2 rfl) ?_
      refine lv_icmp_ne (tgt := 37) hx hb dX8_seconds_31 (by decide) (fun c_31 => ?_) (fun c_31 => ?_)
      · rw [nI_eq (by omega) (by omega)] at c_31
        refine lv_aload_n hx hb dX8_seconds_37 rfl (lv_at hl 1 rfl) ?_
        refine fg_X8_7 X h dX8_seconds_38 ?_
        refine lv_iload_n hx hb dX8_seconds_41 rfl (lv_at hl 0 rfl) ?_
        refine lv_iconst (v := nI 4) hx hb dX8_seconds_42 (by decide) ?_
        refine lv_iadd hx hb dX8_seconds_43 ?_
        refine lv_as (y := nI (5 * q2 + 88)) (nI_addc (by omega)) ?_
        refine rs_ld X h 0 (5 * q2 + 88) (congrArg nI (by omega)) (by omega) dX8_seconds_44 ?_
        refine lv_as (y := r (5 * q2 + 88)) (congrFun (RG_row G 0 r) _) ?_
        refine lv_iload_n hx hb dX8_seconds_45 rfl (lv_at hl 2 rfl) ?_
        refine lv_ishr hx hb dX8_seconds_46 ?_
        refine lv_iconst (v := nI 1) hx hb dX8_seconds_47 (by decide) ?_
        refine lv_iand hx hb dX8_seconds_48 ?_
        refine lv_iconst (v := nI 1) hx hb dX8_seconds_49 (by decide) ?_
        refine lv_icmp_ne (tgt := 56) hx hb dX8_seconds_50 (by decide) (fun c_50 => ?_) (fun c_50 => ?_)
        · refine lv_aload_n hx hb dX8_seconds_56 rfl (lv_at hl 1 rfl) ?_
          refine fg_X8_7 X h dX8_seconds_57 ?_
          refine lv_iload_n hx hb dX8_seconds_60 rfl (lv_at hl 0 rfl) ?_
          refine lv_iconst (v := nI 4) hx hb dX8_seconds_61 (by decide) ?_
          refine lv_iadd hx hb dX8_seconds_62 ?_
          refine lv_as (y := nI (5 * q2 + 88)) (nI_addc (by omega)) ?_
          refine lv_dup2_11 hx hb dX8_seconds_63 rfl rfl ?_
          refine rs_ld X h 0 (5 * q2 + 88) (congrArg nI (by omega)) (by omega) dX8_seconds_64 ?_
          refine lv_as (y := r (5 * q2 + 88)) (congrFun (RG_row G 0 r) _) ?_
          refine lv_iconst (v := nI 1) hx hb dX8_seconds_65 (by decide) ?_
          refine lv_iload_n hx hb dX8_seconds_66 rfl (lv_at hl 2 rfl) ?_
          refine lv_ishl hx hb dX8_seconds_67 ?_
          refine lv_ior hx hb dX8_seconds_68 ?_
          refine rs_st X h (5 * q2 + 88) (congrArg nI (by omega)) (by omega) dX8_seconds_69 (fun H locs h => ?_)
          have hne : r (5 * (tn (nI q2)) + 84) ≠ nI D := by
            rw [T2, v1]
            intro hq3
            exact c_31 ((nI_eq (by omega) (by omega)).mp hq3)
          have hsb : ¬ sbit r (tn (nI q2)) (nI D) := by
            rw [T2]
            exact c_50
          have eR : scR r (nI D) (nI q2) = upd r (5 * q2 + 88) (r (5 * q2 + 88) ||| (nI 1 <<< (nI D &&& 31))) := by
            unfold scR
            rw [cif_t ⟨⟨⟨D, hD, rfl⟩, ⟨q2, hq2, rfl⟩⟩, hne, hsb⟩, T2]
          rw [← eR] at h
          have hL : ∀ k, k ≠ 5 * q2 + 88 → scR r (nI D) (nI q2) k = r k := fun k hk => by rw [eR, upd_n hk]
          have hW2 : WR (scR r (nI D) (nI q2)) := by
            rw [eR]
            exact WRs hW0 hq2 _
          have hm2 : q2 < mn (scR r (nI D) (nI q2)) := by
            show q2 < tn _
            rw [hL 6 (by omega)]
            exact hq2
          refine lv_aload_n hx hb dX8_seconds_70 rfl (lv_at hl 1 rfl) ?_
          refine lv_iconst (v := nI 0) hx hb dX8_seconds_71 (by decide) ?_
          refine lv_iload_n hx hb dX8_seconds_72 rfl (lv_at hl 3 rfl) ?_
          refine rg_civd (As := [.int (nI 0), .int (nI q2)]) (rest := []) X hl.1 h (c_X8_support l J z ad (RG G 0 (scR r (nI D) (nI q2))) (scR r (nI D) (nI q2)) 0 (by omega) (RG_row G 0 _) hW2 q2 hm2) mw_291 mw_292 mw_293 mw_5 mw_294 pdX8_support (by decide) (xo_210 J ad _) rfl rfl ⟨Nat.le_of_ble_eq_true rfl, Nat.le_of_ble_eq_true rfl⟩ ⟨Nat.le_of_ble_eq_true rfl, Nat.le_of_ble_eq_true rfl⟩ rfl (Nat.le_of_ble_eq_true rfl) dX8_seconds_73 (fun H locs h => ?_)
          exact hret (supp (scR r (nI D) (nI q2)) q2) (RG G 0 (scR r (nI D) (nI q2))) _ _ 76 _ (⟨by unfold scA; rw [cif_t ⟨⟨D, hD, rfl⟩, ⟨q2, hq2, rfl⟩⟩, if_neg (by rw [T2, v1, nI_eq (by omega) (by omega)]; exact c_31), cif_f (by rw [T2]; exact c_50), T2], rfl⟩) h dX8_seconds_76
        · refine lv_bipush (v := (-5)) hx hb dX8_seconds_53 (by decide) ?_
          exact hret (-5) (RG G 0 r) _ _ 55 _ (⟨by unfold scA; rw [cif_t ⟨⟨D, hD, rfl⟩, ⟨q2, hq2, rfl⟩⟩, if_neg (by rw [T2, v1, nI_eq (by omega) (by omega)]; exact c_31), cif_t (by rw [T2]; exact c_50)], by unfold scR; rw [cif_f (fun q => q.2.2 (by rw [T2]; exact c_50))]⟩) h dX8_seconds_55
      · rw [nI_eq (by omega) (by omega)] at c_31
        refine lv_bipush (v := (-4)) hx hb dX8_seconds_34 (by decide) ?_
        exact hret (-4) (RG G 0 r) _ _ 36 _ (⟨by unfold scA; rw [cif_t ⟨⟨D, hD, rfl⟩, ⟨q2, hq2, rfl⟩⟩, if_pos (by rw [T2, v1, c_31])], by unfold scR; rw [cif_f (fun q => q.2.1 (by rw [T2, v1, c_31]))]⟩) h dX8_seconds_36
    · rw [b2_z] at c_13
      refine lv_iconst (v := (-1)) hx hb dX8_seconds_16 (by decide) ?_
      exact hret (-1) (RG G 0 r) _ _ 17 _ (⟨by unfold scA; rw [cif_f (fun q => by first | exact c_5 q.1 | exact c_13 q.2)], by unfold scR; rw [cif_f (fun q => by first | exact c_5 q.1.1 | exact c_13 q.1.2)]⟩) h dX8_seconds_17
set_option maxHeartbeats 4000000 in
set_option maxRecDepth 100000 in
theorem c_X8_sets (l : Launch) (J : JJ) (z : Nat) (ad : Nat → Nat) (G : GG) (r : Nat → Int32) (hW : WR r) (x v : Int32) : MI l J z ad yX8_sets cX8_sets 4 .int 1 [.ref (ad 210), .int x, .int v] (RG G 0 r) (fun ans uG => ans = (stA r x v) ∧ uG = (RG G 0 (stR r x v))) := by
  refine MI.go (by decide) (Nat.le_of_ble_eq_true rfl) ?_
  intro pr e s m args below meth c ls Q X h hl hret
  have hx := X.1
  have hb := X.2.1
  have hown := X.2.2.2.1
  have hts := X.2.2.2.2
  have hl : lv_has ls 4 [(0, .ref (ad 210)), (1, .int x), (2, .int v)] := hl
  have hW0 := hW
  obtain ⟨⟨w1, w2⟩, ⟨w3, w4⟩, ⟨w5, w6⟩, w7, w8⟩ := hW
  refine lv_iload_n hx hb dX8_sets_0 rfl (lv_at hl 1 rfl) ?_
  refine lv_iconst (v := nI 0) hx hb dX8_sets_1 (by decide) ?_
  refine lv_iconst (v := nI 1) hx hb dX8_sets_2 (by decide) ?_
  refine rg_cisd (As := [.int x, .int (nI 0), .int (nI 1)]) (rest := []) X hl.1 h (c_X8_inN l J z ad (RG G 0 r) x 0 1 (by omega) (by omega)) mw_187 mw_188 mw_5 mw_189 pdX8_in ⟨Nat.le_of_ble_eq_true rfl, Nat.le_of_ble_eq_true rfl⟩ ⟨Nat.le_of_ble_eq_true rfl, Nat.le_of_ble_eq_true rfl⟩ rfl (Nat.le_of_ble_eq_true rfl) dX8_sets_3 (fun H locs h => ?_)
  refine lv_if_ne (tgt := 11) hx hb dX8_sets_6 (by decide) (fun c_6 => ?_) (fun c_6 => ?_)
  · rw [b2_z] at c_6
    obtain ⟨X2, -, hX2, rfl⟩ := Classical.not_not.mp c_6
    have T2 : tn (nI X2) = X2 := tn_nI (by omega)
    refine lv_iload_n hx hb dX8_sets_11 rfl (lv_at hl 2 rfl) ?_
    refine lv_iload_n hx hb dX8_sets_12 rfl (lv_at hl 1 rfl) ?_
    refine lv_bipush (v := nI 60) hx hb dX8_sets_13 (by decide) ?_
    refine rg_cisd (As := [.int v, .int (nI X2), .int (nI 60)]) (rest := []) X hl.1 h (c_X8_inN l J z ad (RG G 0 r) v X2 60 (by omega) (by omega)) mw_187 mw_188 mw_5 mw_189 pdX8_in ⟨Nat.le_of_ble_eq_true rfl, Nat.le_of_ble_eq_true rfl⟩ ⟨Nat.le_of_ble_eq_true rfl, Nat.le_of_ble_eq_true rfl⟩ rfl (Nat.le_of_ble_eq_true rfl) dX8_sets_15 (fun H locs h => ?_)
    refine lv_if_ne (tgt := 24) hx hb dX8_sets_18 (by decide) (fun c_18 => ?_) (fun c_18 => ?_)
    · rw [b2_z] at c_18
      refine lv_aload_n hx hb dX8_sets_24 rfl (lv_at hl 0 rfl) ?_
      refine fg_X8_7 X h dX8_sets_25 ?_
      refine lv_iload_n hx hb dX8_sets_28 rfl (lv_at hl 1 rfl) ?_
      refine rs_ld X h 0 (X2) (congrArg nI (by omega)) (by omega) dX8_sets_29 ?_
      refine lv_as (y := r X2) (congrFun (RG_row G 0 r) _) ?_
      refine lv_istore_n (lv' := [(3, .int (r X2)), (0, .ref (ad 210)), (1, .int (nI X2)), (2, .int v)]) hx hb dX8_sets_30 rfl hl (by decide) rfl (fun ls hl => ?_)
      refine lv_aload_n hx hb dX8_sets_31 rfl (lv_at hl 1 rfl) ?_
      refine fg_X8_7 X h dX8_sets_32 ?_
      refine lv_iload_n hx hb dX8_sets_35 rfl (lv_at hl 2 rfl) ?_
      refine lv_iload_n hx hb dX8_sets_36 rfl (lv_at hl 3 rfl) ?_
      refine rs_st X h (X2) (congrArg nI (by omega)) (by omega) dX8_sets_37 (fun H locs h => ?_)
      refine lv_iload_n hx hb dX8_sets_38 rfl (lv_at hl 0 rfl) ?_
      refine lv_iload_n hx hb dX8_sets_39 rfl (lv_at hl 3 rfl) ?_
      refine lv_icmp_ne (tgt := 48) hx hb dX8_sets_40 (by decide) (fun c_40 => ?_) (fun c_40 => ?_)
      · refine lv_iload_n hx hb dX8_sets_48 rfl (lv_at hl 0 rfl) ?_
        exact hret (r X2) (RG G 0 (upd r X2 v)) _ _ 49 _ (⟨by unfold stA; rw [cif_t ⟨X2, Nat.zero_le _, hX2, rfl⟩, T2, cif_t (Classical.not_not.mp c_18), if_neg c_40], by unfold stR; rw [T2, cif_t ⟨⟨X2, Nat.zero_le _, hX2, rfl⟩, (Classical.not_not.mp c_18)⟩]⟩) h dX8_sets_49
      · refine lv_bipush (v := (-5)) hx hb dX8_sets_43 (by decide) ?_
        refine lv_goto (tgt := 49) hx hb dX8_sets_45 (by decide) ?_
        exact hret (-5) (RG G 0 (upd r X2 v)) _ _ 49 _ (⟨by unfold stA; rw [cif_t ⟨X2, Nat.zero_le _, hX2, rfl⟩, T2, cif_t (Classical.not_not.mp c_18), if_pos c_40], by unfold stR; rw [T2, cif_t ⟨⟨X2, Nat.zero_le _, hX2, rfl⟩, (Classical.not_not.mp c_18)⟩]⟩) h dX8_sets_49
    · rw [b2_z] at c_18
      refine lv_bipush (v := (-2)) hx hb dX8_sets_21 (by decide) ?_
      exact hret (-2) (RG G 0 r) _ _ 23 _ (⟨by unfold stA; rw [cif_t ⟨X2, Nat.zero_le _, hX2, rfl⟩, T2, cif_f c_18], by unfold stR; rw [cif_f (fun q => c_18 (by have := q.2; rw [T2] at this; exact this))]⟩) h dX8_sets_23
  · rw [b2_z] at c_6
    refine lv_iconst (v := (-1)) hx hb dX8_sets_9 (by decide) ?_
    exact hret (-1) (RG G 0 r) _ _ 10 _ (⟨by unfold stA; rw [cif_f c_6], by unfold stR; rw [cif_f (fun q => c_6 q.1)]⟩) h dX8_sets_10
set_option maxHeartbeats 4000000 in
set_option maxRecDepth 100000 in
theorem c_X8_ends (l : Launch) (J : JJ) (z : Nat) (ad : Nat → Nat) (G : GG) (r : Nat → Int32) (hW : WR r) (n : Int32) : MI l J z ad yX8_ends cX8_ends 4 .int 5 [.ref (ad 210), .int n] (RG G 0 r) (fun ans uG => ∃ (og g : Nat → Int32), ans = edA r n ∧ uG = RG (u1 (u1 G 213 og) 214 g) 0 (edR r n)) := by
  refine MI.go (by decide) (Nat.le_of_ble_eq_true rfl) ?_
  intro pr e s m args below meth c ls Q X h hl hret
  have hx := X.1
  have hb := X.2.1
  have hown := X.2.2.2.1
  have hts := X.2.2.2.2
  have hl : lv_has ls 4 [(0, .ref (ad 210)), (1, .int n)] := hl
  have hW0 := hW
  refine lv_iload_n hx hb dX8_ends_0 rfl (lv_at hl 1 rfl) ?_
  refine lv_iconst (v := nI 1) hx hb dX8_ends_1 (by decide) ?_
  refine lv_bipush (v := nI 99) hx hb dX8_ends_2 (by decide) ?_
  refine rg_cisd (As := [.int n, .int (nI 1), .int (nI 99)]) (rest := []) X hl.1 h (c_X8_inN l J z ad (RG G 0 r) n 1 99 (by omega) (by omega)) mw_187 mw_188 mw_5 mw_189 pdX8_in ⟨Nat.le_of_ble_eq_true rfl, Nat.le_of_ble_eq_true rfl⟩ ⟨Nat.le_of_ble_eq_true rfl, Nat.le_of_ble_eq_true rfl⟩ rfl (Nat.le_of_ble_eq_true rfl) dX8_ends_4 (fun H locs h => ?_)
  refine lv_if_ne (tgt := 13) hx hb dX8_ends_7 (by decide) (fun c_7 => ?_) (fun c_7 => ?_)
  · rw [b2_z] at c_7
    obtain ⟨N2, hN1, hN2, rfl⟩ := Classical.not_not.mp c_7
    have T2 : tn (nI N2) = N2 := tn_nI (by omega)
    refine lv_aload_n hx hb dX8_ends_13 rfl (lv_at hl 0 rfl) ?_
    refine fg_X8_7 X h dX8_ends_14 ?_
    refine lv_iconst (v := nI 2) hx hb dX8_ends_17 (by decide) ?_
    refine rs_ld X h 0 (2) (congrArg nI (by omega)) (by omega) dX8_ends_18 ?_
    refine lv_as (y := r 2) (congrFun (RG_row G 0 r) _) ?_
    refine lv_iload_n hx hb dX8_ends_19 rfl (lv_at hl 1 rfl) ?_
    refine lv_iadd hx hb dX8_ends_20 ?_
    refine lv_ldc (v := nI 99999) hx hb hown (hts _ mw_369) dX8_ends_21 ?_
    refine lv_icmp_le (tgt := 29) hx hb dX8_ends_23 (by decide) (fun c_23 => ?_) (fun c_23 => ?_)
    · refine lv_iconst (v := nI 0) hx hb dX8_ends_29 (by decide) ?_
      refine lv_istore_n (lv' := [(2, .int (nI 0)), (0, .ref (ad 210)), (1, .int (nI N2))]) hx hb dX8_ends_30 rfl hl (by decide) rfl (fun ls hl => ?_)
      refine lv_iconst (v := nI 0) hx hb dX8_ends_31 (by decide) ?_
      refine lv_istore_n (lv' := [(3, .int (nI 0)), (2, .int (nI 0)), (0, .ref (ad 210)), (1, .int (nI N2))]) hx hb dX8_ends_32 rfl hl (by decide) rfl (fun ls hl => ?_)
      have LP : ∀ (n i : Nat), N2 + 1 ≤ i + n → i ≤ N2 → ∀ (og g x : Nat → Int32) (a : Nat), edI r i = (x, a) → ∀ (H : Heap) (locs : List Loc) (ls : Array Slot), HG J z ad s (RG (u1 (u1 G 213 og) 214 g) 0 x) H locs → lv_has ls 4 [(0, .ref (ad 210)), (1, .int (nI N2)), (2, .int (nI a)), (3, .int (nI i))] → W pr l e (rmD 5 0 0) s m args below meth c H locs 0 0 Q (F0 m 33 ls []) := by
        intro n
        induction n with
        | zero =>
          intro i g1 g2
          exact absurd g1 (by omega)
        | succ n ih =>
          intro i g1 g2 og g x a hE H locs ls h hl
          have hWx : WR x := by
            have := edI_WR hW0 i
            rw [hE] at this
            exact this
          refine lv_iload_n hx hb dX8_ends_33 rfl (lv_at hl 3 rfl) ?_
          refine lv_iload_n hx hb dX8_ends_34 rfl (lv_at hl 1 rfl) ?_
          refine lv_icmp_ge (tgt := 52) hx hb dX8_ends_35 (by decide) (fun c_35 => ?_) (fun c_35 => ?_)
          · rw [nI_leI (by omega) (by omega)] at c_35
            refine lv_iload_n hx hb dX8_ends_52 rfl (lv_at hl 2 rfl) ?_
            exact hret (nI a) (RG (u1 (u1 G 213 og) 214 g) 0 x) _ _ 53 _ (⟨og, g, by unfold edA; rw [cif_t ⟨N2, hN1, hN2, rfl⟩, if_pos c_23, T2, show N2 = i by omega, hE], by unfold edR; rw [cif_t ⟨⟨N2, hN1, hN2, rfl⟩, c_23⟩, T2, show N2 = i by omega, hE]⟩) h dX8_ends_53
          · rw [nI_leI (by omega) (by omega)] at c_35
            refine lv_iload_n hx hb dX8_ends_38 rfl (lv_at hl 2 rfl) ?_
            refine lv_aload_n hx hb dX8_ends_39 rfl (lv_at hl 0 rfl) ?_
            refine lv_iconst (v := nI 0) hx hb dX8_ends_40 (by decide) ?_
            refine rg_civ (As := [.int (nI 0)]) (rest := [.int (nI a)]) X hl.1 h (c_X8_day l J z ad (u1 (u1 G 213 og) 214 g) x 0 (by omega) hWx) mw_370 mw_371 mw_372 mw_5 mw_373 pdX8_day (by decide) (xo_210 J ad _) rfl rfl ⟨Nat.le_of_ble_eq_true rfl, Nat.le_of_ble_eq_true rfl⟩ ⟨Nat.le_of_ble_eq_true rfl, Nat.le_of_ble_eq_true rfl⟩ rfl (Nat.le_of_ble_eq_true rfl) dX8_ends_41 (fun r1 G1 H locs q1 h => ?_)
            obtain ⟨og2, g2a, rfl, rfl⟩ := q1
            rw [u4] at h
            refine lv_iadd hx hb dX8_ends_44 ?_
            refine lv_as (y := nI ((dayA x) + a)) (nI_addc (by omega)) ?_
            refine lv_istore_n (lv' := [(2, .int (nI ((dayA x) + a))), (0, .ref (ad 210)), (1, .int (nI N2)), (3, .int (nI i))]) hx hb dX8_ends_45 rfl hl (by decide) rfl (fun ls hl => ?_)
            refine lv_iinc (v := nI (i + 1)) (lv' := [(3, .int (nI (i + 1))), (2, .int (nI ((dayA x) + a))), (0, .ref (ad 210)), (1, .int (nI N2))]) hx hb dX8_ends_46 hl (k := 3) rfl (nI_addc (b := 1) (by omega)) (by decide) rfl (fun ls hl => ?_)
            refine lv_goto (tgt := 33) hx hb dX8_ends_49 (by decide) ?_
            exact ih (i + 1) (by omega) (by omega) _ _ _ _ (by show ((fun x : (Nat → Int32) × Nat => (dayR x.1, dayA x.1 + x.2)) (edI r i)) = _; rw [hE]) _ _ _ h (lv_sub hl [2, 3, 1, 0] rfl)
      exact LP (N2 + 1) 0 (by omega) (by omega) (G 213) (G 214) r 0 rfl _ _ _ (by rw [u1_self, u1_self]; exact h) (lv_sub hl [2, 3, 1, 0] rfl)
    · refine lv_bipush (v := (-3)) hx hb dX8_ends_26 (by decide) ?_
      exact hret (-3) (RG G 0 r) _ _ 28 _ (⟨G 213, G 214, by unfold edA; rw [cif_t ⟨N2, hN1, hN2, rfl⟩, if_neg c_23], by unfold edR; rw [cif_f (fun q => c_23 q.2), u1_self, u1_self]⟩) h dX8_ends_28
  · rw [b2_z] at c_7
    refine lv_bipush (v := (-2)) hx hb dX8_ends_10 (by decide) ?_
    exact hret (-2) (RG G 0 r) _ _ 12 _ (⟨G 213, G 214, by unfold edA; rw [cif_f c_7], by unfold edR; rw [cif_f (fun q => c_7 q.1), u1_self, u1_self]⟩) h dX8_ends_12

theorem RG_0 (G : GG) (r : Nat → Int32) : RG G 0 r = u1 G 211 r := by
  unfold RG
  congr 1
/-- behind an act that answered a, with r as row 0 (and all behind it), n states recorded before -/
def actG (G : GG) (n : Nat) (a : Int32) (r : Nat → Int32) : GG := if 0 ≤ a then u1 (u1 G 211 (rcS r n 6)) 210 (upd (G 210) 1 (nI (if n = 4 then 4 else n + 1))) else u1 G 211 r
set_option maxHeartbeats 4000000 in
set_option maxRecDepth 100000 in
theorem c_X8_done (l : Launch) (J : JJ) (z : Nat) (ad : Nat → Nat) (G : GG) (r : Nat → Int32) (n : Nat) (hn : G 210 1 = nI n) (hn4 : n ≤ 4) (a : Int32) : MI l J z ad yX8_done cX8_done 2 .int 2 [.ref (ad 210), .int a] (u1 G 211 r) (fun ans uG => ans = (a) ∧ uG = (actG G n a r)) := by
  refine MI.go (by decide) (Nat.le_of_ble_eq_true rfl) ?_
  intro pr e s m args below meth c ls Q X h hl hret
  have hx := X.1
  have hb := X.2.1
  have hown := X.2.2.2.1
  have hts := X.2.2.2.2
  have hl : lv_has ls 2 [(0, .ref (ad 210)), (1, .int a)] := hl
  refine lv_iload_n hx hb dX8_done_0 rfl (lv_at hl 1 rfl) ?_
  refine lv_if_lt (tgt := 10) hx hb dX8_done_1 (by decide) (fun c_1 => ?_) (fun c_1 => ?_)
  · refine lv_iload_n hx hb dX8_done_10 rfl (lv_at hl 1 rfl) ?_
    exact hret a (u1 G 211 r) _ _ 11 _ (⟨rfl, by unfold actG; rw [if_neg (Int32.not_le.mpr c_1)]⟩) h dX8_done_11
  · refine lv_aload_n hx hb dX8_done_4 rfl (lv_at hl 0 rfl) ?_
    refine lv_bipush (v := nI 6) hx hb dX8_done_5 (by decide) ?_
    refine rg_cvvd (As := [.int (nI 6)]) (rest := []) X hl.1 h (c_X8_records l J z ad (u1 G 211 r) n 6 (by rw [u1_n (by decide)]; exact hn) hn4 (Or.inr rfl)) mw_197 mw_198 mw_199 mw_5 mw_200 pdX8_records (by decide) (xo_210 J ad _) rfl rfl ⟨Nat.le_of_ble_eq_true rfl, Nat.le_of_ble_eq_true rfl⟩ ⟨Nat.le_of_ble_eq_true rfl, Nat.le_of_ble_eq_true rfl⟩ rfl (Nat.le_of_ble_eq_true rfl) dX8_done_7 (fun H locs h => ?_)
    refine lv_iload_n hx hb dX8_done_10 rfl (lv_at hl 1 rfl) ?_
    exact hret a (u1 (u1 (u1 G 211 r) 211 (rcS ((u1 G 211 r) 211) n 6)) 210 (upd ((u1 G 211 r) 210) 1 (nI (if n = 4 then 4 else n + 1)))) _ _ 11 _ (⟨rfl, by unfold actG; rw [if_pos (Int32.not_lt.mp c_1), u1_u1, u1_s, u1_n (show (210 : Nat) ≠ 211 by decide)]⟩) h dX8_done_11
