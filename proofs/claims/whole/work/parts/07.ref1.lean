/-! THE REFERENCE'S STATE: a row r of 612 ints; what its reading methods answer -/
def kn (r : Nat → Int32) : Nat := tn (r 5)
def mn (r : Nat → Int32) : Nat := tn (r 6)
def on (r : Nat → Int32) : Nat := tn (r 11)
def pd (r : Nat → Int32) (q : Nat) : Nat := tn (r (5 * q + 84))
def pc (r : Nat → Int32) (q : Nat) : Nat := tn (r (5 * q + 85))
def pg (r : Nat → Int32) (q : Nat) : Nat := tn (r (5 * q + 86))
def pk (r : Nat → Int32) (q : Nat) : Nat := tn (r (5 * q + 87))
def dc (r : Nat → Int32) (d : Nat) : Nat := tn (r (6 * d + 12))
def WR (r : Nat → Int32) : Prop :=
  (r 5 = nI (kn r) ∧ kn r ≤ 12) ∧ (r 6 = nI (mn r) ∧ mn r ≤ 12) ∧ (r 11 = nI (on r) ∧ on r ≤ 12) ∧
  (∀ q, q < mn r → r (5 * q + 84) = nI (pd r q) ∧ pd r q < kn r ∧ r (5 * q + 85) = nI (pc r q) ∧ pc r q ≤ 6 ∧ r (5 * q + 86) = nI (pg r q) ∧ pg r q < 20 ∧ r (5 * q + 87) = nI (pk r q) ∧ pk r q ≤ 2) ∧
  (∀ d, d < kn r → r (6 * d + 12) = nI (dc r d) ∧ dc r d < 6)
def supp (r : Nat → Int32) (q : Nat) : Int32 := itr (fun d a => a + ((r (5 * q + 88) >>> (nI d &&& 31)) &&& nI 1) * r (6 * d + 13)) (r (6 * (pd r q) + 13)) (kn r)
def wgt (r : Nat → Int32) (x : Int32) : Int32 := itr (fun d a => a + (if x = nI 6 ∨ r (6 * d + 12) = x then r (6 * d + 13) else nI 0)) (nI 0) (kn r)
def refw (r : Nat → Int32) (x g k : Int32) : Int32 := itr (fun i a => if (r (4 * i + 144) = x ∧ r (4 * i + 145) = g ∧ r (4 * i + 146) = k) ∧ a < r (4 * i + 147) then r (4 * i + 147) else a) (-5) (on r)
/-- why a petition for place x about g, of kind k, with support v is refused; own and hive: where the bylaws lie -/
def refu (r : Nat → Int32) (q : Nat) (v : Int32) : Int32 :=
  if v < r 0 then nI 1
  else if v ≤ refw r (nI (pc r q)) (nI (pg r q)) (nI (pk r q)) then nI 2
  else if pc r q ≠ 6 ∧ pk r q ≠ 2 ∧ r (3 * (pg r q) + 552) ≠ (-5) ∧ r (3 * (pg r q) + 552) ≠ nI (pk r q) ∧ v < r (3 * (pg r q) + 553) then nI 3
  else if (pk r q = 2 ∧ r (60 * (pc r q) + 3 * (pg r q) + 192) = (-5)) ∨ (pk r q ≠ 2 ∧ r (60 * (pc r q) + 3 * (pg r q) + 192) = nI (pk r q) ∧ v ≤ r (60 * (pc r q) + 3 * (pg r q) + 193)) then nI 4
  else if pk r q = 2 ∧ nI 2 * v ≤ wgt r (nI (pc r q)) then nI 5 else nI 0
set_option maxHeartbeats 4000000 in
set_option maxRecDepth 100000 in
theorem c_X8_in (l : Launch) (J : JJ) (z : Nat) (ad : Nat → Nat) (G : GG) (v lo hi : Int32) : MI l J z ad yX8_in cX8_in 3 .boolean 0 [.int v, .int lo, .int hi] G (fun ans uG => ans = (b2 (lo ≤ v ∧ v ≤ hi)) ∧ uG = (G)) := by
  refine MZ.go (by decide) (Nat.le_of_ble_eq_true rfl) ?_
  intro pr e s m args below meth c ls Q X h hl hret
  have hx := X.1
  have hb := X.2.1
  have hown := X.2.2.2.1
  have hts := X.2.2.2.2
  have hl : lv_has ls 3 [(0, .int v), (1, .int lo), (2, .int hi)] := hl
  refine lv_iload_n hx hb dX8_in_0 rfl (lv_at hl 0 rfl) ?_
  refine lv_iload_n hx hb dX8_in_1 rfl (lv_at hl 1 rfl) ?_
  refine lv_icmp_lt (tgt := 14) hx hb dX8_in_2 (by decide) (fun c_2 => ?_) (fun c_2 => ?_)
  · refine lv_iconst (v := nI 0) hx hb dX8_in_14 (by decide) ?_
    exact hret (nI 0) G _ _ 15 _ (⟨(b2_f (fun q => Int32.not_lt.mpr q.1 c_2)).symm, rfl⟩) h rfl dX8_in_15
  · refine lv_iload_n hx hb dX8_in_5 rfl (lv_at hl 0 rfl) ?_
    refine lv_iload_n hx hb dX8_in_6 rfl (lv_at hl 2 rfl) ?_
    refine lv_icmp_gt (tgt := 14) hx hb dX8_in_7 (by decide) (fun c_7 => ?_) (fun c_7 => ?_)
    · refine lv_iconst (v := nI 0) hx hb dX8_in_14 (by decide) ?_
      exact hret (nI 0) G _ _ 15 _ (⟨(b2_f (fun q => Int32.not_lt.mpr q.2 c_7)).symm, rfl⟩) h rfl dX8_in_15
    · refine lv_iconst (v := nI 1) hx hb dX8_in_10 (by decide) ?_
      refine lv_goto (tgt := 15) hx hb dX8_in_11 (by decide) ?_
      exact hret (nI 1) G _ _ 15 _ (⟨(b2_t ⟨Int32.not_lt.mp c_2, Int32.not_lt.mp c_7⟩).symm, rfl⟩) h rfl dX8_in_15
set_option maxHeartbeats 4000000 in
set_option maxRecDepth 100000 in
theorem c_X8_flag (l : Launch) (J : JJ) (z : Nat) (ad : Nat → Nat) (G : GG) (P : Prop) : MI l J z ad yX8_flag cX8_flag 1 .int 0 [.int (b2 P)] G (fun ans uG => ans = (b2 P) ∧ uG = (G)) := by
  refine MI.go (by decide) (Nat.le_of_ble_eq_true rfl) ?_
  intro pr e s m args below meth c ls Q X h hl hret
  have hx := X.1
  have hb := X.2.1
  have hown := X.2.2.2.1
  have hts := X.2.2.2.2
  have hl : lv_has ls 1 [(0, .int (b2 P))] := hl
  refine lv_iload_n hx hb dX8_flag_0 rfl (lv_at hl 0 rfl) ?_
  refine lv_if_eq (tgt := 8) hx hb dX8_flag_1 (by decide) (fun c_1 => ?_) (fun c_1 => ?_)
  · rw [b2_z] at c_1
    refine lv_iconst (v := nI 0) hx hb dX8_flag_8 (by decide) ?_
    exact hret (nI 0) G _ _ 9 _ (⟨(b2_f c_1).symm, rfl⟩) h dX8_flag_9
  · rw [b2_z] at c_1
    refine lv_iconst (v := nI 1) hx hb dX8_flag_4 (by decide) ?_
    refine lv_goto (tgt := 9) hx hb dX8_flag_5 (by decide) ?_
    exact hret (nI 1) G _ _ 9 _ (⟨(b2_t (Classical.not_not.mp c_1)).symm, rfl⟩) h dX8_flag_9
set_option maxHeartbeats 4000000 in
set_option maxRecDepth 100000 in
theorem c_X8_flag0 (l : Launch) (J : JJ) (z : Nat) (ad : Nat → Nat) (G : GG)  : MI l J z ad yX8_flag cX8_flag 1 .int 0 [.int (nI 0)] G (fun ans uG => ans = (nI 0) ∧ uG = (G)) := by
  refine MI.go (by decide) (Nat.le_of_ble_eq_true rfl) ?_
  intro pr e s m args below meth c ls Q X h hl hret
  have hx := X.1
  have hb := X.2.1
  have hown := X.2.2.2.1
  have hts := X.2.2.2.2
  have hl : lv_has ls 1 [(0, .int (nI 0))] := hl
  refine lv_iload_n hx hb dX8_flag_0 rfl (lv_at hl 0 rfl) ?_
  refine lv_if_eq (tgt := 8) hx hb dX8_flag_1 (by decide) (fun c_1 => ?_) (fun c_1 => absurd (by decide) c_1)
  refine lv_iconst (v := nI 0) hx hb dX8_flag_8 (by decide) ?_
  exact hret (nI 0) G _ _ 9 _ (⟨rfl, rfl⟩) h dX8_flag_9
set_option maxHeartbeats 4000000 in
set_option maxRecDepth 100000 in
theorem c_X8_flag1 (l : Launch) (J : JJ) (z : Nat) (ad : Nat → Nat) (G : GG)  : MI l J z ad yX8_flag cX8_flag 1 .int 0 [.int (nI 1)] G (fun ans uG => ans = (nI 1) ∧ uG = (G)) := by
  refine MI.go (by decide) (Nat.le_of_ble_eq_true rfl) ?_
  intro pr e s m args below meth c ls Q X h hl hret
  have hx := X.1
  have hb := X.2.1
  have hown := X.2.2.2.1
  have hts := X.2.2.2.2
  have hl : lv_has ls 1 [(0, .int (nI 1))] := hl
  refine lv_iload_n hx hb dX8_flag_0 rfl (lv_at hl 0 rfl) ?_
  refine lv_if_eq (tgt := 8) hx hb dX8_flag_1 (by decide) (fun c_1 => absurd c_1 (by decide)) (fun c_1 => ?_)
  refine lv_iconst (v := nI 1) hx hb dX8_flag_4 (by decide) ?_
  refine lv_goto (tgt := 9) hx hb dX8_flag_5 (by decide) ?_
  exact hret (nI 1) G _ _ 9 _ (⟨rfl, rfl⟩) h dX8_flag_9
set_option maxHeartbeats 4000000 in
set_option maxRecDepth 100000 in
theorem c_X8_droneAt (l : Launch) (J : JJ) (z : Nat) (ad : Nat → Nat) (G : GG) (B q : Nat) : MI l J z ad yX8_droneAt cX8_droneAt 2 .int 0 [.int (nI B), .int (nI q)] G (fun ans uG => ans = (nI (B + 6 * q + 12)) ∧ uG = (G)) := by
  refine MI.go (by decide) (Nat.le_of_ble_eq_true rfl) ?_
  intro pr e s m args below meth c ls Q X h hl hret
  have hx := X.1
  have hb := X.2.1
  have hown := X.2.2.2.1
  have hts := X.2.2.2.2
  have hl : lv_has ls 2 [(0, .int (nI B)), (1, .int (nI q))] := hl
  refine lv_iload_n hx hb dX8_droneAt_0 rfl (lv_at hl 0 rfl) ?_
  refine lv_bipush (v := nI 12) hx hb dX8_droneAt_1 (by decide) ?_
  refine lv_iadd hx hb dX8_droneAt_3 ?_
  refine lv_as (y := nI (B + 12)) (nI_addc (by omega)) ?_
  refine lv_bipush (v := nI 6) hx hb dX8_droneAt_4 (by decide) ?_
  refine lv_iload_n hx hb dX8_droneAt_6 rfl (lv_at hl 1 rfl) ?_
  refine lv_imul hx hb dX8_droneAt_7 ?_
  refine lv_as (y := nI (6 * q)) (nI_mulc (by omega)) ?_
  refine lv_iadd hx hb dX8_droneAt_8 ?_
  refine lv_as (y := nI (B + 6 * q + 12)) (nI_addc (by omega)) ?_
  exact hret (nI (B + 6 * q + 12)) G _ _ 9 _ (⟨rfl, rfl⟩) h dX8_droneAt_9
set_option maxHeartbeats 4000000 in
set_option maxRecDepth 100000 in
theorem c_X8_petitionAt (l : Launch) (J : JJ) (z : Nat) (ad : Nat → Nat) (G : GG) (B q : Nat) : MI l J z ad yX8_petitionAt cX8_petitionAt 2 .int 0 [.int (nI B), .int (nI q)] G (fun ans uG => ans = (nI (B + 5 * q + 84)) ∧ uG = (G)) := by
  refine MI.go (by decide) (Nat.le_of_ble_eq_true rfl) ?_
  intro pr e s m args below meth c ls Q X h hl hret
  have hx := X.1
  have hb := X.2.1
  have hown := X.2.2.2.1
  have hts := X.2.2.2.2
  have hl : lv_has ls 2 [(0, .int (nI B)), (1, .int (nI q))] := hl
  refine lv_iload_n hx hb dX8_petitionAt_0 rfl (lv_at hl 0 rfl) ?_
  refine lv_bipush (v := nI 84) hx hb dX8_petitionAt_1 (by decide) ?_
  refine lv_iadd hx hb dX8_petitionAt_3 ?_
  refine lv_as (y := nI (B + 84)) (nI_addc (by omega)) ?_
  refine lv_iconst (v := nI 5) hx hb dX8_petitionAt_4 (by decide) ?_
  refine lv_iload_n hx hb dX8_petitionAt_5 rfl (lv_at hl 1 rfl) ?_
  refine lv_imul hx hb dX8_petitionAt_6 ?_
  refine lv_as (y := nI (5 * q)) (nI_mulc (by omega)) ?_
  refine lv_iadd hx hb dX8_petitionAt_7 ?_
  refine lv_as (y := nI (B + 5 * q + 84)) (nI_addc (by omega)) ?_
  exact hret (nI (B + 5 * q + 84)) G _ _ 8 _ (⟨rfl, rfl⟩) h dX8_petitionAt_8
set_option maxHeartbeats 4000000 in
set_option maxRecDepth 100000 in
theorem c_X8_bylawAt (l : Launch) (J : JJ) (z : Nat) (ad : Nat → Nat) (G : GG) (B x g : Nat) : MI l J z ad yX8_bylawAt cX8_bylawAt 3 .int 0 [.int (nI B), .int (nI x), .int (nI g)] G (fun ans uG => ans = (nI (B + 3 * g + 60 * x + 192)) ∧ uG = (G)) := by
  refine MI.go (by decide) (Nat.le_of_ble_eq_true rfl) ?_
  intro pr e s m args below meth c ls Q X h hl hret
  have hx := X.1
  have hb := X.2.1
  have hown := X.2.2.2.1
  have hts := X.2.2.2.2
  have hl : lv_has ls 3 [(0, .int (nI B)), (1, .int (nI x)), (2, .int (nI g))] := hl
  refine lv_iload_n hx hb dX8_bylawAt_0 rfl (lv_at hl 0 rfl) ?_
  refine lv_sipush (v := nI 192) hx hb dX8_bylawAt_1 (by decide) ?_
  refine lv_iadd hx hb dX8_bylawAt_4 ?_
  refine lv_as (y := nI (B + 192)) (nI_addc (by omega)) ?_
  refine lv_iconst (v := nI 3) hx hb dX8_bylawAt_5 (by decide) ?_
  refine lv_bipush (v := nI 20) hx hb dX8_bylawAt_6 (by decide) ?_
  refine lv_iload_n hx hb dX8_bylawAt_8 rfl (lv_at hl 1 rfl) ?_
  refine lv_imul hx hb dX8_bylawAt_9 ?_
  refine lv_as (y := nI (20 * x)) (nI_mulc (by omega)) ?_
  refine lv_iload_n hx hb dX8_bylawAt_10 rfl (lv_at hl 2 rfl) ?_
  refine lv_iadd hx hb dX8_bylawAt_11 ?_
  refine lv_as (y := nI (g + 20 * x)) (nI_addc (by omega)) ?_
  refine lv_imul hx hb dX8_bylawAt_12 ?_
  refine lv_as (y := nI (3 * g + 60 * x)) (nI_mulc (by omega)) ?_
  refine lv_iadd hx hb dX8_bylawAt_13 ?_
  refine lv_as (y := nI (B + 3 * g + 60 * x + 192)) (nI_addc (by omega)) ?_
  exact hret (nI (B + 3 * g + 60 * x + 192)) G _ _ 14 _ (⟨rfl, rfl⟩) h dX8_bylawAt_14
set_option maxHeartbeats 4000000 in
set_option maxRecDepth 100000 in
theorem c_X8_support (l : Launch) (J : JJ) (z : Nat) (ad : Nat → Nat) (G : GG) (r : Nat → Int32) (B : Nat) (hB : B ≤ 4284) (hrow : rwS (G 211) B = r) (hW : WR r) (q : Nat) (hq : q < mn r) : MI l J z ad yX8_support cX8_support 6 .int 1 [.ref (ad 210), .int (nI B), .int (nI q)] G (fun ans uG => ans = (supp r q) ∧ uG = (G)) := by
  refine MI.go (by decide) (Nat.le_of_ble_eq_true rfl) ?_
  intro pr e s m args below meth c ls Q X h hl hret
  have hx := X.1
  have hb := X.2.1
  have hown := X.2.2.2.1
  have hts := X.2.2.2.2
  have hl : lv_has ls 6 [(0, .ref (ad 210)), (1, .int (nI B)), (2, .int (nI q))] := hl
  obtain ⟨⟨w1, w2⟩, ⟨w3, w4⟩, ⟨w5, w6⟩, w7, w8⟩ := hW
  obtain ⟨v1, v2, v3, v4, v5, v6, v7, v8⟩ := w7 q hq
  refine lv_iload_n hx hb dX8_support_0 rfl (lv_at hl 1 rfl) ?_
  refine lv_iload_n hx hb dX8_support_1 rfl (lv_at hl 2 rfl) ?_
  refine rg_cisd (As := [.int (nI B), .int (nI q)]) (rest := []) X hl.1 h (c_X8_petitionAt l J z ad G B q) mw_261 mw_262 mw_5 mw_263 pdX8_petitionAt ⟨Nat.le_of_ble_eq_true rfl, Nat.le_of_ble_eq_true rfl⟩ ⟨Nat.le_of_ble_eq_true rfl, Nat.le_of_ble_eq_true rfl⟩ rfl (Nat.le_of_ble_eq_true rfl) dX8_support_2 (fun H locs h => ?_)
  refine lv_as (y := nI (B + 5 * q + 84)) (congrArg nI (by omega)) ?_
  refine lv_istore_n (lv' := [(3, .int (nI (B + 5 * q + 84))), (0, .ref (ad 210)), (1, .int (nI B)), (2, .int (nI q))]) hx hb dX8_support_5 rfl hl (by decide) rfl (fun ls hl => ?_)
  refine lv_aload_n hx hb dX8_support_6 rfl (lv_at hl 1 rfl) ?_
  refine fg_X8_7 X h dX8_support_7 ?_
  refine lv_iload_n hx hb dX8_support_10 rfl (lv_at hl 2 rfl) ?_
  refine lv_aload_n hx hb dX8_support_11 rfl (lv_at hl 1 rfl) ?_
  refine fg_X8_7 X h dX8_support_12 ?_
  refine lv_iload_n hx hb dX8_support_15 rfl (lv_at hl 0 rfl) ?_
  refine rs_ld X h B (5 * q + 84) (congrArg nI (by omega)) (by omega) dX8_support_16 ?_
  refine lv_as (y := nI ((pd r q))) ((congrFun hrow _).trans (v1)) ?_
  refine rg_cisd (As := [.int (nI B), .int (nI ((pd r q)))]) (rest := [.ref (ad 211)]) X hl.1 h (c_X8_droneAt l J z ad G B (pd r q)) mw_190 mw_191 mw_5 mw_192 pdX8_droneAt ⟨Nat.le_of_ble_eq_true rfl, Nat.le_of_ble_eq_true rfl⟩ ⟨Nat.le_of_ble_eq_true rfl, Nat.le_of_ble_eq_true rfl⟩ rfl (Nat.le_of_ble_eq_true rfl) dX8_support_17 (fun H locs h => ?_)
  refine lv_as (y := nI (B + 6 * (pd r q) + 12)) (congrArg nI (by omega)) ?_
  refine lv_iconst (v := nI 1) hx hb dX8_support_20 (by decide) ?_
  refine lv_iadd hx hb dX8_support_21 ?_
  refine lv_as (y := nI (B + 6 * (pd r q) + 13)) (nI_addc (by omega)) ?_
  refine rs_ld X h B (6 * (pd r q) + 13) (congrArg nI (by omega)) (by omega) dX8_support_22 ?_
  refine lv_as (y := r (6 * (pd r q) + 13)) (congrFun hrow _) ?_
  refine lv_istore (lv' := [(4, .int (r (6 * (pd r q) + 13))), (3, .int (nI (B + 5 * q + 84))), (0, .ref (ad 210)), (1, .int (nI B)), (2, .int (nI q))]) hx hb dX8_support_23 hl (by decide) rfl (fun ls hl => ?_)
  refine lv_iconst (v := nI 0) hx hb dX8_support_25 (by decide) ?_
  refine lv_istore (lv' := [(5, .int (nI 0)), (4, .int (r (6 * (pd r q) + 13))), (3, .int (nI (B + 5 * q + 84))), (0, .ref (ad 210)), (1, .int (nI B)), (2, .int (nI q))]) hx hb dX8_support_26 hl (by decide) rfl (fun ls hl => ?_)
  have LP_28 : ∀ (k_28 i_28 : Nat), kn r + 1 ≤ i_28 + k_28 → i_28 ≤ kn r → ∀ (H : Heap) (locs : List Loc) (ls : Array Slot), HG J z ad s G H locs → lv_has ls 6 [(0, .ref (ad 210)), (1, .int (nI B)), (2, .int (nI q)), (3, .int (nI (B + 5 * q + 84))), (4, .int (itr (fun d a => a + ((r (5 * q + 88) >>> (nI d &&& 31)) &&& nI 1) * r (6 * d + 13)) (r (6 * (pd r q) + 13)) i_28)), (5, .int (nI i_28))] → W pr l e (rmD 1 0 0) s m args below meth c H locs 0 0 Q (F0 m 28 ls []) := by
    intro k_28
    induction k_28 with
    | zero =>
      intro i_28 g1 g2
      exact absurd g1 (by omega)
    | succ k_28 ih_28 =>
      intro i_28 g1_28 g2_28  H locs ls h hl
      refine lv_iload hx hb dX8_support_28 (lv_at hl 5 rfl) ?_
      refine lv_aload_n hx hb dX8_support_30 rfl (lv_at hl 0 rfl) ?_
      refine fg_X8_7 X h dX8_support_31 ?_
      refine lv_iload_n hx hb dX8_support_34 rfl (lv_at hl 1 rfl) ?_
      refine lv_iconst (v := nI 5) hx hb dX8_support_35 (by decide) ?_
      refine lv_iadd hx hb dX8_support_36 ?_
      refine lv_as (y := nI (B + 5)) (nI_addc (by omega)) ?_
      refine rs_ld X h B (5) (congrArg nI (by omega)) (by omega) dX8_support_37 ?_
      refine lv_as (y := nI ((kn r))) ((congrFun hrow _).trans (w1)) ?_
      refine lv_icmp_ge (tgt := 79) hx hb dX8_support_38 (by decide) (fun c_38 => ?_) (fun c_38 => ?_)
      · rw [nI_leI (by omega) (by omega)] at c_38
        refine lv_iload hx hb dX8_support_79 (lv_at hl 4 rfl) ?_
        exact hret (itr (fun d a => a + ((r (5 * q + 88) >>> (nI d &&& 31)) &&& nI 1) * r (6 * d + 13)) (r (6 * (pd r q) + 13)) i_28) G _ _ 81 _ (⟨by rw [show i_28 = kn r by omega]; rfl, rfl⟩) h dX8_support_81
      · rw [nI_leI (by omega) (by omega)] at c_38
        refine lv_iload hx hb dX8_support_41 (lv_at hl 4 rfl) ?_
        refine lv_aload_n hx hb dX8_support_43 rfl (lv_at hl 0 rfl) ?_
        refine fg_X8_7 X h dX8_support_44 ?_
        refine lv_iload_n hx hb dX8_support_47 rfl (lv_at hl 3 rfl) ?_
        refine lv_iconst (v := nI 4) hx hb dX8_support_48 (by decide) ?_
        refine lv_iadd hx hb dX8_support_49 ?_
        refine lv_as (y := nI (B + 5 * q + 88)) (nI_addc (by omega)) ?_
        refine rs_ld X h B (5 * q + 88) (congrArg nI (by omega)) (by omega) dX8_support_50 ?_
        refine lv_as (y := r (5 * q + 88)) (congrFun hrow _) ?_
        refine lv_iload hx hb dX8_support_51 (lv_at hl 5 rfl) ?_
        refine lv_ishr hx hb dX8_support_53 ?_
        refine lv_iconst (v := nI 1) hx hb dX8_support_54 (by decide) ?_
        refine lv_iand hx hb dX8_support_55 ?_
        refine lv_aload_n hx hb dX8_support_56 rfl (lv_at hl 0 rfl) ?_
        refine fg_X8_7 X h dX8_support_57 ?_
        refine lv_iload_n hx hb dX8_support_60 rfl (lv_at hl 1 rfl) ?_
        refine lv_iload hx hb dX8_support_61 (lv_at hl 5 rfl) ?_
        refine rg_cisd (As := [.int (nI B), .int (nI i_28)]) (rest := [.ref (ad 211), .int (((r (5 * q + 88)) >>> ((nI i_28) &&& 31)) &&& (nI 1)), .int (itr (fun d a => a + ((r (5 * q + 88) >>> (nI d &&& 31)) &&& nI 1) * r (6 * d + 13)) (r (6 * (pd r q) + 13)) i_28)]) X hl.1 h (c_X8_droneAt l J z ad G B i_28) mw_190 mw_191 mw_5 mw_192 pdX8_droneAt ⟨Nat.le_of_ble_eq_true rfl, Nat.le_of_ble_eq_true rfl⟩ ⟨Nat.le_of_ble_eq_true rfl, Nat.le_of_ble_eq_true rfl⟩ rfl (Nat.le_of_ble_eq_true rfl) dX8_support_63 (fun H locs h => ?_)
        refine lv_as (y := nI (B + 6 * i_28 + 12)) (congrArg nI (by omega)) ?_
        refine lv_iconst (v := nI 1) hx hb dX8_support_66 (by decide) ?_
        refine lv_iadd hx hb dX8_support_67 ?_
        refine lv_as (y := nI (B + 6 * i_28 + 13)) (nI_addc (by omega)) ?_
        refine rs_ld X h B (6 * i_28 + 13) (congrArg nI (by omega)) (by omega) dX8_support_68 ?_
        refine lv_as (y := r (6 * i_28 + 13)) (congrFun hrow _) ?_
        refine lv_imul hx hb dX8_support_69 ?_
        refine lv_iadd hx hb dX8_support_70 ?_
        refine lv_istore (lv' := [(4, .int ((itr (fun d a => a + ((r (5 * q + 88) >>> (nI d &&& 31)) &&& nI 1) * r (6 * d + 13)) (r (6 * (pd r q) + 13)) i_28) + ((((r (5 * q + 88)) >>> ((nI i_28) &&& 31)) &&& (nI 1)) * (r (6 * i_28 + 13))))), (0, .ref (ad 210)), (1, .int (nI B)), (2, .int (nI q)), (3, .int (nI (B + 5 * q + 84))), (5, .int (nI i_28))]) hx hb dX8_support_71 hl (by decide) rfl (fun ls hl => ?_)
        refine lv_iinc (v := nI (i_28 + 1)) (lv' := [(5, .int (nI (i_28 + 1))), (4, .int ((itr (fun d a => a + ((r (5 * q + 88) >>> (nI d &&& 31)) &&& nI 1) * r (6 * d + 13)) (r (6 * (pd r q) + 13)) i_28) + ((((r (5 * q + 88)) >>> ((nI i_28) &&& 31)) &&& (nI 1)) * (r (6 * i_28 + 13))))), (0, .ref (ad 210)), (1, .int (nI B)), (2, .int (nI q)), (3, .int (nI (B + 5 * q + 84)))]) hx hb dX8_support_73 hl (k := 5) rfl (nI_addc (b := 1) (by omega)) (by decide) rfl (fun ls hl => ?_)
        refine lv_goto (tgt := 28) hx hb dX8_support_76 (by decide) ?_
        exact ih_28 (i_28 + 1) (by omega) (by omega) _ _ _ h (lv_sub hl [2, 3, 4, 5, 1, 0] rfl)
  exact LP_28 (kn r + 1) 0 (by omega) (by omega) _ _ _ h (lv_sub hl [3, 4, 5, 2, 1, 0] rfl)
set_option maxHeartbeats 4000000 in
set_option maxRecDepth 100000 in
theorem c_X8_weightAt (l : Launch) (J : JJ) (z : Nat) (ad : Nat → Nat) (G : GG) (r : Nat → Int32) (B : Nat) (hB : B ≤ 4284) (hrow : rwS (G 211) B = r) (hW : WR r) (x : Int32) : MI l J z ad yX8_weightAt cX8_weightAt 6 .int 1 [.ref (ad 210), .int (nI B), .int x] G (fun ans uG => ans = (wgt r x) ∧ uG = (G)) := by
  refine MI.go (by decide) (Nat.le_of_ble_eq_true rfl) ?_
  intro pr e s m args below meth c ls Q X h hl hret
  have hx := X.1
  have hb := X.2.1
  have hown := X.2.2.2.1
  have hts := X.2.2.2.2
  have hl : lv_has ls 6 [(0, .ref (ad 210)), (1, .int (nI B)), (2, .int x)] := hl
  obtain ⟨⟨w1, w2⟩, ⟨w3, w4⟩, ⟨w5, w6⟩, w7, w8⟩ := hW
  refine lv_iconst (v := nI 0) hx hb dX8_weightAt_0 (by decide) ?_
  refine lv_istore_n (lv' := [(3, .int (nI 0)), (0, .ref (ad 210)), (1, .int (nI B)), (2, .int x)]) hx hb dX8_weightAt_1 rfl hl (by decide) rfl (fun ls hl => ?_)
  refine lv_iconst (v := nI 0) hx hb dX8_weightAt_2 (by decide) ?_
  refine lv_istore (lv' := [(4, .int (nI 0)), (3, .int (nI 0)), (0, .ref (ad 210)), (1, .int (nI B)), (2, .int x)]) hx hb dX8_weightAt_3 hl (by decide) rfl (fun ls hl => ?_)
  have LP_5 : ∀ (k_5 i_5 : Nat), kn r + 1 ≤ i_5 + k_5 → i_5 ≤ kn r → ∀ (H : Heap) (locs : List Loc) (ls : Array Slot), HG J z ad s G H locs → lv_has ls 6 [(0, .ref (ad 210)), (1, .int (nI B)), (2, .int x), (3, .int (itr (fun d a => a + (if x = nI 6 ∨ r (6 * d + 12) = x then r (6 * d + 13) else nI 0)) (nI 0) i_5)), (4, .int (nI i_5))] → W pr l e (rmD 1 0 0) s m args below meth c H locs 0 0 Q (F0 m 5 ls []) := by
    intro k_5
    induction k_5 with
    | zero =>
      intro i_5 g1 g2
      exact absurd g1 (by omega)
    | succ k_5 ih_5 =>
      intro i_5 g1_5 g2_5  H locs ls h hl
      refine lv_iload hx hb dX8_weightAt_5 (lv_at hl 4 rfl) ?_
      refine lv_aload_n hx hb dX8_weightAt_7 rfl (lv_at hl 0 rfl) ?_
      refine fg_X8_7 X h dX8_weightAt_8 ?_
      refine lv_iload_n hx hb dX8_weightAt_11 rfl (lv_at hl 1 rfl) ?_
      refine lv_iconst (v := nI 5) hx hb dX8_weightAt_12 (by decide) ?_
      refine lv_iadd hx hb dX8_weightAt_13 ?_
      refine lv_as (y := nI (B + 5)) (nI_addc (by omega)) ?_
      refine rs_ld X h B (5) (congrArg nI (by omega)) (by omega) dX8_weightAt_14 ?_
      refine lv_as (y := nI ((kn r))) ((congrFun hrow _).trans (w1)) ?_
      refine lv_icmp_ge (tgt := 65) hx hb dX8_weightAt_15 (by decide) (fun c_15 => ?_) (fun c_15 => ?_)
      · rw [nI_leI (by omega) (by omega)] at c_15
        refine lv_iload_n hx hb dX8_weightAt_65 rfl (lv_at hl 3 rfl) ?_
        exact hret (itr (fun d a => a + (if x = nI 6 ∨ r (6 * d + 12) = x then r (6 * d + 13) else nI 0)) (nI 0) i_5) G _ _ 66 _ (⟨by rw [show i_5 = kn r by omega]; rfl, rfl⟩) h dX8_weightAt_66
      · rw [nI_leI (by omega) (by omega)] at c_15
        refine lv_iload_n hx hb dX8_weightAt_18 rfl (lv_at hl 1 rfl) ?_
        refine lv_iload hx hb dX8_weightAt_19 (lv_at hl 4 rfl) ?_
        refine rg_cisd (As := [.int (nI B), .int (nI i_5)]) (rest := []) X hl.1 h (c_X8_droneAt l J z ad G B i_5) mw_190 mw_191 mw_5 mw_192 pdX8_droneAt ⟨Nat.le_of_ble_eq_true rfl, Nat.le_of_ble_eq_true rfl⟩ ⟨Nat.le_of_ble_eq_true rfl, Nat.le_of_ble_eq_true rfl⟩ rfl (Nat.le_of_ble_eq_true rfl) dX8_weightAt_21 (fun H locs h => ?_)
        refine lv_as (y := nI (B + 6 * i_5 + 12)) (congrArg nI (by omega)) ?_
        refine lv_istore (lv' := [(5, .int (nI (B + 6 * i_5 + 12))), (0, .ref (ad 210)), (1, .int (nI B)), (2, .int x), (3, .int (itr (fun d a => a + (if x = nI 6 ∨ r (6 * d + 12) = x then r (6 * d + 13) else nI 0)) (nI 0) i_5)), (4, .int (nI i_5))]) hx hb dX8_weightAt_24 hl (by decide) rfl (fun ls hl => ?_)
        refine lv_iload_n hx hb dX8_weightAt_26 rfl (lv_at hl 4 rfl) ?_
        refine lv_iload_n hx hb dX8_weightAt_27 rfl (lv_at hl 3 rfl) ?_
        refine lv_bipush (v := nI 6) hx hb dX8_weightAt_28 (by decide) ?_
        refine lv_icmp_eq (tgt := 44) hx hb dX8_weightAt_30 (by decide) (fun c_30 => ?_) (fun c_30 => ?_)
        · refine lv_aload_n hx hb dX8_weightAt_44 rfl (lv_at hl 1 rfl) ?_
          refine fg_X8_7 X h dX8_weightAt_45 ?_
          refine lv_iload hx hb dX8_weightAt_48 (lv_at hl 0 rfl) ?_
          refine lv_iconst (v := nI 1) hx hb dX8_weightAt_50 (by decide) ?_
          refine lv_iadd hx hb dX8_weightAt_51 ?_
          refine lv_as (y := nI (B + 6 * i_5 + 13)) (nI_addc (by omega)) ?_
          refine rs_ld X h B (6 * i_5 + 13) (congrArg nI (by omega)) (by omega) dX8_weightAt_52 ?_
          refine lv_as (y := r (6 * i_5 + 13)) (congrFun hrow _) ?_
          refine lv_goto (tgt := 57) hx hb dX8_weightAt_53 (by decide) ?_
          refine lv_as (y := if x = nI 6 ∨ r (6 * i_5 + 12) = x then r (6 * i_5 + 13) else nI 0) (by first | rw [if_pos (Or.inl (by assumption))] | rw [if_pos (Or.inr (by assumption))]) ?_
          refine lv_iadd hx hb dX8_weightAt_57 ?_
          refine lv_istore_n (lv' := [(3, .int ((itr (fun d a => a + (if x = nI 6 ∨ r (6 * d + 12) = x then r (6 * d + 13) else nI 0)) (nI 0) i_5) + (if x = nI 6 ∨ r (6 * i_5 + 12) = x then r (6 * i_5 + 13) else nI 0))), (5, .int (nI (B + 6 * i_5 + 12))), (0, .ref (ad 210)), (1, .int (nI B)), (2, .int x), (4, .int (nI i_5))]) hx hb dX8_weightAt_58 rfl hl (by decide) rfl (fun ls hl => ?_)
          refine lv_iinc (v := nI (i_5 + 1)) (lv' := [(4, .int (nI (i_5 + 1))), (3, .int ((itr (fun d a => a + (if x = nI 6 ∨ r (6 * d + 12) = x then r (6 * d + 13) else nI 0)) (nI 0) i_5) + (if x = nI 6 ∨ r (6 * i_5 + 12) = x then r (6 * i_5 + 13) else nI 0))), (5, .int (nI (B + 6 * i_5 + 12))), (0, .ref (ad 210)), (1, .int (nI B)), (2, .int x)]) hx hb dX8_weightAt_59 hl (k := 5) rfl (nI_addc (b := 1) (by omega)) (by decide) rfl (fun ls hl => ?_)
          refine lv_goto (tgt := 5) hx hb dX8_weightAt_62 (by decide) ?_
          exact ih_5 (i_5 + 1) (by omega) (by omega) _ _ _ h (lv_sub hl [3, 4, 5, 1, 0] rfl)
        · refine lv_aload_n hx hb dX8_weightAt_33 rfl (lv_at hl 1 rfl) ?_
          refine fg_X8_7 X h dX8_weightAt_34 ?_
          refine lv_iload hx hb dX8_weightAt_37 (lv_at hl 0 rfl) ?_
          refine rs_ld X h B (6 * i_5 + 12) (congrArg nI (by omega)) (by omega) dX8_weightAt_39 ?_
          refine lv_as (y := r (6 * i_5 + 12)) (congrFun hrow _) ?_
          refine lv_iload_n hx hb dX8_weightAt_40 rfl (lv_at hl 3 rfl) ?_
          refine lv_icmp_ne (tgt := 56) hx hb dX8_weightAt_41 (by decide) (fun c_41 => ?_) (fun c_41 => ?_)
          · refine lv_iconst (v := nI 0) hx hb dX8_weightAt_56 (by decide) ?_
            refine lv_as (y := if x = nI 6 ∨ r (6 * i_5 + 12) = x then r (6 * i_5 + 13) else nI 0) (by rw [if_neg (fun q => q.elim (by assumption) (by assumption))]) ?_
            refine lv_iadd hx hb dX8_weightAt_57 ?_
            refine lv_istore_n (lv' := [(3, .int ((itr (fun d a => a + (if x = nI 6 ∨ r (6 * d + 12) = x then r (6 * d + 13) else nI 0)) (nI 0) i_5) + (if x = nI 6 ∨ r (6 * i_5 + 12) = x then r (6 * i_5 + 13) else nI 0))), (5, .int (nI (B + 6 * i_5 + 12))), (0, .ref (ad 210)), (1, .int (nI B)), (2, .int x), (4, .int (nI i_5))]) hx hb dX8_weightAt_58 rfl hl (by decide) rfl (fun ls hl => ?_)
            refine lv_iinc (v := nI (i_5 + 1)) (lv' := [(4, .int (nI (i_5 + 1))), (3, .int ((itr (fun d a => a + (if x = nI 6 ∨ r (6 * d + 12) = x then r (6 * d + 13) else nI 0)) (nI 0) i_5) + (if x = nI 6 ∨ r (6 * i_5 + 12) = x then r (6 * i_5 + 13) else nI 0))), (5, .int (nI (B + 6 * i_5 + 12))), (0, .ref (ad 210)), (1, .int (nI B)), (2, .int x)]) hx hb dX8_weightAt_59 hl (k := 5) rfl (nI_addc (b := 1) (by omega)) (by decide) rfl (fun ls hl => ?_)
            refine lv_goto (tgt := 5) hx hb dX8_weightAt_62 (by decide) ?_
            exact ih_5 (i_5 + 1) (by omega) (by omega) _ _ _ h (lv_sub hl [3, 4, 5, 1, 0] rfl)
          · refine lv_aload_n hx hb dX8_weightAt_44 rfl (lv_at hl 1 rfl) ?_
            refine fg_X8_7 X h dX8_weightAt_45 ?_
            refine lv_iload hx hb dX8_weightAt_48 (lv_at hl 0 rfl) ?_
            refine lv_iconst (v := nI 1) hx hb dX8_weightAt_50 (by decide) ?_
            refine lv_iadd hx hb dX8_weightAt_51 ?_
            refine lv_as (y := nI (B + 6 * i_5 + 13)) (nI_addc (by omega)) ?_
            refine rs_ld X h B (6 * i_5 + 13) (congrArg nI (by omega)) (by omega) dX8_weightAt_52 ?_
            refine lv_as (y := r (6 * i_5 + 13)) (congrFun hrow _) ?_
            refine lv_goto (tgt := 57) hx hb dX8_weightAt_53 (by decide) ?_
            refine lv_as (y := if x = nI 6 ∨ r (6 * i_5 + 12) = x then r (6 * i_5 + 13) else nI 0) (by first | rw [if_pos (Or.inl (by assumption))] | rw [if_pos (Or.inr (by assumption))]) ?_
            refine lv_iadd hx hb dX8_weightAt_57 ?_
            refine lv_istore_n (lv' := [(3, .int ((itr (fun d a => a + (if x = nI 6 ∨ r (6 * d + 12) = x then r (6 * d + 13) else nI 0)) (nI 0) i_5) + (if x = nI 6 ∨ r (6 * i_5 + 12) = x then r (6 * i_5 + 13) else nI 0))), (5, .int (nI (B + 6 * i_5 + 12))), (0, .ref (ad 210)), (1, .int (nI B)), (2, .int x), (4, .int (nI i_5))]) hx hb dX8_weightAt_58 rfl hl (by decide) rfl (fun ls hl => ?_)
            refine lv_iinc (v := nI (i_5 + 1)) (lv' := [(4, .int (nI (i_5 + 1))), (3, .int ((itr (fun d a => a + (if x = nI 6 ∨ r (6 * d + 12) = x then r (6 * d + 13) else nI 0)) (nI 0) i_5) + (if x = nI 6 ∨ r (6 * i_5 + 12) = x then r (6 * i_5 + 13) else nI 0))), (5, .int (nI (B + 6 * i_5 + 12))), (0, .ref (ad 210)), (1, .int (nI B)), (2, .int x)]) hx hb dX8_weightAt_59 hl (k := 5) rfl (nI_addc (b := 1) (by omega)) (by decide) rfl (fun ls hl => ?_)
            refine lv_goto (tgt := 5) hx hb dX8_weightAt_62 (by decide) ?_
            exact ih_5 (i_5 + 1) (by omega) (by omega) _ _ _ h (lv_sub hl [3, 4, 5, 1, 0] rfl)
  exact LP_5 (kn r + 1) 0 (by omega) (by omega) _ _ _ h (lv_sub hl [2, 3, 4, 1, 0] rfl)
set_option maxHeartbeats 4000000 in
set_option maxRecDepth 100000 in
theorem c_X8_refusedWith (l : Launch) (J : JJ) (z : Nat) (ad : Nat → Nat) (G : GG) (r : Nat → Int32) (B : Nat) (hB : B ≤ 4284) (hrow : rwS (G 211) B = r) (hW : WR r) (x g k : Int32) : MI l J z ad yX8_refusedWith cX8_refusedWith 9 .int 0 [.ref (ad 210), .int (nI B), .int x, .int g, .int k] G (fun ans uG => ans = (refw r x g k) ∧ uG = (G)) := by
  refine MI.go (by decide) (Nat.le_of_ble_eq_true rfl) ?_
  intro pr e s m args below meth c ls Q X h hl hret
  have hx := X.1
  have hb := X.2.1
  have hown := X.2.2.2.1
  have hts := X.2.2.2.2
  have hl : lv_has ls 9 [(0, .ref (ad 210)), (1, .int (nI B)), (2, .int x), (3, .int g), (4, .int k)] := hl
  obtain ⟨⟨w1, w2⟩, ⟨w3, w4⟩, ⟨w5, w6⟩, w7, w8⟩ := hW
  refine lv_bipush (v := (-5)) hx hb dX8_refusedWith_0 (by decide) ?_
  refine lv_istore (lv' := [(5, .int ((-5))), (0, .ref (ad 210)), (1, .int (nI B)), (2, .int x), (3, .int g), (4, .int k)]) hx hb dX8_refusedWith_2 hl (by decide) rfl (fun ls hl => ?_)
  refine lv_iconst (v := nI 0) hx hb dX8_refusedWith_4 (by decide) ?_
  refine lv_istore (lv' := [(6, .int (nI 0)), (5, .int ((-5))), (0, .ref (ad 210)), (1, .int (nI B)), (2, .int x), (3, .int g), (4, .int k)]) hx hb dX8_refusedWith_5 hl (by decide) rfl (fun ls hl => ?_)
  have LP_7 : ∀ (k_7 i_7 : Nat), on r + 1 ≤ i_7 + k_7 → i_7 ≤ on r → ∀ (H : Heap) (locs : List Loc) (ls : Array Slot), HG J z ad s G H locs → lv_has ls 9 [(0, .ref (ad 210)), (1, .int (nI B)), (2, .int x), (3, .int g), (4, .int k), (5, .int (itr (fun i a => if (r (4 * i + 144) = x ∧ r (4 * i + 145) = g ∧ r (4 * i + 146) = k) ∧ a < r (4 * i + 147) then r (4 * i + 147) else a) (-5) i_7)), (6, .int (nI i_7))] → W pr l e (rmD 0 0 0) s m args below meth c H locs 0 0 Q (F0 m 7 ls []) := by
    intro k_7
    induction k_7 with
    | zero =>
      intro i_7 g1 g2
      exact absurd g1 (by omega)
    | succ k_7 ih_7 =>
      intro i_7 g1_7 g2_7  H locs ls h hl
      refine lv_iload hx hb dX8_refusedWith_7 (lv_at hl 6 rfl) ?_
      refine lv_aload_n hx hb dX8_refusedWith_9 rfl (lv_at hl 0 rfl) ?_
      refine fg_X8_7 X h dX8_refusedWith_10 ?_
      refine lv_iload_n hx hb dX8_refusedWith_13 rfl (lv_at hl 1 rfl) ?_
      refine lv_bipush (v := nI 11) hx hb dX8_refusedWith_14 (by decide) ?_
      refine lv_iadd hx hb dX8_refusedWith_16 ?_
      refine lv_as (y := nI (B + 11)) (nI_addc (by omega)) ?_
      refine rs_ld X h B (11) (congrArg nI (by omega)) (by omega) dX8_refusedWith_17 ?_
      refine lv_as (y := nI ((on r))) ((congrFun hrow _).trans (w5)) ?_
      refine lv_icmp_ge (tgt := 119) hx hb dX8_refusedWith_18 (by decide) (fun c_18 => ?_) (fun c_18 => ?_)
      · rw [nI_leI (by omega) (by omega)] at c_18
        refine lv_iload hx hb dX8_refusedWith_119 (lv_at hl 5 rfl) ?_
        exact hret (itr (fun i a => if (r (4 * i + 144) = x ∧ r (4 * i + 145) = g ∧ r (4 * i + 146) = k) ∧ a < r (4 * i + 147) then r (4 * i + 147) else a) (-5) i_7) G _ _ 121 _ (⟨by rw [show i_7 = on r by omega]; rfl, rfl⟩) h dX8_refusedWith_121
      · rw [nI_leI (by omega) (by omega)] at c_18
        refine lv_iload_n hx hb dX8_refusedWith_21 rfl (lv_at hl 1 rfl) ?_
        refine lv_sipush (v := nI 144) hx hb dX8_refusedWith_22 (by decide) ?_
        refine lv_iadd hx hb dX8_refusedWith_25 ?_
        refine lv_as (y := nI (B + 144)) (nI_addc (by omega)) ?_
        refine lv_iconst (v := nI 4) hx hb dX8_refusedWith_26 (by decide) ?_
        refine lv_iload hx hb dX8_refusedWith_27 (lv_at hl 6 rfl) ?_
        refine lv_imul hx hb dX8_refusedWith_29 ?_
        refine lv_as (y := nI (4 * i_7)) (nI_mulc (by omega)) ?_
        refine lv_iadd hx hb dX8_refusedWith_30 ?_
        refine lv_as (y := nI (B + 4 * i_7 + 144)) (nI_addc (by omega)) ?_
        refine lv_istore (lv' := [(7, .int (nI (B + 4 * i_7 + 144))), (0, .ref (ad 210)), (1, .int (nI B)), (2, .int x), (3, .int g), (4, .int k), (5, .int (itr (fun i a => if (r (4 * i + 144) = x ∧ r (4 * i + 145) = g ∧ r (4 * i + 146) = k) ∧ a < r (4 * i + 147) then r (4 * i + 147) else a) (-5) i_7)), (6, .int (nI i_7))]) hx hb dX8_refusedWith_31 hl (by decide) rfl (fun ls hl => ?_)
        refine lv_aload_n hx hb dX8_refusedWith_33 rfl (lv_at hl 1 rfl) ?_
        refine fg_X8_7 X h dX8_refusedWith_34 ?_
        refine lv_iload hx hb dX8_refusedWith_37 (lv_at hl 0 rfl) ?_
        refine rs_ld X h B (4 * i_7 + 144) (congrArg nI (by omega)) (by omega) dX8_refusedWith_39 ?_
        refine lv_as (y := r (4 * i_7 + 144)) (congrFun hrow _) ?_
        refine lv_iload_n hx hb dX8_refusedWith_40 rfl (lv_at hl 3 rfl) ?_
        refine lv_icmp_ne (tgt := 75) hx hb dX8_refusedWith_41 (by decide) (fun c_41 => ?_) (fun c_41 => ?_)
        · refine lv_iconst (v := nI 0) hx hb dX8_refusedWith_75 (by decide) ?_
          refine lv_istore (lv' := [(8, .int (nI 0)), (7, .int (nI (B + 4 * i_7 + 144))), (0, .ref (ad 210)), (1, .int (nI B)), (2, .int x), (3, .int g), (4, .int k), (5, .int (itr (fun i a => if (r (4 * i + 144) = x ∧ r (4 * i + 145) = g ∧ r (4 * i + 146) = k) ∧ a < r (4 * i + 147) then r (4 * i + 147) else a) (-5) i_7)), (6, .int (nI i_7))]) hx hb dX8_refusedWith_76 hl (by decide) rfl (fun ls hl => ?_)
          refine lv_iload hx hb dX8_refusedWith_78 (lv_at hl 0 rfl) ?_
          refine lv_if_eq (tgt := 109) hx hb dX8_refusedWith_80 (by decide) (fun c_80 => ?_) (fun c_80 => absurd (by decide) c_80)
          refine lv_iload hx hb dX8_refusedWith_109 (lv_at hl 7 rfl) ?_
          refine lv_as (y := itr (fun i a => if (r (4 * i + 144) = x ∧ r (4 * i + 145) = g ∧ r (4 * i + 146) = k) ∧ a < r (4 * i + 147) then r (4 * i + 147) else a) (-5) (i_7 + 1)) (by show _ = ite _ _ _; rw [if_neg (fun q => by simp_all)]) ?_
          refine lv_istore (lv' := [(5, .int (itr (fun i a => if (r (4 * i + 144) = x ∧ r (4 * i + 145) = g ∧ r (4 * i + 146) = k) ∧ a < r (4 * i + 147) then r (4 * i + 147) else a) (-5) (i_7 + 1))), (8, .int (nI 0)), (7, .int (nI (B + 4 * i_7 + 144))), (0, .ref (ad 210)), (1, .int (nI B)), (2, .int x), (3, .int g), (4, .int k), (6, .int (nI i_7))]) hx hb dX8_refusedWith_111 hl (by decide) rfl (fun ls hl => ?_)
          refine lv_iinc (v := nI (i_7 + 1)) (lv' := [(6, .int (nI (i_7 + 1))), (5, .int (itr (fun i a => if (r (4 * i + 144) = x ∧ r (4 * i + 145) = g ∧ r (4 * i + 146) = k) ∧ a < r (4 * i + 147) then r (4 * i + 147) else a) (-5) (i_7 + 1))), (8, .int (nI 0)), (7, .int (nI (B + 4 * i_7 + 144))), (0, .ref (ad 210)), (1, .int (nI B)), (2, .int x), (3, .int g), (4, .int k)]) hx hb dX8_refusedWith_113 hl (k := 8) rfl (nI_addc (b := 1) (by omega)) (by decide) rfl (fun ls hl => ?_)
          refine lv_goto (tgt := 7) hx hb dX8_refusedWith_116 (by decide) ?_
          exact ih_7 (i_7 + 1) (by omega) (by omega) _ _ _ h (lv_sub hl [4, 5, 6, 7, 8, 1, 0] rfl)
        · refine lv_aload_n hx hb dX8_refusedWith_44 rfl (lv_at hl 1 rfl) ?_
          refine fg_X8_7 X h dX8_refusedWith_45 ?_
          refine lv_iload hx hb dX8_refusedWith_48 (lv_at hl 0 rfl) ?_
          refine lv_iconst (v := nI 1) hx hb dX8_refusedWith_50 (by decide) ?_
          refine lv_iadd hx hb dX8_refusedWith_51 ?_
          refine lv_as (y := nI (B + 4 * i_7 + 145)) (nI_addc (by omega)) ?_
          refine rs_ld X h B (4 * i_7 + 145) (congrArg nI (by omega)) (by omega) dX8_refusedWith_52 ?_
          refine lv_as (y := r (4 * i_7 + 145)) (congrFun hrow _) ?_
          refine lv_iload_n hx hb dX8_refusedWith_53 rfl (lv_at hl 4 rfl) ?_
          refine lv_icmp_ne (tgt := 75) hx hb dX8_refusedWith_54 (by decide) (fun c_54 => ?_) (fun c_54 => ?_)
          · refine lv_iconst (v := nI 0) hx hb dX8_refusedWith_75 (by decide) ?_
            refine lv_istore (lv' := [(8, .int (nI 0)), (7, .int (nI (B + 4 * i_7 + 144))), (0, .ref (ad 210)), (1, .int (nI B)), (2, .int x), (3, .int g), (4, .int k), (5, .int (itr (fun i a => if (r (4 * i + 144) = x ∧ r (4 * i + 145) = g ∧ r (4 * i + 146) = k) ∧ a < r (4 * i + 147) then r (4 * i + 147) else a) (-5) i_7)), (6, .int (nI i_7))]) hx hb dX8_refusedWith_76 hl (by decide) rfl (fun ls hl => ?_)
            refine lv_iload hx hb dX8_refusedWith_78 (lv_at hl 0 rfl) ?_
            refine lv_if_eq (tgt := 109) hx hb dX8_refusedWith_80 (by decide) (fun c_80 => ?_) (fun c_80 => absurd (by decide) c_80)
            refine lv_iload hx hb dX8_refusedWith_109 (lv_at hl 7 rfl) ?_
            refine lv_as (y := itr (fun i a => if (r (4 * i + 144) = x ∧ r (4 * i + 145) = g ∧ r (4 * i + 146) = k) ∧ a < r (4 * i + 147) then r (4 * i + 147) else a) (-5) (i_7 + 1)) (by show _ = ite _ _ _; rw [if_neg (fun q => by simp_all)]) ?_
            refine lv_istore (lv' := [(5, .int (itr (fun i a => if (r (4 * i + 144) = x ∧ r (4 * i + 145) = g ∧ r (4 * i + 146) = k) ∧ a < r (4 * i + 147) then r (4 * i + 147) else a) (-5) (i_7 + 1))), (8, .int (nI 0)), (7, .int (nI (B + 4 * i_7 + 144))), (0, .ref (ad 210)), (1, .int (nI B)), (2, .int x), (3, .int g), (4, .int k), (6, .int (nI i_7))]) hx hb dX8_refusedWith_111 hl (by decide) rfl (fun ls hl => ?_)
            refine lv_iinc (v := nI (i_7 + 1)) (lv' := [(6, .int (nI (i_7 + 1))), (5, .int (itr (fun i a => if (r (4 * i + 144) = x ∧ r (4 * i + 145) = g ∧ r (4 * i + 146) = k) ∧ a < r (4 * i + 147) then r (4 * i + 147) else a) (-5) (i_7 + 1))), (8, .int (nI 0)), (7, .int (nI (B + 4 * i_7 + 144))), (0, .ref (ad 210)), (1, .int (nI B)), (2, .int x), (3, .int g), (4, .int k)]) hx hb dX8_refusedWith_113 hl (k := 8) rfl (nI_addc (b := 1) (by omega)) (by decide) rfl (fun ls hl => ?_)
            refine lv_goto (tgt := 7) hx hb dX8_refusedWith_116 (by decide) ?_
            exact ih_7 (i_7 + 1) (by omega) (by omega) _ _ _ h (lv_sub hl [4, 5, 6, 7, 8, 1, 0] rfl)
          · refine lv_aload_n hx hb dX8_refusedWith_57 rfl (lv_at hl 1 rfl) ?_
            refine fg_X8_7 X h dX8_refusedWith_58 ?_
            refine lv_iload hx hb dX8_refusedWith_61 (lv_at hl 0 rfl) ?_
            refine lv_iconst (v := nI 2) hx hb dX8_refusedWith_63 (by decide) ?_
            refine lv_iadd hx hb dX8_refusedWith_64 ?_
            refine lv_as (y := nI (B + 4 * i_7 + 146)) (nI_addc (by omega)) ?_
            refine rs_ld X h B (4 * i_7 + 146) (congrArg nI (by omega)) (by omega) dX8_refusedWith_65 ?_
            refine lv_as (y := r (4 * i_7 + 146)) (congrFun hrow _) ?_
            refine lv_iload hx hb dX8_refusedWith_66 (lv_at hl 5 rfl) ?_
            refine lv_icmp_ne (tgt := 75) hx hb dX8_refusedWith_68 (by decide) (fun c_68 => ?_) (fun c_68 => ?_)
            · refine lv_iconst (v := nI 0) hx hb dX8_refusedWith_75 (by decide) ?_
              refine lv_istore (lv' := [(8, .int (nI 0)), (7, .int (nI (B + 4 * i_7 + 144))), (0, .ref (ad 210)), (1, .int (nI B)), (2, .int x), (3, .int g), (4, .int k), (5, .int (itr (fun i a => if (r (4 * i + 144) = x ∧ r (4 * i + 145) = g ∧ r (4 * i + 146) = k) ∧ a < r (4 * i + 147) then r (4 * i + 147) else a) (-5) i_7)), (6, .int (nI i_7))]) hx hb dX8_refusedWith_76 hl (by decide) rfl (fun ls hl => ?_)
              refine lv_iload hx hb dX8_refusedWith_78 (lv_at hl 0 rfl) ?_
              refine lv_if_eq (tgt := 109) hx hb dX8_refusedWith_80 (by decide) (fun c_80 => ?_) (fun c_80 => absurd (by decide) c_80)
              refine lv_iload hx hb dX8_refusedWith_109 (lv_at hl 7 rfl) ?_
              refine lv_as (y := itr (fun i a => if (r (4 * i + 144) = x ∧ r (4 * i + 145) = g ∧ r (4 * i + 146) = k) ∧ a < r (4 * i + 147) then r (4 * i + 147) else a) (-5) (i_7 + 1)) (by show _ = ite _ _ _; rw [if_neg (fun q => by simp_all)]) ?_
              refine lv_istore (lv' := [(5, .int (itr (fun i a => if (r (4 * i + 144) = x ∧ r (4 * i + 145) = g ∧ r (4 * i + 146) = k) ∧ a < r (4 * i + 147) then r (4 * i + 147) else a) (-5) (i_7 + 1))), (8, .int (nI 0)), (7, .int (nI (B + 4 * i_7 + 144))), (0, .ref (ad 210)), (1, .int (nI B)), (2, .int x), (3, .int g), (4, .int k), (6, .int (nI i_7))]) hx hb dX8_refusedWith_111 hl (by decide) rfl (fun ls hl => ?_)
              refine lv_iinc (v := nI (i_7 + 1)) (lv' := [(6, .int (nI (i_7 + 1))), (5, .int (itr (fun i a => if (r (4 * i + 144) = x ∧ r (4 * i + 145) = g ∧ r (4 * i + 146) = k) ∧ a < r (4 * i + 147) then r (4 * i + 147) else a) (-5) (i_7 + 1))), (8, .int (nI 0)), (7, .int (nI (B + 4 * i_7 + 144))), (0, .ref (ad 210)), (1, .int (nI B)), (2, .int x), (3, .int g), (4, .int k)]) hx hb dX8_refusedWith_113 hl (k := 8) rfl (nI_addc (b := 1) (by omega)) (by decide) rfl (fun ls hl => ?_)
              refine lv_goto (tgt := 7) hx hb dX8_refusedWith_116 (by decide) ?_
              exact ih_7 (i_7 + 1) (by omega) (by omega) _ _ _ h (lv_sub hl [4, 5, 6, 7, 8, 1, 0] rfl)
            · refine lv_iconst (v := nI 1) hx hb dX8_refusedWith_71 (by decide) ?_
              refine lv_goto (tgt := 76) hx hb dX8_refusedWith_72 (by decide) ?_
              refine lv_istore (lv' := [(8, .int (nI 1)), (7, .int (nI (B + 4 * i_7 + 144))), (0, .ref (ad 210)), (1, .int (nI B)), (2, .int x), (3, .int g), (4, .int k), (5, .int (itr (fun i a => if (r (4 * i + 144) = x ∧ r (4 * i + 145) = g ∧ r (4 * i + 146) = k) ∧ a < r (4 * i + 147) then r (4 * i + 147) else a) (-5) i_7)), (6, .int (nI i_7))]) hx hb dX8_refusedWith_76 hl (by decide) rfl (fun ls hl => ?_)
              refine lv_iload hx hb dX8_refusedWith_78 (lv_at hl 0 rfl) ?_
              refine lv_if_eq (tgt := 109) hx hb dX8_refusedWith_80 (by decide) (fun c_80 => absurd c_80 (by decide)) (fun c_80 => ?_)
              refine lv_aload_n hx hb dX8_refusedWith_83 rfl (lv_at hl 2 rfl) ?_
              refine fg_X8_7 X h dX8_refusedWith_84 ?_
              refine lv_iload hx hb dX8_refusedWith_87 (lv_at hl 1 rfl) ?_
              refine lv_iconst (v := nI 3) hx hb dX8_refusedWith_89 (by decide) ?_
              refine lv_iadd hx hb dX8_refusedWith_90 ?_
              refine lv_as (y := nI (B + 4 * i_7 + 147)) (nI_addc (by omega)) ?_
              refine rs_ld X h B (4 * i_7 + 147) (congrArg nI (by omega)) (by omega) dX8_refusedWith_91 ?_
              refine lv_as (y := r (4 * i_7 + 147)) (congrFun hrow _) ?_
              refine lv_iload hx hb dX8_refusedWith_92 (lv_at hl 7 rfl) ?_
              refine lv_icmp_le (tgt := 109) hx hb dX8_refusedWith_94 (by decide) (fun c_94 => ?_) (fun c_94 => ?_)
              · refine lv_iload hx hb dX8_refusedWith_109 (lv_at hl 7 rfl) ?_
                refine lv_as (y := itr (fun i a => if (r (4 * i + 144) = x ∧ r (4 * i + 145) = g ∧ r (4 * i + 146) = k) ∧ a < r (4 * i + 147) then r (4 * i + 147) else a) (-5) (i_7 + 1)) (by show _ = ite _ _ _; rw [if_neg (fun q => Int32.not_lt.mpr c_94 q.2)]) ?_
                refine lv_istore (lv' := [(5, .int (itr (fun i a => if (r (4 * i + 144) = x ∧ r (4 * i + 145) = g ∧ r (4 * i + 146) = k) ∧ a < r (4 * i + 147) then r (4 * i + 147) else a) (-5) (i_7 + 1))), (8, .int (nI 1)), (7, .int (nI (B + 4 * i_7 + 144))), (0, .ref (ad 210)), (1, .int (nI B)), (2, .int x), (3, .int g), (4, .int k), (6, .int (nI i_7))]) hx hb dX8_refusedWith_111 hl (by decide) rfl (fun ls hl => ?_)
                refine lv_iinc (v := nI (i_7 + 1)) (lv' := [(6, .int (nI (i_7 + 1))), (5, .int (itr (fun i a => if (r (4 * i + 144) = x ∧ r (4 * i + 145) = g ∧ r (4 * i + 146) = k) ∧ a < r (4 * i + 147) then r (4 * i + 147) else a) (-5) (i_7 + 1))), (8, .int (nI 1)), (7, .int (nI (B + 4 * i_7 + 144))), (0, .ref (ad 210)), (1, .int (nI B)), (2, .int x), (3, .int g), (4, .int k)]) hx hb dX8_refusedWith_113 hl (k := 8) rfl (nI_addc (b := 1) (by omega)) (by decide) rfl (fun ls hl => ?_)
                refine lv_goto (tgt := 7) hx hb dX8_refusedWith_116 (by decide) ?_
                exact ih_7 (i_7 + 1) (by omega) (by omega) _ _ _ h (lv_sub hl [4, 5, 6, 7, 8, 1, 0] rfl)
              · refine lv_aload_n hx hb dX8_refusedWith_97 rfl (lv_at hl 2 rfl) ?_
                refine fg_X8_7 X h dX8_refusedWith_98 ?_
                refine lv_iload hx hb dX8_refusedWith_101 (lv_at hl 1 rfl) ?_
                refine lv_iconst (v := nI 3) hx hb dX8_refusedWith_103 (by decide) ?_
                refine lv_iadd hx hb dX8_refusedWith_104 ?_
                refine lv_as (y := nI (B + 4 * i_7 + 147)) (nI_addc (by omega)) ?_
                refine rs_ld X h B (4 * i_7 + 147) (congrArg nI (by omega)) (by omega) dX8_refusedWith_105 ?_
                refine lv_as (y := r (4 * i_7 + 147)) (congrFun hrow _) ?_
                refine lv_goto (tgt := 111) hx hb dX8_refusedWith_106 (by decide) ?_
                refine lv_as (y := itr (fun i a => if (r (4 * i + 144) = x ∧ r (4 * i + 145) = g ∧ r (4 * i + 146) = k) ∧ a < r (4 * i + 147) then r (4 * i + 147) else a) (-5) (i_7 + 1)) (by show _ = ite _ _ _; rw [if_pos ⟨⟨by assumption, by assumption, by assumption⟩, Int32.not_le.mp (by assumption)⟩]) ?_
                refine lv_istore (lv' := [(5, .int (itr (fun i a => if (r (4 * i + 144) = x ∧ r (4 * i + 145) = g ∧ r (4 * i + 146) = k) ∧ a < r (4 * i + 147) then r (4 * i + 147) else a) (-5) (i_7 + 1))), (8, .int (nI 1)), (7, .int (nI (B + 4 * i_7 + 144))), (0, .ref (ad 210)), (1, .int (nI B)), (2, .int x), (3, .int g), (4, .int k), (6, .int (nI i_7))]) hx hb dX8_refusedWith_111 hl (by decide) rfl (fun ls hl => ?_)
                refine lv_iinc (v := nI (i_7 + 1)) (lv' := [(6, .int (nI (i_7 + 1))), (5, .int (itr (fun i a => if (r (4 * i + 144) = x ∧ r (4 * i + 145) = g ∧ r (4 * i + 146) = k) ∧ a < r (4 * i + 147) then r (4 * i + 147) else a) (-5) (i_7 + 1))), (8, .int (nI 1)), (7, .int (nI (B + 4 * i_7 + 144))), (0, .ref (ad 210)), (1, .int (nI B)), (2, .int x), (3, .int g), (4, .int k)]) hx hb dX8_refusedWith_113 hl (k := 8) rfl (nI_addc (b := 1) (by omega)) (by decide) rfl (fun ls hl => ?_)
                refine lv_goto (tgt := 7) hx hb dX8_refusedWith_116 (by decide) ?_
                exact ih_7 (i_7 + 1) (by omega) (by omega) _ _ _ h (lv_sub hl [4, 5, 6, 7, 8, 1, 0] rfl)
  exact LP_7 (on r + 1) 0 (by omega) (by omega) _ _ _ h (lv_sub hl [2, 3, 4, 5, 6, 1, 0] rfl)
