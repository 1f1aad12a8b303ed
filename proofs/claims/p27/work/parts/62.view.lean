/-! THE LAW'S VIEW of the object: its row r (and nothing beyond), n states in the history, the latest of them y -/
def Cn (r : Nat → Int32) : Prop := ∀ k, 612 ≤ k → r k = 0
def glu (y S : Nat → Int32) : Nat → Int32 := fun k => if k < 612 then y k else S k
theorem glu_req (y S : Nat → Int32) : REq y (glu y S) := fun k hk => by unfold glu; rw [if_pos hk]
theorem glu_hi (y S : Nat → Int32) : HiEq S (glu y S) := fun k hk => by unfold glu; rw [if_neg (by omega)]
theorem cn_ext {r y : Nat → Int32} (h : Cn r) (g : Cn y) (e : REq r y) : y = r := by
  funext k
  by_cases c : k < 612
  · exact e k c
  · rw [h k (by omega), g k (by omega)]
theorem HiEq.cn {r y : Nat → Int32} (h : HiEq r y) (g : Cn r) : Cn y := fun k hk => (h k hk).trans (g k hk)
def Hv (G : GG) (r : Nat → Int32) (n : Nat) : Prop := Cls G G ∧ G 210 1 = nI n ∧ n ≤ 4 ∧ Cn r ∧ REq r (G 211)
def Tp (G : GG) (y : Nat → Int32) (n : Nat) : Prop := 1 ≤ n ∧ Cn y ∧ REq y (rwS (G 211) (612 * n))
theorem Hv.rep {G : GG} {r : Nat → Int32} {n : Nat} (h : Hv G r n) : Rep G 1 r := Rep_req h.2.2.2.2.sy h.1.1
theorem Hv.at {G : GG} {r : Nat → Int32} {n : Nat} (h : Hv G r n) : G 101 2 = nI n := by
  obtain ⟨F, -, -, -, h4, -⟩ := Cls.n h.1 h.2.1 h.2.2.1
  exact h4
/-- the same cells: what else G says is the proof's own -/
def Ph (G G' : GG) : Prop := (∀ k, k < 210 → G' k = G k) ∧ ∀ j, 1000 ≤ j → G' 210 j = G 210 j
theorem HG.ph {J : JJ} {z : ZZ} {ad : Nat → Nat} {s : State} {G G' : GG} {H : Heap} {locs : List Loc} (h : HG J z ad s G H locs) (hz : z.2 ≤ 1) (p : Ph G G') : HG J z ad s G' H locs := by
  refine HS.cg h (fun k hk => ?_)
  by_cases c : k < 210
  · show shC J ad k (G k) = shC J ad k (G' k)
    rw [p.1 k c]
  · have e : k = 210 := by omega
    subst e
    show (.inl (J.2.1, 12, .inl (fun j => G 210 (j + 1000))) : va_E) = .inl (J.2.1, 12, .inl (fun j => G' 210 (j + 1000)))
    have : (fun j => G 210 (j + 1000)) = (fun j => G' 210 (j + 1000)) := by
      funext j
      exact (p.2 _ (by omega)).symm
    rw [this]
def mix (uG V : GG) : GG := fun k => if k = 210 then (fun j => if j < 1000 then V 210 j else uG 210 j) else if k = 211 then V 211 else if k = 212 then V 212 else uG k
theorem mix_210 (uG V : GG) : mix uG V 210 = fun j => if j < 1000 then V 210 j else uG 210 j := if_pos rfl
theorem mix_211 (uG V : GG) : mix uG V 211 = V 211 := (if_neg (by decide)).trans (if_pos rfl)
theorem mix_212 (uG V : GG) : mix uG V 212 = V 212 := (if_neg (by decide)).trans ((if_neg (by decide)).trans (if_pos rfl))
theorem mix_o {uG V : GG} {k : Nat} (h : k < 210) : mix uG V k = uG k := (if_neg (by omega)).trans ((if_neg (by omega)).trans (if_neg (by omega)))
theorem mix_ph (uG V : GG) : Ph uG (mix uG V) := ⟨fun k hk => mix_o hk, fun j hj => by rw [mix_210]; exact if_neg (by omega)⟩
theorem mix_cls {uG V : GG} (h : Cls uG V) : Cls (mix uG V) (mix uG V) := h.mv (fun k hk => mix_o (by omega)) (fun j hj => by rw [mix_210]; exact if_pos (by omega)) (mix_212 uG V) (fun k _ => by rw [mix_211])
def nx (n : Nat) (A : Int32) : Nat := if 0 ≤ A then (if n = 4 then 4 else n + 1) else n
theorem nx_neg {n : Nat} {A : Int32} (h : A < 0) : nx n A = n := if_neg (Int32.not_le.mpr h)
theorem nx_pos {n : Nat} {A : Int32} (h : 0 ≤ A) : nx n A = if n = 4 then 4 else n + 1 := if_pos h
theorem Hv_act {G uG : GG} {r y : Nat → Int32} {n : Nat} {A ans : Int32} (hv : Hv G r n) (hy : Cn y) (q : PubP G A (actG G n A (glu y (cpS (G 211) 0 6))) ans uG) : ans = A ∧ ∃ G', Ph uG G' ∧ Hv G' y (nx n A) ∧ (0 ≤ A → Tp G' r (nx n A)) ∧ ∀ j, 1000 ≤ j → G' 210 j = G 210 j := by
  obtain ⟨hC, hn, hn4, hr, he⟩ := hv
  obtain ⟨q1, q2, q3⟩ := q
  obtain ⟨V, hV⟩ : ∃ V, V = actG G n A (glu y (cpS (G 211) 0 6)) := ⟨_, rfl⟩
  rw [← hV] at q3
  unfold actG at hV
  refine ⟨q1, mix uG V, mix_ph uG V, ⟨mix_cls q3, ?_, ?_, hy, ?_⟩, fun h0 => ⟨?_, hr, ?_⟩, fun j hj => ?_⟩
  · rw [mix_210]
    show V 210 1 = _
    rw [hV]
    by_cases h0 : 0 ≤ A
    · rw [if_pos h0, u1_s, upd_s, nx_pos h0]
    · rw [if_neg h0, u1_n (by decide), nx_neg (Int32.not_le.mp h0)]
      exact hn
  · unfold nx
    split
    · split <;> omega
    · exact hn4
  · rw [mix_211, hV]
    by_cases h0 : 0 ≤ A
    · rw [if_pos h0, u1_n (by decide), u1_s]
      have := rcS_oth (S := glu y (cpS (G 211) 0 6)) (n := n) (a := 6) (c := 0) hn4 (Or.inl rfl)
      rw [rw0, rw0] at this
      exact (glu_req y _).tr this
    · rw [if_neg h0, u1_s]
      exact glu_req y _
  · rw [nx_pos h0]
    split <;> omega
  · rw [mix_211, hV, if_pos h0, u1_n (by decide), u1_s, nx_pos h0]
    refine REq.tr ?_ (rcS_hi hn4 (Or.inr rfl))
    have e1 : REq (G 211) (rwS (cpS (G 211) 0 6) (612 * 6)) := by
      have := cpS_at (G 211) 0 6
      rw [rw0] at this
      exact this
    refine (he.tr e1).tr (fun k hk => ?_)
    show glu y (cpS (G 211) 0 6) (612 * 6 + k) = cpS (G 211) 0 6 (612 * 6 + k)
    exact glu_hi y _ _ (by omega)
  · rw [mix_210]
    show (if j < 1000 then V 210 j else uG 210 j) = _
    rw [if_neg (by omega), q2 210 (by omega)]
theorem Hv_undo {G uG : GG} {r y : Nat → Int32} {n : Nat} {ans : Int32} (hv : Hv G r n) (ht : Tp G y n) (q : PubP G (if n = 0 then (-5) else nI (n - 1)) (if n = 0 then G else u1 (u1 G 211 (cpS (G 211) n 0)) 210 (upd (G 210) 1 (nI (n - 1)))) ans uG) : ans = nI (n - 1) ∧ ∃ G', Ph uG G' ∧ Hv G' y (n - 1) ∧ ∀ j, 1000 ≤ j → G' 210 j = G 210 j := by
  obtain ⟨hC, hn, hn4, hr, he⟩ := hv
  obtain ⟨t1, t2, t3⟩ := ht
  obtain ⟨q1, q2, q3⟩ := q
  rw [if_neg (by omega)] at q1 q3
  obtain ⟨V, hV⟩ : ∃ V, V = u1 (u1 G 211 (cpS (G 211) n 0)) 210 (upd (G 210) 1 (nI (n - 1))) := ⟨_, rfl⟩
  rw [← hV] at q3
  refine ⟨q1, mix uG V, mix_ph uG V, ⟨mix_cls q3, ?_, by omega, t2, ?_⟩, fun j hj => ?_⟩
  · rw [mix_210]
    show V 210 1 = _
    rw [hV, u1_s, upd_s]
  · rw [mix_211, hV, u1_n (by decide), u1_s]
    have := cpS_at (G 211) n 0
    rw [rw0] at this
    exact t3.tr this
  · rw [mix_210]
    show (if j < 1000 then V 210 j else uG 210 j) = _
    rw [if_neg (by omega), q2 210 (by omega)]
/-- behind a trial -/
theorem Hv.tr {G uG : GG} {r : Nat → Int32} {n : Nat} (hv : Hv G r n) (a : ∀ k, (k < 51 ∨ 76 ≤ k) → uG k = G k) : Hv uG r n := by
  obtain ⟨hC, hn, hn4, hr, he⟩ := hv
  exact ⟨hC.mv (fun k hk => a k (by omega)) (fun j _ => by rw [a 210 (by omega)]) (a 212 (by omega)) (fun k _ => by rw [a 211 (by omega)]), by rw [a 210 (by omega)]; exact hn, hn4, hr, by rw [a 211 (by omega)]; exact he⟩
theorem Tp.tr {G uG : GG} {y : Nat → Int32} {n : Nat} (hv : Tp G y n) (a : ∀ k, (k < 51 ∨ 76 ≤ k) → uG k = G k) : Tp uG y n := by
  obtain ⟨h1, h2, h3⟩ := hv
  exact ⟨h1, h2, by rw [a 211 (by omega)]; exact h3⟩
theorem Hv.arr {G : GG} {r : Nat → Int32} {n : Nat} (hv : Hv G r n) {g : Nat → Int32} (a : ∀ j, j < 1000 → g j = G 210 j) : Hv (u1 G 210 g) r n := by
  obtain ⟨hC, hn, hn4, hr, he⟩ := hv
  exact ⟨hC.mv (fun k hk => u1_n (by omega)) (fun j hj => by rw [u1_s]; exact a j (by omega)) (u1_n (by omega)) (fun k _ => by rw [u1_n (by omega)]), by rw [u1_s, a 1 (by omega)]; exact hn, hn4, hr, by rw [u1_n (by omega)]; exact he⟩
/-! an error changes nothing -/
theorem upd_sf {r : Nat → Int32} {k : Nat} {v : Int32} (h : r k = v) : upd r k v = r := by
  funext j
  by_cases e : j = k
  · rw [e, upd_s, h]
  · rw [upd_n e]
theorem nI_nn {n : Nat} (h : n < 2 ^ 31) : ¬ nI n < 0 := nI_pos h
theorem cmA_neg {r : Nat → Int32} (hW : WR r) {x w : Int32} (h : cmA r x w < 0) : cmR r x w = r := by
  unfold cmA at h
  unfold cmR
  rcases Classical.em (isN x 6) with c1 | c1
  · rw [cif_t c1] at h
    rcases Classical.em (inN w 1 9) with c2 | c2
    · rw [cif_t c2] at h
      by_cases c3 : kn r = 12
      · exact cif_f (fun q => q.2.2 c3)
      · rw [if_neg c3] at h
        exact absurd h (nI_nn (by have := hW.1.2; omega))
    · exact cif_f (fun q => c2 q.2.1)
  · exact cif_f (fun q => c1 q.1)
theorem mvA_neg {r : Nat → Int32} (hW : WR r) {d x : Int32} (h : mvA r d x < 0) : mvR r d x = r := by
  unfold mvA at h
  unfold mvR
  rcases Classical.em (isN d (kn r) ∧ isN x 6) with c1 | c1
  · rw [cif_t c1] at h ⊢
    by_cases c2 : r (6 * (tn d) + 12) = x
    · exact upd_sf c2
    · rw [if_neg c2] at h
      obtain ⟨⟨D, hD, rfl⟩, -⟩ := c1
      rw [tn_nI (by have := hW.1.2; omega)] at h
      obtain ⟨v1, v2⟩ := hW.2.2.2.2 D hD
      rw [v1] at h
      exact absurd h (nI_nn (by omega))
  · exact cif_f c1
theorem ptA_neg {r : Nat → Int32} (hW : WR r) {d x g k : Int32} (h : ptA r d x g k < 0) : ptR r d x g k = r := by
  unfold ptA at h
  unfold ptR
  rcases Classical.em (isN d (kn r) ∧ inN x 0 6 ∧ isN g 20) with c1 | c1
  · rw [cif_t c1] at h
    rcases Classical.em (inN k 0 2) with c2 | c2
    · rw [cif_t c2] at h
      rcases Classical.em (ptF r d x) with c3 | c3
      · rw [cif_t c3] at h
        exact absurd h (nI_nn (by have := hW.2.1.2; omega))
      · exact cif_f (fun q => c3 q.2.2)
    · exact cif_f (fun q => c2 q.2.1)
  · exact cif_f (fun q => c1 q.1)
theorem stA_neg {r : Nat → Int32} (h3 : n3 r) {x v : Int32} (h : stA r x v < 0) : stR r x v = r := by
  unfold stA at h
  unfold stR
  rcases Classical.em (inN x 0 1) with c1 | c1
  · rw [cif_t c1] at h
    rcases Classical.em (inN v (tn x) 60) with c2 | c2
    · rw [cif_t c2] at h
      rw [cif_t ⟨c1, c2⟩]
      by_cases c3 : r (tn x) = v
      · exact upd_sf c3
      · rw [if_neg c3] at h
        obtain ⟨X, -, hX, rfl⟩ := c1
        obtain ⟨m, L, ⟨m1, m2⟩, l1, l2, l3⟩ := h3
        rw [tn_nI (by omega)] at h
        rcases (show X = 0 ∨ X = 1 by omega) with rfl | rfl
        · rw [m1] at h
          exact absurd h (nI_nn (by omega))
        · rw [l1] at h
          exact absurd h (nI_nn (by omega))
    · exact cif_f (fun q => c2 q.2)
  · exact cif_f (fun q => c1 q.1)
theorem scA_neg {r : Nat → Int32} (hI : RI r) (hw : ∀ d, d < kn r → ∃ w, 1 ≤ w ∧ w ≤ 9 ∧ r (6 * d + 13) = nI w) {d q : Int32} (h : scA r d q < 0) : scR r d q = r := by
  unfold scA at h
  rcases Classical.em (isN d (kn r) ∧ isN q (mn r)) with c1 | c1
  · rw [cif_t c1] at h
    by_cases c2 : r (5 * (tn q) + 84) = d
    · unfold scR
      exact cif_f (fun p => p.2.1 c2)
    · rw [if_neg c2] at h
      rcases Classical.em (sbit r (tn q) d) with c3 | c3
      · unfold scR
        exact cif_f (fun p => p.2.2 c3)
      · rw [cif_f c3] at h
        obtain ⟨⟨D, hD, rfl⟩, ⟨Q, hQ, rfl⟩⟩ := c1
        obtain ⟨⟨w1, w2⟩, ⟨w3, w4⟩, ⟨w5, w6⟩, w7, w8⟩ := hI.1
        have e : scR r (nI D) (nI Q) = upd r (5 * Q + 88) (r (5 * Q + 88) ||| (nI 1 <<< (nI D &&& 31))) := by
          unfold scR
          rw [cif_t ⟨⟨⟨D, hD, rfl⟩, ⟨Q, hQ, rfl⟩⟩, c2, c3⟩, tn_nI (by omega)]
        rw [tn_nI (by omega), e] at h
        have e1 : kn (upd r (5 * Q + 88) (r (5 * Q + 88) ||| (nI 1 <<< (nI D &&& 31)))) = kn r := by unfold kn; rw [upd_n (by omega)]
        have e2 : pd (upd r (5 * Q + 88) (r (5 * Q + 88) ||| (nI 1 <<< (nI D &&& 31)))) Q = pd r Q := by unfold pd; rw [upd_n (by omega)]
        obtain ⟨v, v1, v2, v3⟩ := supp_nat (r := upd r (5 * Q + 88) (r (5 * Q + 88) ||| (nI 1 <<< (nI D &&& 31)))) (q := Q) (by omega) (by rw [e1, e2]; exact (w7 Q hQ).2.1) (fun j hj => by rw [e1] at hj; rw [upd_n (by omega)]; exact hw j hj)
        rw [v3] at h
        exact absurd h (nI_nn (by omega))
  · unfold scR
    exact cif_f (fun p => c1 p.1)
theorem edI_l12 {r : Nat → Int32} (hW : WR r) : ∀ n, (edI r n).2 ≤ 12 * n := by
  intro n
  induction n with
  | zero => exact Nat.le_refl _
  | succ n ih =>
    have h1 : dayA (edI r n).1 ≤ 12 := by
      unfold dayA
      split
      · exact Nat.zero_le _
      · have h2 := (hearC_ok (dayE (edI r n).1)).2
        have h3 := (dayE_WR (edI_WR hW n)).2.1.2
        omega
    show dayA (edI r n).1 + (edI r n).2 ≤ 12 * (n + 1)
    omega
theorem edA_neg {r : Nat → Int32} (hW : WR r) {t : Int32} (h : edA r t < 0) : edR r t = r := by
  unfold edA at h
  unfold edR
  rcases Classical.em (inN t 1 99) with c1 | c1
  · rw [cif_t c1] at h
    by_cases c2 : r 2 + t ≤ nI 99999
    · rw [if_pos c2] at h
      obtain ⟨T, T1, T2, rfl⟩ := c1
      rw [tn_nI (by omega)] at h
      have := edI_l12 hW T
      exact absurd h (nI_nn (by omega))
    · exact cif_f (fun q => c2 q.2)
  · exact cif_f (fun q => c1 q.1)
set_option maxHeartbeats 4000000 in
set_option maxRecDepth 100000 in
theorem k_X7_come (l : Launch) (J : JJ) (z : ZZ) (ad : Nat → Nat) (G : GG) (n : Nat) (hn : G 210 1 = nI n) (hn4 : n ≤ 4) (hC : Cls G G) (r : Nat → Int32) (hr : REq r (G 211)) (x w : Int32) : MI l J z ad yX7_come cX7_come 3 .int 5 [.ref (ad 0), .int x, .int w] G (fun ans uG => PubP G (cmA r x w) (actG G n (cmA r x w) (glu (cmR r x w) (cpS (G 211) 0 6))) ans uG) := by
  refine MI.go (by decide) (Nat.le_of_ble_eq_true rfl) ?_
  intro pr e s m args below meth c ls Q X h hl hret
  have hx := X.1
  have hb := X.2.1
  have hown := X.2.2.2.1
  have hts := X.2.2.2.2
  have hl : lv_has ls 3 [(0, .ref (ad 0)), (1, .int x), (2, .int w)] := hl
  refine lv_aload_n hx hb dX7_come_0 rfl (lv_at hl 0 rfl) ?_
  refine fg_X7_16 X h dX7_come_1 ?_
  refine lv_aload_n hx hb dX7_come_4 rfl (lv_at hl 0 rfl) ?_
  refine fg_X7_12 X h dX7_come_5 ?_
  refine rg_cvv (As := [.ref (ad 1)]) (rest := []) X hl.1 h (c_X5_copyFrom l J z ad G 26 1 isB_26 isB_1 (by omega)) mw_267 mw_268 mw_269 mw_11 mw_270 pdX5_copyFrom (isB_26.lt (c := 0) (by decide)) (so_0 isB_26 J ad _) rfl rfl ⟨Nat.le_of_ble_eq_true rfl, Nat.le_of_ble_eq_true rfl⟩ ⟨Nat.le_of_ble_eq_true rfl, Nat.le_of_ble_eq_true rfl⟩ rfl (Nat.le_of_ble_eq_true rfl) dX7_come_8 (fun G1 H locs q1 h => ?_)
  refine lv_aload_n hx hb dX7_come_11 rfl (lv_at hl 0 rfl) ?_
  refine lv_aload_n hx hb dX7_come_12 rfl (lv_at hl 0 rfl) ?_
  refine fg_X7_12 X h dX7_come_13 ?_
  refine lv_iload_n hx hb dX7_come_16 rfl (lv_at hl 1 rfl) ?_
  refine lv_iload_n hx hb dX7_come_17 rfl (lv_at hl 2 rfl) ?_
  have hR1 : Rep G1 1 r := Rep_req hr.sy (Rep_frame (fun k a b => q1.1 k (by omega)) hC.1)
  refine rg_civ (As := [.int x, .int w]) (rest := [.ref (ad 0)]) X hl.1 h (c_X5_addDrone l J z ad G1 1 isB_1 r hR1 x w) mw_389 mw_390 mw_391 mw_11 mw_392 pdX5_addDrone (isB_1.lt (c := 0) (by decide)) (so_0 isB_1 J ad _) rfl rfl ⟨Nat.le_of_ble_eq_true rfl, Nat.le_of_ble_eq_true rfl⟩ ⟨Nat.le_of_ble_eq_true rfl, Nat.le_of_ble_eq_true rfl⟩ rfl (Nat.le_of_ble_eq_true rfl) dX7_come_18 (fun r2 G2 H locs q2 h => ?_)
  obtain ⟨ra, hf2, hR2⟩ := q2
  have hA := Cls_act hC q1 hf2 (Rep_req (glu_req _ (cpS (G 211) 0 6)) hR2) (glu_hi _ _)
  refine lv_as (y := cmA r x w) ra ?_
  refine rg_civ (As := [.int (cmA r x w)]) (rest := []) X hl.1 h (c_X7_recorded l J z ad G2 G (glu (cmR r x w) (cpS (G 211) 0 6)) n hn hn4 hA.1 hA.2 (cmA r x w)) mw_357 mw_358 mw_359 mw_2 mw_360 pdX7_recorded (by decide) (xo_0 J ad _) rfl rfl ⟨Nat.le_of_ble_eq_true rfl, Nat.le_of_ble_eq_true rfl⟩ ⟨Nat.le_of_ble_eq_true rfl, Nat.le_of_ble_eq_true rfl⟩ rfl (Nat.le_of_ble_eq_true rfl) dX7_come_21 (fun r3 G3 H locs q3 h => ?_)
  exact hret r3 G3 _ _ 24 _ (⟨q3.1, fun k hk => (q3.2.1 k (by omega)).trans ((hf2 k (by omega)).trans (q1.1 k (by omega))), q3.2.2⟩) h dX7_come_24
set_option maxHeartbeats 4000000 in
set_option maxRecDepth 100000 in
theorem k_X7_move (l : Launch) (J : JJ) (z : ZZ) (ad : Nat → Nat) (G : GG) (n : Nat) (hn : G 210 1 = nI n) (hn4 : n ≤ 4) (hC : Cls G G) (r : Nat → Int32) (hr : REq r (G 211)) (d x : Int32) : MI l J z ad yX7_move cX7_move 3 .int 5 [.ref (ad 0), .int d, .int x] G (fun ans uG => PubP G (mvA r d x) (actG G n (mvA r d x) (glu (mvR r d x) (cpS (G 211) 0 6))) ans uG) := by
  refine MI.go (by decide) (Nat.le_of_ble_eq_true rfl) ?_
  intro pr e s m args below meth c ls Q X h hl hret
  have hx := X.1
  have hb := X.2.1
  have hown := X.2.2.2.1
  have hts := X.2.2.2.2
  have hl : lv_has ls 3 [(0, .ref (ad 0)), (1, .int d), (2, .int x)] := hl
  refine lv_aload_n hx hb dX7_move_0 rfl (lv_at hl 0 rfl) ?_
  refine fg_X7_16 X h dX7_move_1 ?_
  refine lv_aload_n hx hb dX7_move_4 rfl (lv_at hl 0 rfl) ?_
  refine fg_X7_12 X h dX7_move_5 ?_
  refine rg_cvv (As := [.ref (ad 1)]) (rest := []) X hl.1 h (c_X5_copyFrom l J z ad G 26 1 isB_26 isB_1 (by omega)) mw_267 mw_268 mw_269 mw_11 mw_270 pdX5_copyFrom (isB_26.lt (c := 0) (by decide)) (so_0 isB_26 J ad _) rfl rfl ⟨Nat.le_of_ble_eq_true rfl, Nat.le_of_ble_eq_true rfl⟩ ⟨Nat.le_of_ble_eq_true rfl, Nat.le_of_ble_eq_true rfl⟩ rfl (Nat.le_of_ble_eq_true rfl) dX7_move_8 (fun G1 H locs q1 h => ?_)
  refine lv_aload_n hx hb dX7_move_11 rfl (lv_at hl 0 rfl) ?_
  refine lv_aload_n hx hb dX7_move_12 rfl (lv_at hl 0 rfl) ?_
  refine fg_X7_12 X h dX7_move_13 ?_
  refine lv_iload_n hx hb dX7_move_16 rfl (lv_at hl 1 rfl) ?_
  refine lv_iload_n hx hb dX7_move_17 rfl (lv_at hl 2 rfl) ?_
  have hR1 : Rep G1 1 r := Rep_req hr.sy (Rep_frame (fun k a b => q1.1 k (by omega)) hC.1)
  refine rg_civ (As := [.int d, .int x]) (rest := [.ref (ad 0)]) X hl.1 h (c_X5_moveDrone l J z ad G1 1 isB_1 r hR1 d x) mw_405 mw_406 mw_407 mw_11 mw_408 pdX5_moveDrone (isB_1.lt (c := 0) (by decide)) (so_0 isB_1 J ad _) rfl rfl ⟨Nat.le_of_ble_eq_true rfl, Nat.le_of_ble_eq_true rfl⟩ ⟨Nat.le_of_ble_eq_true rfl, Nat.le_of_ble_eq_true rfl⟩ rfl (Nat.le_of_ble_eq_true rfl) dX7_move_18 (fun r2 G2 H locs q2 h => ?_)
  obtain ⟨ra, hf2, hR2⟩ := q2
  have hA := Cls_act hC q1 hf2 (Rep_req (glu_req _ (cpS (G 211) 0 6)) hR2) (glu_hi _ _)
  refine lv_as (y := mvA r d x) ra ?_
  refine rg_civ (As := [.int (mvA r d x)]) (rest := []) X hl.1 h (c_X7_recorded l J z ad G2 G (glu (mvR r d x) (cpS (G 211) 0 6)) n hn hn4 hA.1 hA.2 (mvA r d x)) mw_357 mw_358 mw_359 mw_2 mw_360 pdX7_recorded (by decide) (xo_0 J ad _) rfl rfl ⟨Nat.le_of_ble_eq_true rfl, Nat.le_of_ble_eq_true rfl⟩ ⟨Nat.le_of_ble_eq_true rfl, Nat.le_of_ble_eq_true rfl⟩ rfl (Nat.le_of_ble_eq_true rfl) dX7_move_21 (fun r3 G3 H locs q3 h => ?_)
  exact hret r3 G3 _ _ 24 _ (⟨q3.1, fun k hk => (q3.2.1 k (by omega)).trans ((hf2 k (by omega)).trans (q1.1 k (by omega))), q3.2.2⟩) h dX7_move_24
set_option maxHeartbeats 4000000 in
set_option maxRecDepth 100000 in
theorem k_X7_petition (l : Launch) (J : JJ) (z : ZZ) (ad : Nat → Nat) (G : GG) (n : Nat) (hn : G 210 1 = nI n) (hn4 : n ≤ 4) (hC : Cls G G) (r : Nat → Int32) (hr : REq r (G 211)) (d x g k : Int32) : MI l J z ad yX7_petition cX7_petition 5 .int 5 [.ref (ad 0), .int d, .int x, .int g, .int k] G (fun ans uG => PubP G (ptA r d x g k) (actG G n (ptA r d x g k) (glu (ptR r d x g k) (cpS (G 211) 0 6))) ans uG) := by
  refine MI.go (by decide) (Nat.le_of_ble_eq_true rfl) ?_
  intro pr e s m args below meth c ls Q X h hl hret
  have hx := X.1
  have hb := X.2.1
  have hown := X.2.2.2.1
  have hts := X.2.2.2.2
  have hl : lv_has ls 5 [(0, .ref (ad 0)), (1, .int d), (2, .int x), (3, .int g), (4, .int k)] := hl
  refine lv_aload_n hx hb dX7_petition_0 rfl (lv_at hl 0 rfl) ?_
  refine fg_X7_16 X h dX7_petition_1 ?_
  refine lv_aload_n hx hb dX7_petition_4 rfl (lv_at hl 0 rfl) ?_
  refine fg_X7_12 X h dX7_petition_5 ?_
  refine rg_cvv (As := [.ref (ad 1)]) (rest := []) X hl.1 h (c_X5_copyFrom l J z ad G 26 1 isB_26 isB_1 (by omega)) mw_267 mw_268 mw_269 mw_11 mw_270 pdX5_copyFrom (isB_26.lt (c := 0) (by decide)) (so_0 isB_26 J ad _) rfl rfl ⟨Nat.le_of_ble_eq_true rfl, Nat.le_of_ble_eq_true rfl⟩ ⟨Nat.le_of_ble_eq_true rfl, Nat.le_of_ble_eq_true rfl⟩ rfl (Nat.le_of_ble_eq_true rfl) dX7_petition_8 (fun G1 H locs q1 h => ?_)
  refine lv_aload_n hx hb dX7_petition_11 rfl (lv_at hl 0 rfl) ?_
  refine lv_aload_n hx hb dX7_petition_12 rfl (lv_at hl 0 rfl) ?_
  refine fg_X7_12 X h dX7_petition_13 ?_
  refine lv_iload_n hx hb dX7_petition_16 rfl (lv_at hl 1 rfl) ?_
  refine lv_iload_n hx hb dX7_petition_17 rfl (lv_at hl 2 rfl) ?_
  refine lv_iload_n hx hb dX7_petition_18 rfl (lv_at hl 3 rfl) ?_
  refine lv_iload hx hb dX7_petition_19 (lv_at hl 4 rfl) ?_
  have hR1 : Rep G1 1 r := Rep_req hr.sy (Rep_frame (fun k a b => q1.1 k (by omega)) hC.1)
  refine rg_civ (As := [.int d, .int x, .int g, .int k]) (rest := [.ref (ad 0)]) X hl.1 h (c_X5_addPetition l J z ad G1 1 isB_1 r hR1 d x g k) mw_415 mw_416 mw_417 mw_11 mw_418 pdX5_addPetition (isB_1.lt (c := 0) (by decide)) (so_0 isB_1 J ad _) rfl rfl ⟨Nat.le_of_ble_eq_true rfl, Nat.le_of_ble_eq_true rfl⟩ ⟨Nat.le_of_ble_eq_true rfl, Nat.le_of_ble_eq_true rfl⟩ rfl (Nat.le_of_ble_eq_true rfl) dX7_petition_21 (fun r2 G2 H locs q2 h => ?_)
  obtain ⟨ra, hf2, hR2⟩ := q2
  have hA := Cls_act hC q1 hf2 (Rep_req (glu_req _ (cpS (G 211) 0 6)) hR2) (glu_hi _ _)
  refine lv_as (y := ptA r d x g k) ra ?_
  refine rg_civ (As := [.int (ptA r d x g k)]) (rest := []) X hl.1 h (c_X7_recorded l J z ad G2 G (glu (ptR r d x g k) (cpS (G 211) 0 6)) n hn hn4 hA.1 hA.2 (ptA r d x g k)) mw_357 mw_358 mw_359 mw_2 mw_360 pdX7_recorded (by decide) (xo_0 J ad _) rfl rfl ⟨Nat.le_of_ble_eq_true rfl, Nat.le_of_ble_eq_true rfl⟩ ⟨Nat.le_of_ble_eq_true rfl, Nat.le_of_ble_eq_true rfl⟩ rfl (Nat.le_of_ble_eq_true rfl) dX7_petition_24 (fun r3 G3 H locs q3 h => ?_)
  exact hret r3 G3 _ _ 27 _ (⟨q3.1, fun k hk => (q3.2.1 k (by omega)).trans ((hf2 k (by omega)).trans (q1.1 k (by omega))), q3.2.2⟩) h dX7_petition_27
set_option maxHeartbeats 4000000 in
set_option maxRecDepth 100000 in
theorem k_X7_second (l : Launch) (J : JJ) (z : ZZ) (ad : Nat → Nat) (G : GG) (n : Nat) (hn : G 210 1 = nI n) (hn4 : n ≤ 4) (hC : Cls G G) (r : Nat → Int32) (hr : REq r (G 211)) (d q : Int32) : MI l J z ad yX7_second cX7_second 3 .int 5 [.ref (ad 0), .int d, .int q] G (fun ans uG => PubP G (scA r d q) (actG G n (scA r d q) (glu (scR r d q) (cpS (G 211) 0 6))) ans uG) := by
  refine MI.go (by decide) (Nat.le_of_ble_eq_true rfl) ?_
  intro pr e s m args below meth c ls Q X h hl hret
  have hx := X.1
  have hb := X.2.1
  have hown := X.2.2.2.1
  have hts := X.2.2.2.2
  have hl : lv_has ls 3 [(0, .ref (ad 0)), (1, .int d), (2, .int q)] := hl
  refine lv_aload_n hx hb dX7_second_0 rfl (lv_at hl 0 rfl) ?_
  refine fg_X7_16 X h dX7_second_1 ?_
  refine lv_aload_n hx hb dX7_second_4 rfl (lv_at hl 0 rfl) ?_
  refine fg_X7_12 X h dX7_second_5 ?_
  refine rg_cvv (As := [.ref (ad 1)]) (rest := []) X hl.1 h (c_X5_copyFrom l J z ad G 26 1 isB_26 isB_1 (by omega)) mw_267 mw_268 mw_269 mw_11 mw_270 pdX5_copyFrom (isB_26.lt (c := 0) (by decide)) (so_0 isB_26 J ad _) rfl rfl ⟨Nat.le_of_ble_eq_true rfl, Nat.le_of_ble_eq_true rfl⟩ ⟨Nat.le_of_ble_eq_true rfl, Nat.le_of_ble_eq_true rfl⟩ rfl (Nat.le_of_ble_eq_true rfl) dX7_second_8 (fun G1 H locs q1 h => ?_)
  refine lv_aload_n hx hb dX7_second_11 rfl (lv_at hl 0 rfl) ?_
  refine lv_aload_n hx hb dX7_second_12 rfl (lv_at hl 0 rfl) ?_
  refine fg_X7_12 X h dX7_second_13 ?_
  refine lv_iload_n hx hb dX7_second_16 rfl (lv_at hl 1 rfl) ?_
  refine lv_iload_n hx hb dX7_second_17 rfl (lv_at hl 2 rfl) ?_
  have hR1 : Rep G1 1 r := Rep_req hr.sy (Rep_frame (fun k a b => q1.1 k (by omega)) hC.1)
  refine rg_civ (As := [.int d, .int q]) (rest := [.ref (ad 0)]) X hl.1 h (c_X5_addSeconder l J z ad G1 1 isB_1 r hR1 d q) mw_432 mw_433 mw_434 mw_11 mw_435 pdX5_addSeconder (isB_1.lt (c := 0) (by decide)) (so_0 isB_1 J ad _) rfl rfl ⟨Nat.le_of_ble_eq_true rfl, Nat.le_of_ble_eq_true rfl⟩ ⟨Nat.le_of_ble_eq_true rfl, Nat.le_of_ble_eq_true rfl⟩ rfl (Nat.le_of_ble_eq_true rfl) dX7_second_18 (fun r2 G2 H locs q2 h => ?_)
  obtain ⟨ra, hf2, hR2⟩ := q2
  have hA := Cls_act hC q1 hf2 (Rep_req (glu_req _ (cpS (G 211) 0 6)) hR2) (glu_hi _ _)
  refine lv_as (y := scA r d q) ra ?_
  refine rg_civ (As := [.int (scA r d q)]) (rest := []) X hl.1 h (c_X7_recorded l J z ad G2 G (glu (scR r d q) (cpS (G 211) 0 6)) n hn hn4 hA.1 hA.2 (scA r d q)) mw_357 mw_358 mw_359 mw_2 mw_360 pdX7_recorded (by decide) (xo_0 J ad _) rfl rfl ⟨Nat.le_of_ble_eq_true rfl, Nat.le_of_ble_eq_true rfl⟩ ⟨Nat.le_of_ble_eq_true rfl, Nat.le_of_ble_eq_true rfl⟩ rfl (Nat.le_of_ble_eq_true rfl) dX7_second_21 (fun r3 G3 H locs q3 h => ?_)
  exact hret r3 G3 _ _ 24 _ (⟨q3.1, fun k hk => (q3.2.1 k (by omega)).trans ((hf2 k (by omega)).trans (q1.1 k (by omega))), q3.2.2⟩) h dX7_second_24
set_option maxHeartbeats 4000000 in
set_option maxRecDepth 100000 in
theorem k_X7_pass (l : Launch) (J : JJ) (z : ZZ) (ad : Nat → Nat) (G : GG) (n : Nat) (hn : G 210 1 = nI n) (hn4 : n ≤ 4) (hC : Cls G G) (r : Nat → Int32) (hr : REq r (G 211)) (t : Int32) : MI l J z ad yX7_pass cX7_pass 2 .int 5 [.ref (ad 0), .int t] G (fun ans uG => PubP G (edA r t) (actG G n (edA r t) (glu (edR r t) (cpS (G 211) 0 6))) ans uG) := by
  refine MI.go (by decide) (Nat.le_of_ble_eq_true rfl) ?_
  intro pr e s m args below meth c ls Q X h hl hret
  have hx := X.1
  have hb := X.2.1
  have hown := X.2.2.2.1
  have hts := X.2.2.2.2
  have hl : lv_has ls 2 [(0, .ref (ad 0)), (1, .int t)] := hl
  refine lv_aload_n hx hb dX7_pass_0 rfl (lv_at hl 0 rfl) ?_
  refine fg_X7_16 X h dX7_pass_1 ?_
  refine lv_aload_n hx hb dX7_pass_4 rfl (lv_at hl 0 rfl) ?_
  refine fg_X7_12 X h dX7_pass_5 ?_
  refine rg_cvv (As := [.ref (ad 1)]) (rest := []) X hl.1 h (c_X5_copyFrom l J z ad G 26 1 isB_26 isB_1 (by omega)) mw_267 mw_268 mw_269 mw_11 mw_270 pdX5_copyFrom (isB_26.lt (c := 0) (by decide)) (so_0 isB_26 J ad _) rfl rfl ⟨Nat.le_of_ble_eq_true rfl, Nat.le_of_ble_eq_true rfl⟩ ⟨Nat.le_of_ble_eq_true rfl, Nat.le_of_ble_eq_true rfl⟩ rfl (Nat.le_of_ble_eq_true rfl) dX7_pass_8 (fun G1 H locs q1 h => ?_)
  refine lv_aload_n hx hb dX7_pass_11 rfl (lv_at hl 0 rfl) ?_
  refine lv_aload_n hx hb dX7_pass_12 rfl (lv_at hl 0 rfl) ?_
  refine fg_X7_12 X h dX7_pass_13 ?_
  refine lv_iload_n hx hb dX7_pass_16 rfl (lv_at hl 1 rfl) ?_
  have hR1 : Rep G1 1 r := Rep_req hr.sy (Rep_frame (fun k a b => q1.1 k (by omega)) hC.1)
  refine rg_civ (As := [.int t]) (rest := [.ref (ad 0)]) X hl.1 h (c_X5_endDays l J z ad G1 1 isB_1 r hR1 t) mw_335 mw_336 mw_337 mw_11 mw_338 pdX5_endDays (isB_1.lt (c := 0) (by decide)) (so_0 isB_1 J ad _) rfl rfl ⟨Nat.le_of_ble_eq_true rfl, Nat.le_of_ble_eq_true rfl⟩ ⟨Nat.le_of_ble_eq_true rfl, Nat.le_of_ble_eq_true rfl⟩ rfl (Nat.le_of_ble_eq_true rfl) dX7_pass_17 (fun r2 G2 H locs q2 h => ?_)
  obtain ⟨ra, hf2, hR2⟩ := q2
  have hA := Cls_act hC q1 hf2 (Rep_req (glu_req _ (cpS (G 211) 0 6)) hR2) (glu_hi _ _)
  refine lv_as (y := edA r t) ra ?_
  refine rg_civ (As := [.int (edA r t)]) (rest := []) X hl.1 h (c_X7_recorded l J z ad G2 G (glu (edR r t) (cpS (G 211) 0 6)) n hn hn4 hA.1 hA.2 (edA r t)) mw_357 mw_358 mw_359 mw_2 mw_360 pdX7_recorded (by decide) (xo_0 J ad _) rfl rfl ⟨Nat.le_of_ble_eq_true rfl, Nat.le_of_ble_eq_true rfl⟩ ⟨Nat.le_of_ble_eq_true rfl, Nat.le_of_ble_eq_true rfl⟩ rfl (Nat.le_of_ble_eq_true rfl) dX7_pass_20 (fun r3 G3 H locs q3 h => ?_)
  exact hret r3 G3 _ _ 23 _ (⟨q3.1, fun k hk => (q3.2.1 k (by omega)).trans ((hf2 k (by omega)).trans (q1.1 k (by omega))), q3.2.2⟩) h dX7_pass_23
set_option maxHeartbeats 4000000 in
set_option maxRecDepth 100000 in
theorem k_X7_set (l : Launch) (J : JJ) (z : ZZ) (ad : Nat → Nat) (G : GG) (n : Nat) (hn : G 210 1 = nI n) (hn4 : n ≤ 4) (hC : Cls G G) (r : Nat → Int32) (hr : REq r (G 211)) (x v : Int32) : MI l J z ad yX7_set cX7_set 3 .int 5 [.ref (ad 0), .int x, .int v] G (fun ans uG => PubP G (stA r x v) (actG G n (stA r x v) (glu (stR r x v) (cpS (G 211) 0 6))) ans uG) := by
  refine MI.go (by decide) (Nat.le_of_ble_eq_true rfl) ?_
  intro pr e s m args below meth c ls Q X h hl hret
  have hx := X.1
  have hb := X.2.1
  have hown := X.2.2.2.1
  have hts := X.2.2.2.2
  have hl : lv_has ls 3 [(0, .ref (ad 0)), (1, .int x), (2, .int v)] := hl
  refine lv_aload_n hx hb dX7_set_0 rfl (lv_at hl 0 rfl) ?_
  refine fg_X7_16 X h dX7_set_1 ?_
  refine lv_aload_n hx hb dX7_set_4 rfl (lv_at hl 0 rfl) ?_
  refine fg_X7_12 X h dX7_set_5 ?_
  refine rg_cvv (As := [.ref (ad 1)]) (rest := []) X hl.1 h (c_X5_copyFrom l J z ad G 26 1 isB_26 isB_1 (by omega)) mw_267 mw_268 mw_269 mw_11 mw_270 pdX5_copyFrom (isB_26.lt (c := 0) (by decide)) (so_0 isB_26 J ad _) rfl rfl ⟨Nat.le_of_ble_eq_true rfl, Nat.le_of_ble_eq_true rfl⟩ ⟨Nat.le_of_ble_eq_true rfl, Nat.le_of_ble_eq_true rfl⟩ rfl (Nat.le_of_ble_eq_true rfl) dX7_set_8 (fun G1 H locs q1 h => ?_)
  refine lv_aload_n hx hb dX7_set_11 rfl (lv_at hl 0 rfl) ?_
  refine lv_aload_n hx hb dX7_set_12 rfl (lv_at hl 0 rfl) ?_
  refine fg_X7_12 X h dX7_set_13 ?_
  refine lv_iload_n hx hb dX7_set_16 rfl (lv_at hl 1 rfl) ?_
  refine lv_iload_n hx hb dX7_set_17 rfl (lv_at hl 2 rfl) ?_
  have hR1 : Rep G1 1 r := Rep_req hr.sy (Rep_frame (fun k a b => q1.1 k (by omega)) hC.1)
  refine rg_civ (As := [.int x, .int v]) (rest := [.ref (ad 0)]) X hl.1 h (c_X5_changeSetting l J z ad G1 1 isB_1 r hR1 x v) mw_442 mw_443 mw_444 mw_11 mw_445 pdX5_changeSetting (isB_1.lt (c := 0) (by decide)) (so_0 isB_1 J ad _) rfl rfl ⟨Nat.le_of_ble_eq_true rfl, Nat.le_of_ble_eq_true rfl⟩ ⟨Nat.le_of_ble_eq_true rfl, Nat.le_of_ble_eq_true rfl⟩ rfl (Nat.le_of_ble_eq_true rfl) dX7_set_18 (fun r2 G2 H locs q2 h => ?_)
  obtain ⟨ra, hf2, hR2⟩ := q2
  have hA := Cls_act hC q1 hf2 (Rep_req (glu_req _ (cpS (G 211) 0 6)) hR2) (glu_hi _ _)
  refine lv_as (y := stA r x v) ra ?_
  refine rg_civ (As := [.int (stA r x v)]) (rest := []) X hl.1 h (c_X7_recorded l J z ad G2 G (glu (stR r x v) (cpS (G 211) 0 6)) n hn hn4 hA.1 hA.2 (stA r x v)) mw_357 mw_358 mw_359 mw_2 mw_360 pdX7_recorded (by decide) (xo_0 J ad _) rfl rfl ⟨Nat.le_of_ble_eq_true rfl, Nat.le_of_ble_eq_true rfl⟩ ⟨Nat.le_of_ble_eq_true rfl, Nat.le_of_ble_eq_true rfl⟩ rfl (Nat.le_of_ble_eq_true rfl) dX7_set_21 (fun r3 G3 H locs q3 h => ?_)
  exact hret r3 G3 _ _ 24 _ (⟨q3.1, fun k hk => (q3.2.1 k (by omega)).trans ((hf2 k (by omega)).trans (q1.1 k (by omega))), q3.2.2⟩) h dX7_set_24
