/-! THE LAW'S SMALL METHODS: low, weight, act -/
def lo (v : Int32) (m : Nat) : Nat := tn (v &&& nI 2147483647) % m
theorem lo_lt {v : Int32} {m : Nat} (h : 0 < m) : lo v m < m := Nat.mod_lt _ h
theorem and_nn (v : Int32) : v &&& nI 2147483647 = nI (tn (v &&& nI 2147483647)) ∧ tn (v &&& nI 2147483647) < 2 ^ 31 := by
  have hb : bt (v &&& nI 2147483647) 31 = false := by
    rw [b_and, show bt (nI 2147483647) 31 = false by decide +kernel, Bool.and_false]
  generalize v &&& nI 2147483647 = x at *
  have hm : x.toBitVec.msb = false := by rw [BitVec.msb_eq_getLsbD_last]; exact hb
  have h1 := BitVec.msb_eq_false_iff_two_mul_lt.mp hm
  have h2 : x.toInt = (x.toBitVec.toNat : Int) := by
    show x.toBitVec.toInt = _
    rw [BitVec.toInt_eq_msb_cond, hm]
    rfl
  have h3 : x.toBitVec.toNat < 2 ^ 31 := by omega
  have e := i32_of h2 h3
  have e2 : tn x = x.toBitVec.toNat := (congrArg tn e).trans (tn_nI h3)
  rw [e2]
  exact ⟨e, h3⟩
def wF (r : Nat → Int32) (x : Int32) : Nat → Int32 → Int32 := fun d a => a + (if x = nI 6 ∨ r (6 * d + 12) = x then r (6 * d + 13) else nI 0)
theorem wF_t {r : Nat → Int32} {x : Int32} {d : Nat} {a : Int32} (h : x = nI 6 ∨ r (6 * d + 12) = x) : a + r (6 * d + 13) = wF r x d a := by unfold wF; rw [if_pos h]
theorem wF_f {r : Nat → Int32} {x : Int32} {d : Nat} {a : Int32} (h : ¬ (x = nI 6 ∨ r (6 * d + 12) = x)) : a + nI 0 = wF r x d a := by unfold wF; rw [if_neg h]
def acG (y : Int32) : Nat := if lo (y >>> (nI 9 &&& 31)) 2 = 0 then lo y 20 else lo y 3
def acN (y : Int32) : Nat := if lo (y >>> (nI 8 &&& 31)) 5 = 0 then lo y 30 else lo y 5
noncomputable def acX (r : Nat → Int32) (x y : Int32) : Int32 := if 2 < lo (y >>> (nI 6 &&& 31)) 5 then nI 6 else drA r (nI (lo (x >>> (nI 4 &&& 31)) 9)) (nI 0)
/-- what the law's act does: the answer, and the row behind it -/
noncomputable def acF (r : Nat → Int32) (x y : Int32) : Int32 × (Nat → Int32) :=
  if lo x 15 = 0 then (cmA r (nI (lo (x >>> (nI 4 &&& 31)) 4)) (nI (lo y 9 + 1)), cmR r (nI (lo (x >>> (nI 4 &&& 31)) 4)) (nI (lo y 9 + 1)))
  else if lo x 15 = 1 then (mvA r (nI (lo (x >>> (nI 4 &&& 31)) 9)) (nI (lo y 4)), mvR r (nI (lo (x >>> (nI 4 &&& 31)) 9)) (nI (lo y 4)))
  else if lo x 15 < 6 then (ptA r (nI (lo (x >>> (nI 4 &&& 31)) 9)) (acX r x y) (nI (acG y)) (nI (lo (y >>> (nI 4 &&& 31)) 3)), ptR r (nI (lo (x >>> (nI 4 &&& 31)) 9)) (acX r x y) (nI (acG y)) (nI (lo (y >>> (nI 4 &&& 31)) 3)))
  else if lo x 15 < 10 then (scA r (nI (lo (x >>> (nI 4 &&& 31)) 9)) (nI (lo y 6)), scR r (nI (lo (x >>> (nI 4 &&& 31)) 9)) (nI (lo y 6)))
  else if lo x 15 = 10 then (if lo y 2 = 0 then (stA r (nI 0) (nI (lo (y >>> (nI 1 &&& 31)) 12)), stR r (nI 0) (nI (lo (y >>> (nI 1 &&& 31)) 12))) else (stA r (nI 1) (nI (lo (y >>> (nI 1 &&& 31)) 8 + 1)), stR r (nI 1) (nI (lo (y >>> (nI 1 &&& 31)) 8 + 1))))
  else (edA r (nI (acN y + 1)), edR r (nI (acN y + 1)))
theorem acN_lt (y : Int32) : acN y < 30 := by
  unfold acN
  split
  · exact lo_lt (by decide)
  · exact Nat.lt_trans (lo_lt (by decide)) (by decide)
theorem acF_Iv {B : Nat} {r : Nat → Int32} (h : Iv B r) (hB : B + 30 ≤ 99999) (x y : Int32) : Iv (B + 30) (acF r x y).2 := by
  have hN := acN_lt y
  have g : ∀ {q}, Iv B q → Iv (B + 30) q := fun k => Iv_le k (Nat.le_add_right _ _)
  unfold acF
  split
  · exact g (cmR_Iv h _ _)
  split
  · exact g (mvR_Iv h _ _)
  split
  · exact g (ptR_Iv h _ _ _ _)
  split
  · exact g (scR_Iv h _ _)
  split
  · split
    · exact g (stR_Iv h _ _)
    · exact g (stR_Iv h _ _)
  · exact Iv_le (edR_Iv h (by omega)) (by omega)
theorem acF_neg {B : Nat} {r : Nat → Int32} (h : Iv B r) (hw : ∀ d, d < kn r → ∃ w, 1 ≤ w ∧ w ≤ 9 ∧ r (6 * d + 13) = nI w) {x y : Int32} (hA : (acF r x y).1 < 0) : (acF r x y).2 = r := by
  have hW := h.1.1
  unfold acF at hA ⊢
  by_cases c0 : lo x 15 = 0
  · rw [if_pos c0] at hA ⊢; exact cmA_neg hW hA
  rw [if_neg c0] at hA ⊢
  by_cases c1 : lo x 15 = 1
  · rw [if_pos c1] at hA ⊢; exact mvA_neg hW hA
  rw [if_neg c1] at hA ⊢
  by_cases c2 : lo x 15 < 6
  · rw [if_pos c2] at hA ⊢; exact ptA_neg hW hA
  rw [if_neg c2] at hA ⊢
  by_cases c3 : lo x 15 < 10
  · rw [if_pos c3] at hA ⊢; exact scA_neg h.1 hw hA
  rw [if_neg c3] at hA ⊢
  by_cases c4 : lo x 15 = 10
  · rw [if_pos c4] at hA ⊢
    by_cases c5 : lo y 2 = 0
    · rw [if_pos c5] at hA ⊢; exact stA_neg h.2.2.2.1 hA
    · rw [if_neg c5] at hA ⊢; exact stA_neg h.2.2.2.1 hA
  · rw [if_neg c4] at hA ⊢; exact edA_neg hW hA
theorem Hv.w {G : GG} {r : Nat → Int32} {n : Nat} (h : Hv G r n) : ∀ d, d < kn r → ∃ w, 1 ≤ w ∧ w ≤ 9 ∧ r (6 * d + 13) = nI w := fun d hd => (h.rep.2.1.2.1 d hd).2.2.2.2.2
set_option maxHeartbeats 4000000 in
set_option maxRecDepth 100000 in
theorem c_L_low (l : Launch) (J : JJ) (z : ZZ) (ad : Nat → Nat) (G : GG) (v : Int32) (mm : Nat) (hm : 0 < mm) (hm2 : mm < 1000) : MI l J z ad yL_low cL_low 2 .int 0 [.int v, .int (nI mm)] G (fun ans uG => ans = (nI (lo v mm)) ∧ uG = (G)) := by
  refine MI.go (by decide) (Nat.le_of_ble_eq_true rfl) ?_
  intro pr e s m args below meth c ls Q X h hl hret
  have hx := X.1
  have hb := X.2.1
  have hown := X.2.2.2.1
  have hts := X.2.2.2.2
  have hl : lv_has ls 2 [(0, .int v), (1, .int (nI mm))] := hl
  obtain ⟨e0, e1⟩ := and_nn v
  refine lv_iload_n hx hb dL_low_0 rfl (lv_at hl 0 rfl) ?_
  refine lv_ldc (v := nI 2147483647) hx hb hown (hts _ mw_384) dL_low_1 ?_
  refine lv_iand hx hb dL_low_3 ?_
  refine lv_iload_n hx hb dL_low_4 rfl (lv_at hl 1 rfl) ?_
  refine lv_irem hx hb dL_low_5 (fun e => by have := (nI_eq (b := 0) (by omega) (by omega)).mp e; omega) ?_
  refine lv_as (y := nI (lo v mm)) (by rw [e0]; exact pk_rem e1 hm (by omega)) ?_
  exact hret (nI (lo v mm)) G _ _ 6 _ (⟨rfl, rfl⟩) h dL_low_6
set_option maxHeartbeats 4000000 in
set_option maxRecDepth 100000 in
theorem c_L_weight (l : Launch) (J : JJ) (z : ZZ) (ad : Nat → Nat) (G : GG) (hz : z.2 ≤ 1) (r : Nat → Int32) (n B : Nat) (hv : Hv G r n) (hI : Iv B r) (c0 : Nat) (hc0 : c0 ≤ 6) : MI l J z ad yL_weight cL_weight 4 .int 5 [.ref (ad 0), .int (nI c0)] G (fun ans uG => ans = (wgt r (nI c0)) ∧ uG = (G)) := by
  refine MI.go (by decide) (Nat.le_of_ble_eq_true rfl) ?_
  intro pr e s m args below meth c ls Q X h hl hret
  have hx := X.1
  have hb := X.2.1
  have hown := X.2.2.2.1
  have hts := X.2.2.2.2
  have hl : lv_has ls 4 [(0, .ref (ad 0)), (1, .int (nI c0))] := hl
  have hR := hv.rep
  have h14 := hv.at
  have hW := hI.1.1
  obtain ⟨⟨w1, w2⟩, ⟨w3, w4⟩, ⟨w5, w6⟩, w7, w8⟩ := hI.1.1
  have hnn := hv.2.2.1
  refine lv_iconst (v := nI 0) hx hb dL_weight_0 (by decide) ?_
  refine lv_istore_n (lv' := [(2, .int (nI 0)), (0, .ref (ad 0)), (1, .int (nI c0))]) hx hb dL_weight_1 rfl hl (by decide) rfl (fun ls hl => ?_)
  refine lv_iconst (v := nI 0) hx hb dL_weight_2 (by decide) ?_
  refine lv_istore_n (lv' := [(3, .int (nI 0)), (2, .int (nI 0)), (0, .ref (ad 0)), (1, .int (nI c0))]) hx hb dL_weight_3 rfl hl (by decide) rfl (fun ls hl => ?_)
  have LP_4 : ∀ (k_4 i_4 : Nat), (kn r) + 1 ≤ i_4 + k_4 → i_4 ≤ (kn r) → ∀ (H : Heap) (locs : List Loc) (ls : Array Slot), HG J z ad s G H locs → lv_has ls 4 [(0, .ref (ad 0)), (1, .int (nI c0)), (2, .int (itr (wF r (nI c0)) (nI 0) i_4)), (3, .int (nI i_4))] → W pr l e (rmD 5 0 0) s m args below meth c H locs 0 0 Q (F0 m 4 ls []) := by
    intro k_4
    induction k_4 with
    | zero =>
      intro i_4 g1 g2
      exact absurd g1 (by omega)
    | succ k_4 ih_4 =>
      intro i_4 g1_4 g2_4  H locs ls h hl
      refine lv_iload_n hx hb dL_weight_4 rfl (lv_at hl 3 rfl) ?_
      refine lv_aload_n hx hb dL_weight_5 rfl (lv_at hl 0 rfl) ?_
      refine lv_iconst (v := nI 3) hx hb dL_weight_6 (by decide) ?_
      refine rg_civd (As := [.int (nI 3)]) (rest := [.int (nI i_4)]) X hl.1 h (c_X7_count l J z ad G r hR (nI n) (G 203 1) h14 rfl (nI 3)) mw_103 mw_104 mw_105 mw_2 mw_106 pdX7_count (by decide) (xo_0 J ad _) rfl rfl ⟨Nat.le_of_ble_eq_true rfl, Nat.le_of_ble_eq_true rfl⟩ ⟨Nat.le_of_ble_eq_true rfl, Nat.le_of_ble_eq_true rfl⟩ rfl (Nat.le_of_ble_eq_true rfl) dL_weight_7 (fun H locs h => ?_)
      refine lv_as (y := nI ((kn r))) (kn_ct hI.1) ?_
      refine lv_icmp_ge (tgt := 48) hx hb dL_weight_10 (by decide) (fun c_10 => ?_) (fun c_10 => ?_)
      · rw [nI_leI (by omega) (by omega)] at c_10
        refine lv_iload_n hx hb dL_weight_48 rfl (lv_at hl 2 rfl) ?_
        exact hret (itr (wF r (nI c0)) (nI 0) i_4) G _ _ 49 _ (⟨by rw [show i_4 = kn r by omega]; rfl, rfl⟩) h dL_weight_49
      · rw [nI_leI (by omega) (by omega)] at c_10
        refine lv_iload_n hx hb dL_weight_13 rfl (lv_at hl 2 rfl) ?_
        refine lv_iload_n hx hb dL_weight_14 rfl (lv_at hl 1 rfl) ?_
        refine lv_bipush (v := nI 6) hx hb dL_weight_15 (by decide) ?_
        refine lv_icmp_eq (tgt := 30) hx hb dL_weight_17 (by decide) (fun c_17 => ?_) (fun c_17 => ?_)
        · rw [nI_eq (by omega) (by omega)] at c_17
          refine lv_aload_n hx hb dL_weight_30 rfl (lv_at hl 0 rfl) ?_
          refine lv_iload_n hx hb dL_weight_31 rfl (lv_at hl 3 rfl) ?_
          refine lv_iconst (v := nI 1) hx hb dL_weight_32 (by decide) ?_
          refine rg_civd (As := [.int (nI i_4), .int (nI 1)]) (rest := [.int (itr (wF r (nI c0)) (nI 0) i_4)]) X hl.1 h (c_X7_drone l J z ad G r hR (nI i_4) (nI 1)) mw_176 mw_177 mw_178 mw_2 mw_179 pdX7_drone (by decide) (xo_0 J ad _) rfl rfl ⟨Nat.le_of_ble_eq_true rfl, Nat.le_of_ble_eq_true rfl⟩ ⟨Nat.le_of_ble_eq_true rfl, Nat.le_of_ble_eq_true rfl⟩ rfl (Nat.le_of_ble_eq_true rfl) dL_weight_33 (fun H locs h => ?_)
          refine lv_as (y := r (6 * i_4 + 13)) ((dr_lo w2 (by omega) (by omega)).trans (congrArg r (by omega))) ?_
          refine lv_goto (tgt := 40) hx hb dL_weight_36 (by decide) ?_
          refine lv_iadd hx hb dL_weight_40 ?_
          refine lv_as (y := itr (wF r (nI c0)) (nI 0) (i_4 + 1)) (wF_t (Or.inl (congrArg nI c_17))) ?_
          refine lv_istore_n (lv' := [(2, .int (itr (wF r (nI c0)) (nI 0) (i_4 + 1))), (0, .ref (ad 0)), (1, .int (nI c0)), (3, .int (nI i_4))]) hx hb dL_weight_41 rfl hl (by decide) rfl (fun ls hl => ?_)
          refine lv_iinc (v := nI (i_4 + 1)) (lv' := [(3, .int (nI (i_4 + 1))), (2, .int (itr (wF r (nI c0)) (nI 0) (i_4 + 1))), (0, .ref (ad 0)), (1, .int (nI c0))]) hx hb dL_weight_42 hl (k := 3) rfl (nI_addc (b := 1) (by omega)) (by decide) rfl (fun ls hl => ?_)
          refine lv_goto (tgt := 4) hx hb dL_weight_45 (by decide) ?_
          exact ih_4 (i_4 + 1) (by omega) (by omega) _ _ _ h (lv_sub hl [2, 3, 1, 0] rfl)
        · rw [nI_eq (by omega) (by omega)] at c_17
          refine lv_aload_n hx hb dL_weight_20 rfl (lv_at hl 0 rfl) ?_
          refine lv_iload_n hx hb dL_weight_21 rfl (lv_at hl 3 rfl) ?_
          refine lv_iconst (v := nI 0) hx hb dL_weight_22 (by decide) ?_
          refine rg_civd (As := [.int (nI i_4), .int (nI 0)]) (rest := [.int (itr (wF r (nI c0)) (nI 0) i_4)]) X hl.1 h (c_X7_drone l J z ad G r hR (nI i_4) (nI 0)) mw_176 mw_177 mw_178 mw_2 mw_179 pdX7_drone (by decide) (xo_0 J ad _) rfl rfl ⟨Nat.le_of_ble_eq_true rfl, Nat.le_of_ble_eq_true rfl⟩ ⟨Nat.le_of_ble_eq_true rfl, Nat.le_of_ble_eq_true rfl⟩ rfl (Nat.le_of_ble_eq_true rfl) dL_weight_23 (fun H locs h => ?_)
          refine lv_as (y := r (6 * i_4 + 12)) ((dr_lo w2 (by omega) (by omega)).trans (congrArg r (by omega))) ?_
          refine lv_iload_n hx hb dL_weight_26 rfl (lv_at hl 1 rfl) ?_
          refine lv_icmp_ne (tgt := 39) hx hb dL_weight_27 (by decide) (fun c_27 => ?_) (fun c_27 => ?_)
          · refine lv_iconst (v := nI 0) hx hb dL_weight_39 (by decide) ?_
            refine lv_iadd hx hb dL_weight_40 ?_
            refine lv_as (y := itr (wF r (nI c0)) (nI 0) (i_4 + 1)) (wF_f (fun q => q.elim (fun q => c_17 ((nI_eq (by omega) (by omega)).mp q)) c_27)) ?_
            refine lv_istore_n (lv' := [(2, .int (itr (wF r (nI c0)) (nI 0) (i_4 + 1))), (0, .ref (ad 0)), (1, .int (nI c0)), (3, .int (nI i_4))]) hx hb dL_weight_41 rfl hl (by decide) rfl (fun ls hl => ?_)
            refine lv_iinc (v := nI (i_4 + 1)) (lv' := [(3, .int (nI (i_4 + 1))), (2, .int (itr (wF r (nI c0)) (nI 0) (i_4 + 1))), (0, .ref (ad 0)), (1, .int (nI c0))]) hx hb dL_weight_42 hl (k := 3) rfl (nI_addc (b := 1) (by omega)) (by decide) rfl (fun ls hl => ?_)
            refine lv_goto (tgt := 4) hx hb dL_weight_45 (by decide) ?_
            exact ih_4 (i_4 + 1) (by omega) (by omega) _ _ _ h (lv_sub hl [2, 3, 1, 0] rfl)
          · refine lv_aload_n hx hb dL_weight_30 rfl (lv_at hl 0 rfl) ?_
            refine lv_iload_n hx hb dL_weight_31 rfl (lv_at hl 3 rfl) ?_
            refine lv_iconst (v := nI 1) hx hb dL_weight_32 (by decide) ?_
            refine rg_civd (As := [.int (nI i_4), .int (nI 1)]) (rest := [.int (itr (wF r (nI c0)) (nI 0) i_4)]) X hl.1 h (c_X7_drone l J z ad G r hR (nI i_4) (nI 1)) mw_176 mw_177 mw_178 mw_2 mw_179 pdX7_drone (by decide) (xo_0 J ad _) rfl rfl ⟨Nat.le_of_ble_eq_true rfl, Nat.le_of_ble_eq_true rfl⟩ ⟨Nat.le_of_ble_eq_true rfl, Nat.le_of_ble_eq_true rfl⟩ rfl (Nat.le_of_ble_eq_true rfl) dL_weight_33 (fun H locs h => ?_)
            refine lv_as (y := r (6 * i_4 + 13)) ((dr_lo w2 (by omega) (by omega)).trans (congrArg r (by omega))) ?_
            refine lv_goto (tgt := 40) hx hb dL_weight_36 (by decide) ?_
            refine lv_iadd hx hb dL_weight_40 ?_
            refine lv_as (y := itr (wF r (nI c0)) (nI 0) (i_4 + 1)) (wF_t (Or.inr c_27)) ?_
            refine lv_istore_n (lv' := [(2, .int (itr (wF r (nI c0)) (nI 0) (i_4 + 1))), (0, .ref (ad 0)), (1, .int (nI c0)), (3, .int (nI i_4))]) hx hb dL_weight_41 rfl hl (by decide) rfl (fun ls hl => ?_)
            refine lv_iinc (v := nI (i_4 + 1)) (lv' := [(3, .int (nI (i_4 + 1))), (2, .int (itr (wF r (nI c0)) (nI 0) (i_4 + 1))), (0, .ref (ad 0)), (1, .int (nI c0))]) hx hb dL_weight_42 hl (k := 3) rfl (nI_addc (b := 1) (by omega)) (by decide) rfl (fun ls hl => ?_)
            refine lv_goto (tgt := 4) hx hb dL_weight_45 (by decide) ?_
            exact ih_4 (i_4 + 1) (by omega) (by omega) _ _ _ h (lv_sub hl [2, 3, 1, 0] rfl)
  exact LP_4 ((kn r) + 1) 0 (by omega) (by omega) _ _ _ h (lv_sub hl [2, 3, 1, 0] rfl)
set_option maxHeartbeats 4000000 in
set_option maxRecDepth 100000 in
theorem c_L_act (l : Launch) (J : JJ) (z : ZZ) (ad : Nat → Nat) (G : GG) (hz : z.2 ≤ 1) (r : Nat → Int32) (n B : Nat) (hv : Hv G r n) (hI : Iv B r) (x y : Int32) : MI l J z ad yL_act cL_act 5 .int 6 [.ref (ad 0), .int x, .int y] G (fun ans uG => ans = (acF r x y).1 ∧ Hv uG (acF r x y).2 (nx n ans) ∧ (0 ≤ ans → Tp uG r (nx n ans)) ∧ ∀ j, 1000 ≤ j → uG 210 j = G 210 j) := by
  refine MI.go (by decide) (Nat.le_of_ble_eq_true rfl) ?_
  intro pr e s m args below meth c ls Q X h hl hret
  have hx := X.1
  have hb := X.2.1
  have hown := X.2.2.2.1
  have hts := X.2.2.2.2
  have hl : lv_has ls 5 [(0, .ref (ad 0)), (1, .int x), (2, .int y)] := hl
  have hR := hv.rep
  have h14 := hv.at
  have hW := hI.1.1
  obtain ⟨⟨w1, w2⟩, ⟨w3, w4⟩, ⟨w5, w6⟩, w7, w8⟩ := hI.1.1
  have hnn := hv.2.2.1
  refine lv_iload_n hx hb dL_act_0 rfl (lv_at hl 1 rfl) ?_
  refine lv_iconst (v := nI 4) hx hb dL_act_1 (by decide) ?_
  refine lv_ishr hx hb dL_act_2 ?_
  refine lv_bipush (v := nI 9) hx hb dL_act_3 (by decide) ?_
  refine rg_cisd (As := [.int (x >>> ((nI 4) &&& 31)), .int (nI 9)]) (rest := []) X hl.1 h (c_L_low l J z ad G (x >>> ((nI 4) &&& 31)) 9 (by omega) (by omega)) mw_381 mw_382 mw_101 mw_383 pdL_low ⟨Nat.le_of_ble_eq_true rfl, Nat.le_of_ble_eq_true rfl⟩ ⟨Nat.le_of_ble_eq_true rfl, Nat.le_of_ble_eq_true rfl⟩ rfl (Nat.le_of_ble_eq_true rfl) dL_act_5 (fun H locs h => ?_)
  have hlo_5 := lo_lt (v := x >>> ((nI 4) &&& 31)) (m := 9) (by decide)
  refine lv_istore_n (lv' := [(3, .int (nI ((lo (x >>> ((nI 4) &&& 31)) 9)))), (0, .ref (ad 0)), (1, .int x), (2, .int y)]) hx hb dL_act_8 rfl hl (by decide) rfl (fun ls hl => ?_)
  refine lv_iload_n hx hb dL_act_9 rfl (lv_at hl 3 rfl) ?_
  refine lv_iload_n hx hb dL_act_10 rfl (lv_at hl 3 rfl) ?_
  refine lv_bipush (v := nI 9) hx hb dL_act_11 (by decide) ?_
  refine lv_ishr hx hb dL_act_13 ?_
  refine lv_iconst (v := nI 2) hx hb dL_act_14 (by decide) ?_
  refine rg_cisd (As := [.int (y >>> ((nI 9) &&& 31)), .int (nI 2)]) (rest := [.int y]) X hl.1 h (c_L_low l J z ad G (y >>> ((nI 9) &&& 31)) 2 (by omega) (by omega)) mw_381 mw_382 mw_101 mw_383 pdL_low ⟨Nat.le_of_ble_eq_true rfl, Nat.le_of_ble_eq_true rfl⟩ ⟨Nat.le_of_ble_eq_true rfl, Nat.le_of_ble_eq_true rfl⟩ rfl (Nat.le_of_ble_eq_true rfl) dL_act_15 (fun H locs h => ?_)
  have hlo_15 := lo_lt (v := y >>> ((nI 9) &&& 31)) (m := 2) (by decide)
  refine lv_if_ne (tgt := 26) hx hb dL_act_18 (by decide) (fun c_18 => ?_) (fun c_18 => ?_)
  · rw [nz_eq (by omega)] at c_18
    refine lv_iconst (v := nI 3) hx hb dL_act_26 (by decide) ?_
    refine rg_cisd (As := [.int y, .int (nI 3)]) (rest := []) X hl.1 h (c_L_low l J z ad G y 3 (by omega) (by omega)) mw_381 mw_382 mw_101 mw_383 pdL_low ⟨Nat.le_of_ble_eq_true rfl, Nat.le_of_ble_eq_true rfl⟩ ⟨Nat.le_of_ble_eq_true rfl, Nat.le_of_ble_eq_true rfl⟩ rfl (Nat.le_of_ble_eq_true rfl) dL_act_27 (fun H locs h => ?_)
    have hlo_27 := lo_lt (v := y) (m := 3) (by decide)
    have eG : lo y 3 = acG y := (if_neg c_18).symm
    refine lv_as (y := nI (acG y)) (congrArg nI eG) ?_
    refine lv_istore (lv' := [(4, .int (nI ((acG y)))), (3, .int (nI ((lo (x >>> ((nI 4) &&& 31)) 9)))), (0, .ref (ad 0)), (1, .int x), (2, .int y)]) hx hb dL_act_30 hl (by decide) rfl (fun ls hl => ?_)
    refine lv_iload_n hx hb dL_act_32 rfl (lv_at hl 3 rfl) ?_
    refine lv_bipush (v := nI 15) hx hb dL_act_33 (by decide) ?_
    refine rg_cisd (As := [.int x, .int (nI 15)]) (rest := []) X hl.1 h (c_L_low l J z ad G x 15 (by omega) (by omega)) mw_381 mw_382 mw_101 mw_383 pdL_low ⟨Nat.le_of_ble_eq_true rfl, Nat.le_of_ble_eq_true rfl⟩ ⟨Nat.le_of_ble_eq_true rfl, Nat.le_of_ble_eq_true rfl⟩ rfl (Nat.le_of_ble_eq_true rfl) dL_act_35 (fun H locs h => ?_)
    have hlo_35 := lo_lt (v := x) (m := 15) (by decide)
    have h15 := lo_lt (v := x) (m := 15) (by decide)
    rcases (show lo x 15 = 0 ∨ lo x 15 = 1 ∨ lo x 15 = 2 ∨ lo x 15 = 3 ∨ lo x 15 = 4 ∨ lo x 15 = 5 ∨ lo x 15 = 6 ∨ lo x 15 = 7 ∨ lo x 15 = 8 ∨ lo x 15 = 9 ∨ lo x 15 = 10 ∨ 11 ≤ lo x 15 by omega) with e38 | e38 | e38 | e38 | e38 | e38 | e38 | e38 | e38 | e38 | e38 | e38
    · refine lv_as (y := nI 0) (congrArg nI e38) ?_
      refine lv_tableIn (off := 58) (tgt := 96) hx hb dL_act_38 (by decide) (by decide) rfl (by decide) ?_
      refine lv_aload_n hx hb dL_act_96 rfl (lv_at hl 2 rfl) ?_
      refine lv_iload_n hx hb dL_act_97 rfl (lv_at hl 3 rfl) ?_
      refine lv_iconst (v := nI 4) hx hb dL_act_98 (by decide) ?_
      refine lv_ishr hx hb dL_act_99 ?_
      refine lv_iconst (v := nI 4) hx hb dL_act_100 (by decide) ?_
      refine rg_cisd (As := [.int (x >>> ((nI 4) &&& 31)), .int (nI 4)]) (rest := [.ref (ad 0)]) X hl.1 h (c_L_low l J z ad G (x >>> ((nI 4) &&& 31)) 4 (by omega) (by omega)) mw_381 mw_382 mw_101 mw_383 pdL_low ⟨Nat.le_of_ble_eq_true rfl, Nat.le_of_ble_eq_true rfl⟩ ⟨Nat.le_of_ble_eq_true rfl, Nat.le_of_ble_eq_true rfl⟩ rfl (Nat.le_of_ble_eq_true rfl) dL_act_101 (fun H locs h => ?_)
      have hlo_101 := lo_lt (v := x >>> ((nI 4) &&& 31)) (m := 4) (by decide)
      refine lv_iconst (v := nI 1) hx hb dL_act_104 (by decide) ?_
      refine lv_iload_n hx hb dL_act_105 rfl (lv_at hl 4 rfl) ?_
      refine lv_bipush (v := nI 9) hx hb dL_act_106 (by decide) ?_
      refine rg_cisd (As := [.int y, .int (nI 9)]) (rest := [.int (nI 1), .int (nI ((lo (x >>> ((nI 4) &&& 31)) 4))), .ref (ad 0)]) X hl.1 h (c_L_low l J z ad G y 9 (by omega) (by omega)) mw_381 mw_382 mw_101 mw_383 pdL_low ⟨Nat.le_of_ble_eq_true rfl, Nat.le_of_ble_eq_true rfl⟩ ⟨Nat.le_of_ble_eq_true rfl, Nat.le_of_ble_eq_true rfl⟩ rfl (Nat.le_of_ble_eq_true rfl) dL_act_108 (fun H locs h => ?_)
      have hlo_108 := lo_lt (v := y) (m := 9) (by decide)
      refine lv_iadd hx hb dL_act_111 ?_
      refine lv_as (y := nI ((lo y 9) + 1)) (nI_addc (by omega)) ?_
      refine rg_civ (As := [.int (nI ((lo (x >>> ((nI 4) &&& 31)) 4))), .int (nI ((lo y 9) + 1))]) (rest := []) X hl.1 h (k_X7_come l J z ad G n hv.2.1 hv.2.2.1 hv.1 r hv.2.2.2.2 (nI ((lo (x >>> ((nI 4) &&& 31)) 4))) (nI ((lo y 9) + 1))) mw_385 mw_386 mw_387 mw_2 mw_388 pdX7_come (by decide) (xo_0 J ad _) rfl rfl ⟨Nat.le_of_ble_eq_true rfl, Nat.le_of_ble_eq_true rfl⟩ ⟨Nat.le_of_ble_eq_true rfl, Nat.le_of_ble_eq_true rfl⟩ rfl (Nat.le_of_ble_eq_true rfl) dL_act_112 (fun r1 G1 H locs q1 h => ?_)
      obtain ⟨ea_112, G1_, hp_112, hv_112, ht_112, har_112⟩ := Hv_act hv ((cmR_hi hI.1.1 (nI ((lo (x >>> ((nI 4) &&& 31)) 4))) (nI ((lo y 9) + 1))).cn hv.2.2.2.1) q1
      have h := HG.ph h hz hp_112
      refine lv_as (y := cmA r (nI ((lo (x >>> ((nI 4) &&& 31)) 4))) (nI ((lo y 9) + 1))) ea_112 ?_
      have eF : acF r x y = (cmA r (nI ((lo (x >>> ((nI 4) &&& 31)) 4))) (nI ((lo y 9) + 1)), cmR r (nI ((lo (x >>> ((nI 4) &&& 31)) 4))) (nI ((lo y 9) + 1))) := by unfold acF; rw [if_pos e38]
      exact hret (cmA r (nI ((lo (x >>> ((nI 4) &&& 31)) 4))) (nI ((lo y 9) + 1))) G1_ _ _ 115 _ (⟨by rw [eF], by rw [eF]; exact hv_112, ht_112, har_112⟩) h dL_act_115
    · refine lv_as (y := nI 1) (congrArg nI e38) ?_
      refine lv_tableIn (off := 78) (tgt := 116) hx hb dL_act_38 (by decide) (by decide) rfl (by decide) ?_
      refine lv_aload_n hx hb dL_act_116 rfl (lv_at hl 2 rfl) ?_
      refine lv_iload_n hx hb dL_act_117 rfl (lv_at hl 1 rfl) ?_
      refine lv_iload_n hx hb dL_act_118 rfl (lv_at hl 4 rfl) ?_
      refine lv_iconst (v := nI 4) hx hb dL_act_119 (by decide) ?_
      refine rg_cisd (As := [.int y, .int (nI 4)]) (rest := [.int (nI ((lo (x >>> ((nI 4) &&& 31)) 9))), .ref (ad 0)]) X hl.1 h (c_L_low l J z ad G y 4 (by omega) (by omega)) mw_381 mw_382 mw_101 mw_383 pdL_low ⟨Nat.le_of_ble_eq_true rfl, Nat.le_of_ble_eq_true rfl⟩ ⟨Nat.le_of_ble_eq_true rfl, Nat.le_of_ble_eq_true rfl⟩ rfl (Nat.le_of_ble_eq_true rfl) dL_act_120 (fun H locs h => ?_)
      have hlo_120 := lo_lt (v := y) (m := 4) (by decide)
      refine rg_civ (As := [.int (nI ((lo (x >>> ((nI 4) &&& 31)) 9))), .int (nI ((lo y 4)))]) (rest := []) X hl.1 h (k_X7_move l J z ad G n hv.2.1 hv.2.2.1 hv.1 r hv.2.2.2.2 (nI ((lo (x >>> ((nI 4) &&& 31)) 9))) (nI ((lo y 4)))) mw_401 mw_402 mw_403 mw_2 mw_404 pdX7_move (by decide) (xo_0 J ad _) rfl rfl ⟨Nat.le_of_ble_eq_true rfl, Nat.le_of_ble_eq_true rfl⟩ ⟨Nat.le_of_ble_eq_true rfl, Nat.le_of_ble_eq_true rfl⟩ rfl (Nat.le_of_ble_eq_true rfl) dL_act_123 (fun r2 G2 H locs q2 h => ?_)
      obtain ⟨ea_123, G2_, hp_123, hv_123, ht_123, har_123⟩ := Hv_act hv ((mvR_hi hI.1.1 (nI ((lo (x >>> ((nI 4) &&& 31)) 9))) (nI ((lo y 4)))).cn hv.2.2.2.1) q2
      have h := HG.ph h hz hp_123
      refine lv_as (y := mvA r (nI ((lo (x >>> ((nI 4) &&& 31)) 9))) (nI ((lo y 4)))) ea_123 ?_
      have eF : acF r x y = (mvA r (nI ((lo (x >>> ((nI 4) &&& 31)) 9))) (nI ((lo y 4))), mvR r (nI ((lo (x >>> ((nI 4) &&& 31)) 9))) (nI ((lo y 4)))) := by unfold acF; rw [if_neg (by omega), if_pos e38]
      exact hret (mvA r (nI ((lo (x >>> ((nI 4) &&& 31)) 9))) (nI ((lo y 4)))) G2_ _ _ 126 _ (⟨by rw [eF], by rw [eF]; exact hv_123, ht_123, har_123⟩) h dL_act_126
    · refine lv_as (y := nI 2) (congrArg nI e38) ?_
      refine lv_tableIn (off := 89) (tgt := 127) hx hb dL_act_38 (by decide) (by decide) rfl (by decide) ?_
      refine lv_aload_n hx hb dL_act_127 rfl (lv_at hl 2 rfl) ?_
      refine lv_iload_n hx hb dL_act_128 rfl (lv_at hl 1 rfl) ?_
      refine lv_iload_n hx hb dL_act_129 rfl (lv_at hl 4 rfl) ?_
      refine lv_bipush (v := nI 6) hx hb dL_act_130 (by decide) ?_
      refine lv_ishr hx hb dL_act_132 ?_
      refine lv_iconst (v := nI 5) hx hb dL_act_133 (by decide) ?_
      refine rg_cisd (As := [.int (y >>> ((nI 6) &&& 31)), .int (nI 5)]) (rest := [.int (nI ((lo (x >>> ((nI 4) &&& 31)) 9))), .ref (ad 0)]) X hl.1 h (c_L_low l J z ad G (y >>> ((nI 6) &&& 31)) 5 (by omega) (by omega)) mw_381 mw_382 mw_101 mw_383 pdL_low ⟨Nat.le_of_ble_eq_true rfl, Nat.le_of_ble_eq_true rfl⟩ ⟨Nat.le_of_ble_eq_true rfl, Nat.le_of_ble_eq_true rfl⟩ rfl (Nat.le_of_ble_eq_true rfl) dL_act_134 (fun H locs h => ?_)
      have hlo_134 := lo_lt (v := y >>> ((nI 6) &&& 31)) (m := 5) (by decide)
      refine lv_iconst (v := nI 2) hx hb dL_act_137 (by decide) ?_
      refine lv_icmp_le (tgt := 146) hx hb dL_act_138 (by decide) (fun c_138 => ?_) (fun c_138 => ?_)
      · rw [nI_leI (by omega) (by omega)] at c_138
        refine lv_aload_n hx hb dL_act_146 rfl (lv_at hl 2 rfl) ?_
        refine lv_iload_n hx hb dL_act_147 rfl (lv_at hl 1 rfl) ?_
        refine lv_iconst (v := nI 0) hx hb dL_act_148 (by decide) ?_
        refine rg_civd (As := [.int (nI ((lo (x >>> ((nI 4) &&& 31)) 9))), .int (nI 0)]) (rest := [.int (nI ((lo (x >>> ((nI 4) &&& 31)) 9))), .ref (ad 0)]) X hl.1 h (c_X7_drone l J z ad G r hR (nI ((lo (x >>> ((nI 4) &&& 31)) 9))) (nI 0)) mw_176 mw_177 mw_178 mw_2 mw_179 pdX7_drone (by decide) (xo_0 J ad _) rfl rfl ⟨Nat.le_of_ble_eq_true rfl, Nat.le_of_ble_eq_true rfl⟩ ⟨Nat.le_of_ble_eq_true rfl, Nat.le_of_ble_eq_true rfl⟩ rfl (Nat.le_of_ble_eq_true rfl) dL_act_149 (fun H locs h => ?_)
        refine lv_as (y := acX r x y) ((if_neg (Nat.not_lt.mpr c_138)).symm) ?_
        refine lv_iload hx hb dL_act_152 (lv_at hl 0 rfl) ?_
        refine lv_iload_n hx hb dL_act_154 rfl (lv_at hl 4 rfl) ?_
        refine lv_iconst (v := nI 4) hx hb dL_act_155 (by decide) ?_
        refine lv_ishr hx hb dL_act_156 ?_
        refine lv_iconst (v := nI 3) hx hb dL_act_157 (by decide) ?_
        refine rg_cisd (As := [.int (y >>> ((nI 4) &&& 31)), .int (nI 3)]) (rest := [.int (nI ((acG y))), .int (acX r x y), .int (nI ((lo (x >>> ((nI 4) &&& 31)) 9))), .ref (ad 0)]) X hl.1 h (c_L_low l J z ad G (y >>> ((nI 4) &&& 31)) 3 (by omega) (by omega)) mw_381 mw_382 mw_101 mw_383 pdL_low ⟨Nat.le_of_ble_eq_true rfl, Nat.le_of_ble_eq_true rfl⟩ ⟨Nat.le_of_ble_eq_true rfl, Nat.le_of_ble_eq_true rfl⟩ rfl (Nat.le_of_ble_eq_true rfl) dL_act_158 (fun H locs h => ?_)
        have hlo_158 := lo_lt (v := y >>> ((nI 4) &&& 31)) (m := 3) (by decide)
        refine rg_civ (As := [.int (nI ((lo (x >>> ((nI 4) &&& 31)) 9))), .int (acX r x y), .int (nI ((acG y))), .int (nI ((lo (y >>> ((nI 4) &&& 31)) 3)))]) (rest := []) X hl.1 h (k_X7_petition l J z ad G n hv.2.1 hv.2.2.1 hv.1 r hv.2.2.2.2 (nI ((lo (x >>> ((nI 4) &&& 31)) 9))) (acX r x y) (nI ((acG y))) (nI ((lo (y >>> ((nI 4) &&& 31)) 3)))) mw_411 mw_412 mw_413 mw_2 mw_414 pdX7_petition (by decide) (xo_0 J ad _) rfl rfl ⟨Nat.le_of_ble_eq_true rfl, Nat.le_of_ble_eq_true rfl⟩ ⟨Nat.le_of_ble_eq_true rfl, Nat.le_of_ble_eq_true rfl⟩ rfl (Nat.le_of_ble_eq_true rfl) dL_act_161 (fun r3 G3 H locs q3 h => ?_)
        obtain ⟨ea_161, G3_, hp_161, hv_161, ht_161, har_161⟩ := Hv_act hv ((ptR_hi hI.1.1 (nI ((lo (x >>> ((nI 4) &&& 31)) 9))) (acX r x y) (nI ((acG y))) (nI ((lo (y >>> ((nI 4) &&& 31)) 3)))).cn hv.2.2.2.1) q3
        have h := HG.ph h hz hp_161
        refine lv_as (y := ptA r (nI ((lo (x >>> ((nI 4) &&& 31)) 9))) (acX r x y) (nI ((acG y))) (nI ((lo (y >>> ((nI 4) &&& 31)) 3)))) ea_161 ?_
        have eF : acF r x y = (ptA r (nI ((lo (x >>> ((nI 4) &&& 31)) 9))) (acX r x y) (nI ((acG y))) (nI ((lo (y >>> ((nI 4) &&& 31)) 3))), ptR r (nI ((lo (x >>> ((nI 4) &&& 31)) 9))) (acX r x y) (nI ((acG y))) (nI ((lo (y >>> ((nI 4) &&& 31)) 3)))) := by unfold acF; rw [if_neg (by omega), if_neg (by omega), if_pos (by omega)]
        exact hret (ptA r (nI ((lo (x >>> ((nI 4) &&& 31)) 9))) (acX r x y) (nI ((acG y))) (nI ((lo (y >>> ((nI 4) &&& 31)) 3)))) G3_ _ _ 164 _ (⟨by rw [eF], by rw [eF]; exact hv_161, ht_161, har_161⟩) h dL_act_164
      · rw [nI_leI (by omega) (by omega)] at c_138
        refine lv_bipush (v := nI 6) hx hb dL_act_141 (by decide) ?_
        refine lv_goto (tgt := 152) hx hb dL_act_143 (by decide) ?_
        refine lv_as (y := acX r x y) ((if_pos (Nat.not_le.mp c_138)).symm) ?_
        refine lv_iload hx hb dL_act_152 (lv_at hl 0 rfl) ?_
        refine lv_iload_n hx hb dL_act_154 rfl (lv_at hl 4 rfl) ?_
        refine lv_iconst (v := nI 4) hx hb dL_act_155 (by decide) ?_
        refine lv_ishr hx hb dL_act_156 ?_
        refine lv_iconst (v := nI 3) hx hb dL_act_157 (by decide) ?_
        refine rg_cisd (As := [.int (y >>> ((nI 4) &&& 31)), .int (nI 3)]) (rest := [.int (nI ((acG y))), .int (acX r x y), .int (nI ((lo (x >>> ((nI 4) &&& 31)) 9))), .ref (ad 0)]) X hl.1 h (c_L_low l J z ad G (y >>> ((nI 4) &&& 31)) 3 (by omega) (by omega)) mw_381 mw_382 mw_101 mw_383 pdL_low ⟨Nat.le_of_ble_eq_true rfl, Nat.le_of_ble_eq_true rfl⟩ ⟨Nat.le_of_ble_eq_true rfl, Nat.le_of_ble_eq_true rfl⟩ rfl (Nat.le_of_ble_eq_true rfl) dL_act_158 (fun H locs h => ?_)
        have hlo_158 := lo_lt (v := y >>> ((nI 4) &&& 31)) (m := 3) (by decide)
        refine rg_civ (As := [.int (nI ((lo (x >>> ((nI 4) &&& 31)) 9))), .int (acX r x y), .int (nI ((acG y))), .int (nI ((lo (y >>> ((nI 4) &&& 31)) 3)))]) (rest := []) X hl.1 h (k_X7_petition l J z ad G n hv.2.1 hv.2.2.1 hv.1 r hv.2.2.2.2 (nI ((lo (x >>> ((nI 4) &&& 31)) 9))) (acX r x y) (nI ((acG y))) (nI ((lo (y >>> ((nI 4) &&& 31)) 3)))) mw_411 mw_412 mw_413 mw_2 mw_414 pdX7_petition (by decide) (xo_0 J ad _) rfl rfl ⟨Nat.le_of_ble_eq_true rfl, Nat.le_of_ble_eq_true rfl⟩ ⟨Nat.le_of_ble_eq_true rfl, Nat.le_of_ble_eq_true rfl⟩ rfl (Nat.le_of_ble_eq_true rfl) dL_act_161 (fun r4 G4 H locs q4 h => ?_)
        obtain ⟨ea_161, G4_, hp_161, hv_161, ht_161, har_161⟩ := Hv_act hv ((ptR_hi hI.1.1 (nI ((lo (x >>> ((nI 4) &&& 31)) 9))) (acX r x y) (nI ((acG y))) (nI ((lo (y >>> ((nI 4) &&& 31)) 3)))).cn hv.2.2.2.1) q4
        have h := HG.ph h hz hp_161
        refine lv_as (y := ptA r (nI ((lo (x >>> ((nI 4) &&& 31)) 9))) (acX r x y) (nI ((acG y))) (nI ((lo (y >>> ((nI 4) &&& 31)) 3)))) ea_161 ?_
        have eF : acF r x y = (ptA r (nI ((lo (x >>> ((nI 4) &&& 31)) 9))) (acX r x y) (nI ((acG y))) (nI ((lo (y >>> ((nI 4) &&& 31)) 3))), ptR r (nI ((lo (x >>> ((nI 4) &&& 31)) 9))) (acX r x y) (nI ((acG y))) (nI ((lo (y >>> ((nI 4) &&& 31)) 3)))) := by unfold acF; rw [if_neg (by omega), if_neg (by omega), if_pos (by omega)]
        exact hret (ptA r (nI ((lo (x >>> ((nI 4) &&& 31)) 9))) (acX r x y) (nI ((acG y))) (nI ((lo (y >>> ((nI 4) &&& 31)) 3)))) G4_ _ _ 164 _ (⟨by rw [eF], by rw [eF]; exact hv_161, ht_161, har_161⟩) h dL_act_164
    · refine lv_as (y := nI 3) (congrArg nI e38) ?_
      refine lv_tableIn (off := 89) (tgt := 127) hx hb dL_act_38 (by decide) (by decide) rfl (by decide) ?_
      refine lv_aload_n hx hb dL_act_127 rfl (lv_at hl 2 rfl) ?_
      refine lv_iload_n hx hb dL_act_128 rfl (lv_at hl 1 rfl) ?_
      refine lv_iload_n hx hb dL_act_129 rfl (lv_at hl 4 rfl) ?_
      refine lv_bipush (v := nI 6) hx hb dL_act_130 (by decide) ?_
      refine lv_ishr hx hb dL_act_132 ?_
      refine lv_iconst (v := nI 5) hx hb dL_act_133 (by decide) ?_
      refine rg_cisd (As := [.int (y >>> ((nI 6) &&& 31)), .int (nI 5)]) (rest := [.int (nI ((lo (x >>> ((nI 4) &&& 31)) 9))), .ref (ad 0)]) X hl.1 h (c_L_low l J z ad G (y >>> ((nI 6) &&& 31)) 5 (by omega) (by omega)) mw_381 mw_382 mw_101 mw_383 pdL_low ⟨Nat.le_of_ble_eq_true rfl, Nat.le_of_ble_eq_true rfl⟩ ⟨Nat.le_of_ble_eq_true rfl, Nat.le_of_ble_eq_true rfl⟩ rfl (Nat.le_of_ble_eq_true rfl) dL_act_134 (fun H locs h => ?_)
      have hlo_134 := lo_lt (v := y >>> ((nI 6) &&& 31)) (m := 5) (by decide)
      refine lv_iconst (v := nI 2) hx hb dL_act_137 (by decide) ?_
      refine lv_icmp_le (tgt := 146) hx hb dL_act_138 (by decide) (fun c_138 => ?_) (fun c_138 => ?_)
      · rw [nI_leI (by omega) (by omega)] at c_138
        refine lv_aload_n hx hb dL_act_146 rfl (lv_at hl 2 rfl) ?_
        refine lv_iload_n hx hb dL_act_147 rfl (lv_at hl 1 rfl) ?_
        refine lv_iconst (v := nI 0) hx hb dL_act_148 (by decide) ?_
        refine rg_civd (As := [.int (nI ((lo (x >>> ((nI 4) &&& 31)) 9))), .int (nI 0)]) (rest := [.int (nI ((lo (x >>> ((nI 4) &&& 31)) 9))), .ref (ad 0)]) X hl.1 h (c_X7_drone l J z ad G r hR (nI ((lo (x >>> ((nI 4) &&& 31)) 9))) (nI 0)) mw_176 mw_177 mw_178 mw_2 mw_179 pdX7_drone (by decide) (xo_0 J ad _) rfl rfl ⟨Nat.le_of_ble_eq_true rfl, Nat.le_of_ble_eq_true rfl⟩ ⟨Nat.le_of_ble_eq_true rfl, Nat.le_of_ble_eq_true rfl⟩ rfl (Nat.le_of_ble_eq_true rfl) dL_act_149 (fun H locs h => ?_)
        refine lv_as (y := acX r x y) ((if_neg (Nat.not_lt.mpr c_138)).symm) ?_
        refine lv_iload hx hb dL_act_152 (lv_at hl 0 rfl) ?_
        refine lv_iload_n hx hb dL_act_154 rfl (lv_at hl 4 rfl) ?_
        refine lv_iconst (v := nI 4) hx hb dL_act_155 (by decide) ?_
        refine lv_ishr hx hb dL_act_156 ?_
        refine lv_iconst (v := nI 3) hx hb dL_act_157 (by decide) ?_
        refine rg_cisd (As := [.int (y >>> ((nI 4) &&& 31)), .int (nI 3)]) (rest := [.int (nI ((acG y))), .int (acX r x y), .int (nI ((lo (x >>> ((nI 4) &&& 31)) 9))), .ref (ad 0)]) X hl.1 h (c_L_low l J z ad G (y >>> ((nI 4) &&& 31)) 3 (by omega) (by omega)) mw_381 mw_382 mw_101 mw_383 pdL_low ⟨Nat.le_of_ble_eq_true rfl, Nat.le_of_ble_eq_true rfl⟩ ⟨Nat.le_of_ble_eq_true rfl, Nat.le_of_ble_eq_true rfl⟩ rfl (Nat.le_of_ble_eq_true rfl) dL_act_158 (fun H locs h => ?_)
        have hlo_158 := lo_lt (v := y >>> ((nI 4) &&& 31)) (m := 3) (by decide)
        refine rg_civ (As := [.int (nI ((lo (x >>> ((nI 4) &&& 31)) 9))), .int (acX r x y), .int (nI ((acG y))), .int (nI ((lo (y >>> ((nI 4) &&& 31)) 3)))]) (rest := []) X hl.1 h (k_X7_petition l J z ad G n hv.2.1 hv.2.2.1 hv.1 r hv.2.2.2.2 (nI ((lo (x >>> ((nI 4) &&& 31)) 9))) (acX r x y) (nI ((acG y))) (nI ((lo (y >>> ((nI 4) &&& 31)) 3)))) mw_411 mw_412 mw_413 mw_2 mw_414 pdX7_petition (by decide) (xo_0 J ad _) rfl rfl ⟨Nat.le_of_ble_eq_true rfl, Nat.le_of_ble_eq_true rfl⟩ ⟨Nat.le_of_ble_eq_true rfl, Nat.le_of_ble_eq_true rfl⟩ rfl (Nat.le_of_ble_eq_true rfl) dL_act_161 (fun r5 G5 H locs q5 h => ?_)
        obtain ⟨ea_161, G5_, hp_161, hv_161, ht_161, har_161⟩ := Hv_act hv ((ptR_hi hI.1.1 (nI ((lo (x >>> ((nI 4) &&& 31)) 9))) (acX r x y) (nI ((acG y))) (nI ((lo (y >>> ((nI 4) &&& 31)) 3)))).cn hv.2.2.2.1) q5
        have h := HG.ph h hz hp_161
        refine lv_as (y := ptA r (nI ((lo (x >>> ((nI 4) &&& 31)) 9))) (acX r x y) (nI ((acG y))) (nI ((lo (y >>> ((nI 4) &&& 31)) 3)))) ea_161 ?_
        have eF : acF r x y = (ptA r (nI ((lo (x >>> ((nI 4) &&& 31)) 9))) (acX r x y) (nI ((acG y))) (nI ((lo (y >>> ((nI 4) &&& 31)) 3))), ptR r (nI ((lo (x >>> ((nI 4) &&& 31)) 9))) (acX r x y) (nI ((acG y))) (nI ((lo (y >>> ((nI 4) &&& 31)) 3)))) := by unfold acF; rw [if_neg (by omega), if_neg (by omega), if_pos (by omega)]
        exact hret (ptA r (nI ((lo (x >>> ((nI 4) &&& 31)) 9))) (acX r x y) (nI ((acG y))) (nI ((lo (y >>> ((nI 4) &&& 31)) 3)))) G5_ _ _ 164 _ (⟨by rw [eF], by rw [eF]; exact hv_161, ht_161, har_161⟩) h dL_act_164
      · rw [nI_leI (by omega) (by omega)] at c_138
        refine lv_bipush (v := nI 6) hx hb dL_act_141 (by decide) ?_
        refine lv_goto (tgt := 152) hx hb dL_act_143 (by decide) ?_
        refine lv_as (y := acX r x y) ((if_pos (Nat.not_le.mp c_138)).symm) ?_
        refine lv_iload hx hb dL_act_152 (lv_at hl 0 rfl) ?_
        refine lv_iload_n hx hb dL_act_154 rfl (lv_at hl 4 rfl) ?_
        refine lv_iconst (v := nI 4) hx hb dL_act_155 (by decide) ?_
        refine lv_ishr hx hb dL_act_156 ?_
        refine lv_iconst (v := nI 3) hx hb dL_act_157 (by decide) ?_
        refine rg_cisd (As := [.int (y >>> ((nI 4) &&& 31)), .int (nI 3)]) (rest := [.int (nI ((acG y))), .int (acX r x y), .int (nI ((lo (x >>> ((nI 4) &&& 31)) 9))), .ref (ad 0)]) X hl.1 h (c_L_low l J z ad G (y >>> ((nI 4) &&& 31)) 3 (by omega) (by omega)) mw_381 mw_382 mw_101 mw_383 pdL_low ⟨Nat.le_of_ble_eq_true rfl, Nat.le_of_ble_eq_true rfl⟩ ⟨Nat.le_of_ble_eq_true rfl, Nat.le_of_ble_eq_true rfl⟩ rfl (Nat.le_of_ble_eq_true rfl) dL_act_158 (fun H locs h => ?_)
        have hlo_158 := lo_lt (v := y >>> ((nI 4) &&& 31)) (m := 3) (by decide)
        refine rg_civ (As := [.int (nI ((lo (x >>> ((nI 4) &&& 31)) 9))), .int (acX r x y), .int (nI ((acG y))), .int (nI ((lo (y >>> ((nI 4) &&& 31)) 3)))]) (rest := []) X hl.1 h (k_X7_petition l J z ad G n hv.2.1 hv.2.2.1 hv.1 r hv.2.2.2.2 (nI ((lo (x >>> ((nI 4) &&& 31)) 9))) (acX r x y) (nI ((acG y))) (nI ((lo (y >>> ((nI 4) &&& 31)) 3)))) mw_411 mw_412 mw_413 mw_2 mw_414 pdX7_petition (by decide) (xo_0 J ad _) rfl rfl ⟨Nat.le_of_ble_eq_true rfl, Nat.le_of_ble_eq_true rfl⟩ ⟨Nat.le_of_ble_eq_true rfl, Nat.le_of_ble_eq_true rfl⟩ rfl (Nat.le_of_ble_eq_true rfl) dL_act_161 (fun r6 G6 H locs q6 h => ?_)
        obtain ⟨ea_161, G6_, hp_161, hv_161, ht_161, har_161⟩ := Hv_act hv ((ptR_hi hI.1.1 (nI ((lo (x >>> ((nI 4) &&& 31)) 9))) (acX r x y) (nI ((acG y))) (nI ((lo (y >>> ((nI 4) &&& 31)) 3)))).cn hv.2.2.2.1) q6
        have h := HG.ph h hz hp_161
        refine lv_as (y := ptA r (nI ((lo (x >>> ((nI 4) &&& 31)) 9))) (acX r x y) (nI ((acG y))) (nI ((lo (y >>> ((nI 4) &&& 31)) 3)))) ea_161 ?_
        have eF : acF r x y = (ptA r (nI ((lo (x >>> ((nI 4) &&& 31)) 9))) (acX r x y) (nI ((acG y))) (nI ((lo (y >>> ((nI 4) &&& 31)) 3))), ptR r (nI ((lo (x >>> ((nI 4) &&& 31)) 9))) (acX r x y) (nI ((acG y))) (nI ((lo (y >>> ((nI 4) &&& 31)) 3)))) := by unfold acF; rw [if_neg (by omega), if_neg (by omega), if_pos (by omega)]
        exact hret (ptA r (nI ((lo (x >>> ((nI 4) &&& 31)) 9))) (acX r x y) (nI ((acG y))) (nI ((lo (y >>> ((nI 4) &&& 31)) 3)))) G6_ _ _ 164 _ (⟨by rw [eF], by rw [eF]; exact hv_161, ht_161, har_161⟩) h dL_act_164
    · refine lv_as (y := nI 4) (congrArg nI e38) ?_
      refine lv_tableIn (off := 89) (tgt := 127) hx hb dL_act_38 (by decide) (by decide) rfl (by decide) ?_
      refine lv_aload_n hx hb dL_act_127 rfl (lv_at hl 2 rfl) ?_
      refine lv_iload_n hx hb dL_act_128 rfl (lv_at hl 1 rfl) ?_
      refine lv_iload_n hx hb dL_act_129 rfl (lv_at hl 4 rfl) ?_
      refine lv_bipush (v := nI 6) hx hb dL_act_130 (by decide) ?_
      refine lv_ishr hx hb dL_act_132 ?_
      refine lv_iconst (v := nI 5) hx hb dL_act_133 (by decide) ?_
      refine rg_cisd (As := [.int (y >>> ((nI 6) &&& 31)), .int (nI 5)]) (rest := [.int (nI ((lo (x >>> ((nI 4) &&& 31)) 9))), .ref (ad 0)]) X hl.1 h (c_L_low l J z ad G (y >>> ((nI 6) &&& 31)) 5 (by omega) (by omega)) mw_381 mw_382 mw_101 mw_383 pdL_low ⟨Nat.le_of_ble_eq_true rfl, Nat.le_of_ble_eq_true rfl⟩ ⟨Nat.le_of_ble_eq_true rfl, Nat.le_of_ble_eq_true rfl⟩ rfl (Nat.le_of_ble_eq_true rfl) dL_act_134 (fun H locs h => ?_)
      have hlo_134 := lo_lt (v := y >>> ((nI 6) &&& 31)) (m := 5) (by decide)
      refine lv_iconst (v := nI 2) hx hb dL_act_137 (by decide) ?_
      refine lv_icmp_le (tgt := 146) hx hb dL_act_138 (by decide) (fun c_138 => ?_) (fun c_138 => ?_)
      · rw [nI_leI (by omega) (by omega)] at c_138
        refine lv_aload_n hx hb dL_act_146 rfl (lv_at hl 2 rfl) ?_
        refine lv_iload_n hx hb dL_act_147 rfl (lv_at hl 1 rfl) ?_
        refine lv_iconst (v := nI 0) hx hb dL_act_148 (by decide) ?_
        refine rg_civd (As := [.int (nI ((lo (x >>> ((nI 4) &&& 31)) 9))), .int (nI 0)]) (rest := [.int (nI ((lo (x >>> ((nI 4) &&& 31)) 9))), .ref (ad 0)]) X hl.1 h (c_X7_drone l J z ad G r hR (nI ((lo (x >>> ((nI 4) &&& 31)) 9))) (nI 0)) mw_176 mw_177 mw_178 mw_2 mw_179 pdX7_drone (by decide) (xo_0 J ad _) rfl rfl ⟨Nat.le_of_ble_eq_true rfl, Nat.le_of_ble_eq_true rfl⟩ ⟨Nat.le_of_ble_eq_true rfl, Nat.le_of_ble_eq_true rfl⟩ rfl (Nat.le_of_ble_eq_true rfl) dL_act_149 (fun H locs h => ?_)
        refine lv_as (y := acX r x y) ((if_neg (Nat.not_lt.mpr c_138)).symm) ?_
        refine lv_iload hx hb dL_act_152 (lv_at hl 0 rfl) ?_
        refine lv_iload_n hx hb dL_act_154 rfl (lv_at hl 4 rfl) ?_
        refine lv_iconst (v := nI 4) hx hb dL_act_155 (by decide) ?_
        refine lv_ishr hx hb dL_act_156 ?_
        refine lv_iconst (v := nI 3) hx hb dL_act_157 (by decide) ?_
        refine rg_cisd (As := [.int (y >>> ((nI 4) &&& 31)), .int (nI 3)]) (rest := [.int (nI ((acG y))), .int (acX r x y), .int (nI ((lo (x >>> ((nI 4) &&& 31)) 9))), .ref (ad 0)]) X hl.1 h (c_L_low l J z ad G (y >>> ((nI 4) &&& 31)) 3 (by omega) (by omega)) mw_381 mw_382 mw_101 mw_383 pdL_low ⟨Nat.le_of_ble_eq_true rfl, Nat.le_of_ble_eq_true rfl⟩ ⟨Nat.le_of_ble_eq_true rfl, Nat.le_of_ble_eq_true rfl⟩ rfl (Nat.le_of_ble_eq_true rfl) dL_act_158 (fun H locs h => ?_)
        have hlo_158 := lo_lt (v := y >>> ((nI 4) &&& 31)) (m := 3) (by decide)
        refine rg_civ (As := [.int (nI ((lo (x >>> ((nI 4) &&& 31)) 9))), .int (acX r x y), .int (nI ((acG y))), .int (nI ((lo (y >>> ((nI 4) &&& 31)) 3)))]) (rest := []) X hl.1 h (k_X7_petition l J z ad G n hv.2.1 hv.2.2.1 hv.1 r hv.2.2.2.2 (nI ((lo (x >>> ((nI 4) &&& 31)) 9))) (acX r x y) (nI ((acG y))) (nI ((lo (y >>> ((nI 4) &&& 31)) 3)))) mw_411 mw_412 mw_413 mw_2 mw_414 pdX7_petition (by decide) (xo_0 J ad _) rfl rfl ⟨Nat.le_of_ble_eq_true rfl, Nat.le_of_ble_eq_true rfl⟩ ⟨Nat.le_of_ble_eq_true rfl, Nat.le_of_ble_eq_true rfl⟩ rfl (Nat.le_of_ble_eq_true rfl) dL_act_161 (fun r7 G7 H locs q7 h => ?_)
        obtain ⟨ea_161, G7_, hp_161, hv_161, ht_161, har_161⟩ := Hv_act hv ((ptR_hi hI.1.1 (nI ((lo (x >>> ((nI 4) &&& 31)) 9))) (acX r x y) (nI ((acG y))) (nI ((lo (y >>> ((nI 4) &&& 31)) 3)))).cn hv.2.2.2.1) q7
        have h := HG.ph h hz hp_161
        refine lv_as (y := ptA r (nI ((lo (x >>> ((nI 4) &&& 31)) 9))) (acX r x y) (nI ((acG y))) (nI ((lo (y >>> ((nI 4) &&& 31)) 3)))) ea_161 ?_
        have eF : acF r x y = (ptA r (nI ((lo (x >>> ((nI 4) &&& 31)) 9))) (acX r x y) (nI ((acG y))) (nI ((lo (y >>> ((nI 4) &&& 31)) 3))), ptR r (nI ((lo (x >>> ((nI 4) &&& 31)) 9))) (acX r x y) (nI ((acG y))) (nI ((lo (y >>> ((nI 4) &&& 31)) 3)))) := by unfold acF; rw [if_neg (by omega), if_neg (by omega), if_pos (by omega)]
        exact hret (ptA r (nI ((lo (x >>> ((nI 4) &&& 31)) 9))) (acX r x y) (nI ((acG y))) (nI ((lo (y >>> ((nI 4) &&& 31)) 3)))) G7_ _ _ 164 _ (⟨by rw [eF], by rw [eF]; exact hv_161, ht_161, har_161⟩) h dL_act_164
      · rw [nI_leI (by omega) (by omega)] at c_138
        refine lv_bipush (v := nI 6) hx hb dL_act_141 (by decide) ?_
        refine lv_goto (tgt := 152) hx hb dL_act_143 (by decide) ?_
        refine lv_as (y := acX r x y) ((if_pos (Nat.not_le.mp c_138)).symm) ?_
        refine lv_iload hx hb dL_act_152 (lv_at hl 0 rfl) ?_
        refine lv_iload_n hx hb dL_act_154 rfl (lv_at hl 4 rfl) ?_
        refine lv_iconst (v := nI 4) hx hb dL_act_155 (by decide) ?_
        refine lv_ishr hx hb dL_act_156 ?_
        refine lv_iconst (v := nI 3) hx hb dL_act_157 (by decide) ?_
        refine rg_cisd (As := [.int (y >>> ((nI 4) &&& 31)), .int (nI 3)]) (rest := [.int (nI ((acG y))), .int (acX r x y), .int (nI ((lo (x >>> ((nI 4) &&& 31)) 9))), .ref (ad 0)]) X hl.1 h (c_L_low l J z ad G (y >>> ((nI 4) &&& 31)) 3 (by omega) (by omega)) mw_381 mw_382 mw_101 mw_383 pdL_low ⟨Nat.le_of_ble_eq_true rfl, Nat.le_of_ble_eq_true rfl⟩ ⟨Nat.le_of_ble_eq_true rfl, Nat.le_of_ble_eq_true rfl⟩ rfl (Nat.le_of_ble_eq_true rfl) dL_act_158 (fun H locs h => ?_)
        have hlo_158 := lo_lt (v := y >>> ((nI 4) &&& 31)) (m := 3) (by decide)
        refine rg_civ (As := [.int (nI ((lo (x >>> ((nI 4) &&& 31)) 9))), .int (acX r x y), .int (nI ((acG y))), .int (nI ((lo (y >>> ((nI 4) &&& 31)) 3)))]) (rest := []) X hl.1 h (k_X7_petition l J z ad G n hv.2.1 hv.2.2.1 hv.1 r hv.2.2.2.2 (nI ((lo (x >>> ((nI 4) &&& 31)) 9))) (acX r x y) (nI ((acG y))) (nI ((lo (y >>> ((nI 4) &&& 31)) 3)))) mw_411 mw_412 mw_413 mw_2 mw_414 pdX7_petition (by decide) (xo_0 J ad _) rfl rfl ⟨Nat.le_of_ble_eq_true rfl, Nat.le_of_ble_eq_true rfl⟩ ⟨Nat.le_of_ble_eq_true rfl, Nat.le_of_ble_eq_true rfl⟩ rfl (Nat.le_of_ble_eq_true rfl) dL_act_161 (fun r8 G8 H locs q8 h => ?_)
        obtain ⟨ea_161, G8_, hp_161, hv_161, ht_161, har_161⟩ := Hv_act hv ((ptR_hi hI.1.1 (nI ((lo (x >>> ((nI 4) &&& 31)) 9))) (acX r x y) (nI ((acG y))) (nI ((lo (y >>> ((nI 4) &&& 31)) 3)))).cn hv.2.2.2.1) q8
        have h := HG.ph h hz hp_161
        refine lv_as (y := ptA r (nI ((lo (x >>> ((nI 4) &&& 31)) 9))) (acX r x y) (nI ((acG y))) (nI ((lo (y >>> ((nI 4) &&& 31)) 3)))) ea_161 ?_
        have eF : acF r x y = (ptA r (nI ((lo (x >>> ((nI 4) &&& 31)) 9))) (acX r x y) (nI ((acG y))) (nI ((lo (y >>> ((nI 4) &&& 31)) 3))), ptR r (nI ((lo (x >>> ((nI 4) &&& 31)) 9))) (acX r x y) (nI ((acG y))) (nI ((lo (y >>> ((nI 4) &&& 31)) 3)))) := by unfold acF; rw [if_neg (by omega), if_neg (by omega), if_pos (by omega)]
        exact hret (ptA r (nI ((lo (x >>> ((nI 4) &&& 31)) 9))) (acX r x y) (nI ((acG y))) (nI ((lo (y >>> ((nI 4) &&& 31)) 3)))) G8_ _ _ 164 _ (⟨by rw [eF], by rw [eF]; exact hv_161, ht_161, har_161⟩) h dL_act_164
    · refine lv_as (y := nI 5) (congrArg nI e38) ?_
      refine lv_tableIn (off := 89) (tgt := 127) hx hb dL_act_38 (by decide) (by decide) rfl (by decide) ?_
      refine lv_aload_n hx hb dL_act_127 rfl (lv_at hl 2 rfl) ?_
      refine lv_iload_n hx hb dL_act_128 rfl (lv_at hl 1 rfl) ?_
      refine lv_iload_n hx hb dL_act_129 rfl (lv_at hl 4 rfl) ?_
      refine lv_bipush (v := nI 6) hx hb dL_act_130 (by decide) ?_
      refine lv_ishr hx hb dL_act_132 ?_
      refine lv_iconst (v := nI 5) hx hb dL_act_133 (by decide) ?_
      refine rg_cisd (As := [.int (y >>> ((nI 6) &&& 31)), .int (nI 5)]) (rest := [.int (nI ((lo (x >>> ((nI 4) &&& 31)) 9))), .ref (ad 0)]) X hl.1 h (c_L_low l J z ad G (y >>> ((nI 6) &&& 31)) 5 (by omega) (by omega)) mw_381 mw_382 mw_101 mw_383 pdL_low ⟨Nat.le_of_ble_eq_true rfl, Nat.le_of_ble_eq_true rfl⟩ ⟨Nat.le_of_ble_eq_true rfl, Nat.le_of_ble_eq_true rfl⟩ rfl (Nat.le_of_ble_eq_true rfl) dL_act_134 (fun H locs h => ?_)
      have hlo_134 := lo_lt (v := y >>> ((nI 6) &&& 31)) (m := 5) (by decide)
      refine lv_iconst (v := nI 2) hx hb dL_act_137 (by decide) ?_
      refine lv_icmp_le (tgt := 146) hx hb dL_act_138 (by decide) (fun c_138 => ?_) (fun c_138 => ?_)
      · rw [nI_leI (by omega) (by omega)] at c_138
        refine lv_aload_n hx hb dL_act_146 rfl (lv_at hl 2 rfl) ?_
        refine lv_iload_n hx hb dL_act_147 rfl (lv_at hl 1 rfl) ?_
        refine lv_iconst (v := nI 0) hx hb dL_act_148 (by decide) ?_
        refine rg_civd (As := [.int (nI ((lo (x >>> ((nI 4) &&& 31)) 9))), .int (nI 0)]) (rest := [.int (nI ((lo (x >>> ((nI 4) &&& 31)) 9))), .ref (ad 0)]) X hl.1 h (c_X7_drone l J z ad G r hR (nI ((lo (x >>> ((nI 4) &&& 31)) 9))) (nI 0)) mw_176 mw_177 mw_178 mw_2 mw_179 pdX7_drone (by decide) (xo_0 J ad _) rfl rfl ⟨Nat.le_of_ble_eq_true rfl, Nat.le_of_ble_eq_true rfl⟩ ⟨Nat.le_of_ble_eq_true rfl, Nat.le_of_ble_eq_true rfl⟩ rfl (Nat.le_of_ble_eq_true rfl) dL_act_149 (fun H locs h => ?_)
        refine lv_as (y := acX r x y) ((if_neg (Nat.not_lt.mpr c_138)).symm) ?_
        refine lv_iload hx hb dL_act_152 (lv_at hl 0 rfl) ?_
        refine lv_iload_n hx hb dL_act_154 rfl (lv_at hl 4 rfl) ?_
        refine lv_iconst (v := nI 4) hx hb dL_act_155 (by decide) ?_
        refine lv_ishr hx hb dL_act_156 ?_
        refine lv_iconst (v := nI 3) hx hb dL_act_157 (by decide) ?_
        refine rg_cisd (As := [.int (y >>> ((nI 4) &&& 31)), .int (nI 3)]) (rest := [.int (nI ((acG y))), .int (acX r x y), .int (nI ((lo (x >>> ((nI 4) &&& 31)) 9))), .ref (ad 0)]) X hl.1 h (c_L_low l J z ad G (y >>> ((nI 4) &&& 31)) 3 (by omega) (by omega)) mw_381 mw_382 mw_101 mw_383 pdL_low ⟨Nat.le_of_ble_eq_true rfl, Nat.le_of_ble_eq_true rfl⟩ ⟨Nat.le_of_ble_eq_true rfl, Nat.le_of_ble_eq_true rfl⟩ rfl (Nat.le_of_ble_eq_true rfl) dL_act_158 (fun H locs h => ?_)
        have hlo_158 := lo_lt (v := y >>> ((nI 4) &&& 31)) (m := 3) (by decide)
        refine rg_civ (As := [.int (nI ((lo (x >>> ((nI 4) &&& 31)) 9))), .int (acX r x y), .int (nI ((acG y))), .int (nI ((lo (y >>> ((nI 4) &&& 31)) 3)))]) (rest := []) X hl.1 h (k_X7_petition l J z ad G n hv.2.1 hv.2.2.1 hv.1 r hv.2.2.2.2 (nI ((lo (x >>> ((nI 4) &&& 31)) 9))) (acX r x y) (nI ((acG y))) (nI ((lo (y >>> ((nI 4) &&& 31)) 3)))) mw_411 mw_412 mw_413 mw_2 mw_414 pdX7_petition (by decide) (xo_0 J ad _) rfl rfl ⟨Nat.le_of_ble_eq_true rfl, Nat.le_of_ble_eq_true rfl⟩ ⟨Nat.le_of_ble_eq_true rfl, Nat.le_of_ble_eq_true rfl⟩ rfl (Nat.le_of_ble_eq_true rfl) dL_act_161 (fun r9 G9 H locs q9 h => ?_)
        obtain ⟨ea_161, G9_, hp_161, hv_161, ht_161, har_161⟩ := Hv_act hv ((ptR_hi hI.1.1 (nI ((lo (x >>> ((nI 4) &&& 31)) 9))) (acX r x y) (nI ((acG y))) (nI ((lo (y >>> ((nI 4) &&& 31)) 3)))).cn hv.2.2.2.1) q9
        have h := HG.ph h hz hp_161
        refine lv_as (y := ptA r (nI ((lo (x >>> ((nI 4) &&& 31)) 9))) (acX r x y) (nI ((acG y))) (nI ((lo (y >>> ((nI 4) &&& 31)) 3)))) ea_161 ?_
        have eF : acF r x y = (ptA r (nI ((lo (x >>> ((nI 4) &&& 31)) 9))) (acX r x y) (nI ((acG y))) (nI ((lo (y >>> ((nI 4) &&& 31)) 3))), ptR r (nI ((lo (x >>> ((nI 4) &&& 31)) 9))) (acX r x y) (nI ((acG y))) (nI ((lo (y >>> ((nI 4) &&& 31)) 3)))) := by unfold acF; rw [if_neg (by omega), if_neg (by omega), if_pos (by omega)]
        exact hret (ptA r (nI ((lo (x >>> ((nI 4) &&& 31)) 9))) (acX r x y) (nI ((acG y))) (nI ((lo (y >>> ((nI 4) &&& 31)) 3)))) G9_ _ _ 164 _ (⟨by rw [eF], by rw [eF]; exact hv_161, ht_161, har_161⟩) h dL_act_164
      · rw [nI_leI (by omega) (by omega)] at c_138
        refine lv_bipush (v := nI 6) hx hb dL_act_141 (by decide) ?_
        refine lv_goto (tgt := 152) hx hb dL_act_143 (by decide) ?_
        refine lv_as (y := acX r x y) ((if_pos (Nat.not_le.mp c_138)).symm) ?_
        refine lv_iload hx hb dL_act_152 (lv_at hl 0 rfl) ?_
        refine lv_iload_n hx hb dL_act_154 rfl (lv_at hl 4 rfl) ?_
        refine lv_iconst (v := nI 4) hx hb dL_act_155 (by decide) ?_
        refine lv_ishr hx hb dL_act_156 ?_
        refine lv_iconst (v := nI 3) hx hb dL_act_157 (by decide) ?_
        refine rg_cisd (As := [.int (y >>> ((nI 4) &&& 31)), .int (nI 3)]) (rest := [.int (nI ((acG y))), .int (acX r x y), .int (nI ((lo (x >>> ((nI 4) &&& 31)) 9))), .ref (ad 0)]) X hl.1 h (c_L_low l J z ad G (y >>> ((nI 4) &&& 31)) 3 (by omega) (by omega)) mw_381 mw_382 mw_101 mw_383 pdL_low ⟨Nat.le_of_ble_eq_true rfl, Nat.le_of_ble_eq_true rfl⟩ ⟨Nat.le_of_ble_eq_true rfl, Nat.le_of_ble_eq_true rfl⟩ rfl (Nat.le_of_ble_eq_true rfl) dL_act_158 (fun H locs h => ?_)
        have hlo_158 := lo_lt (v := y >>> ((nI 4) &&& 31)) (m := 3) (by decide)
        refine rg_civ (As := [.int (nI ((lo (x >>> ((nI 4) &&& 31)) 9))), .int (acX r x y), .int (nI ((acG y))), .int (nI ((lo (y >>> ((nI 4) &&& 31)) 3)))]) (rest := []) X hl.1 h (k_X7_petition l J z ad G n hv.2.1 hv.2.2.1 hv.1 r hv.2.2.2.2 (nI ((lo (x >>> ((nI 4) &&& 31)) 9))) (acX r x y) (nI ((acG y))) (nI ((lo (y >>> ((nI 4) &&& 31)) 3)))) mw_411 mw_412 mw_413 mw_2 mw_414 pdX7_petition (by decide) (xo_0 J ad _) rfl rfl ⟨Nat.le_of_ble_eq_true rfl, Nat.le_of_ble_eq_true rfl⟩ ⟨Nat.le_of_ble_eq_true rfl, Nat.le_of_ble_eq_true rfl⟩ rfl (Nat.le_of_ble_eq_true rfl) dL_act_161 (fun r10 G10 H locs q10 h => ?_)
        obtain ⟨ea_161, G10_, hp_161, hv_161, ht_161, har_161⟩ := Hv_act hv ((ptR_hi hI.1.1 (nI ((lo (x >>> ((nI 4) &&& 31)) 9))) (acX r x y) (nI ((acG y))) (nI ((lo (y >>> ((nI 4) &&& 31)) 3)))).cn hv.2.2.2.1) q10
        have h := HG.ph h hz hp_161
        refine lv_as (y := ptA r (nI ((lo (x >>> ((nI 4) &&& 31)) 9))) (acX r x y) (nI ((acG y))) (nI ((lo (y >>> ((nI 4) &&& 31)) 3)))) ea_161 ?_
        have eF : acF r x y = (ptA r (nI ((lo (x >>> ((nI 4) &&& 31)) 9))) (acX r x y) (nI ((acG y))) (nI ((lo (y >>> ((nI 4) &&& 31)) 3))), ptR r (nI ((lo (x >>> ((nI 4) &&& 31)) 9))) (acX r x y) (nI ((acG y))) (nI ((lo (y >>> ((nI 4) &&& 31)) 3)))) := by unfold acF; rw [if_neg (by omega), if_neg (by omega), if_pos (by omega)]
        exact hret (ptA r (nI ((lo (x >>> ((nI 4) &&& 31)) 9))) (acX r x y) (nI ((acG y))) (nI ((lo (y >>> ((nI 4) &&& 31)) 3)))) G10_ _ _ 164 _ (⟨by rw [eF], by rw [eF]; exact hv_161, ht_161, har_161⟩) h dL_act_164
    · refine lv_as (y := nI 6) (congrArg nI e38) ?_
      refine lv_tableIn (off := 127) (tgt := 165) hx hb dL_act_38 (by decide) (by decide) rfl (by decide) ?_
      refine lv_aload_n hx hb dL_act_165 rfl (lv_at hl 2 rfl) ?_
      refine lv_iload_n hx hb dL_act_166 rfl (lv_at hl 1 rfl) ?_
      refine lv_iload_n hx hb dL_act_167 rfl (lv_at hl 4 rfl) ?_
      refine lv_bipush (v := nI 6) hx hb dL_act_168 (by decide) ?_
      refine rg_cisd (As := [.int y, .int (nI 6)]) (rest := [.int (nI ((lo (x >>> ((nI 4) &&& 31)) 9))), .ref (ad 0)]) X hl.1 h (c_L_low l J z ad G y 6 (by omega) (by omega)) mw_381 mw_382 mw_101 mw_383 pdL_low ⟨Nat.le_of_ble_eq_true rfl, Nat.le_of_ble_eq_true rfl⟩ ⟨Nat.le_of_ble_eq_true rfl, Nat.le_of_ble_eq_true rfl⟩ rfl (Nat.le_of_ble_eq_true rfl) dL_act_170 (fun H locs h => ?_)
      have hlo_170 := lo_lt (v := y) (m := 6) (by decide)
      refine rg_civ (As := [.int (nI ((lo (x >>> ((nI 4) &&& 31)) 9))), .int (nI ((lo y 6)))]) (rest := []) X hl.1 h (k_X7_second l J z ad G n hv.2.1 hv.2.2.1 hv.1 r hv.2.2.2.2 (nI ((lo (x >>> ((nI 4) &&& 31)) 9))) (nI ((lo y 6)))) mw_428 mw_429 mw_430 mw_2 mw_431 pdX7_second (by decide) (xo_0 J ad _) rfl rfl ⟨Nat.le_of_ble_eq_true rfl, Nat.le_of_ble_eq_true rfl⟩ ⟨Nat.le_of_ble_eq_true rfl, Nat.le_of_ble_eq_true rfl⟩ rfl (Nat.le_of_ble_eq_true rfl) dL_act_173 (fun r11 G11 H locs q11 h => ?_)
      obtain ⟨ea_173, G11_, hp_173, hv_173, ht_173, har_173⟩ := Hv_act hv ((scR_hi hI.1.1 (nI ((lo (x >>> ((nI 4) &&& 31)) 9))) (nI ((lo y 6)))).cn hv.2.2.2.1) q11
      have h := HG.ph h hz hp_173
      refine lv_as (y := scA r (nI ((lo (x >>> ((nI 4) &&& 31)) 9))) (nI ((lo y 6)))) ea_173 ?_
      have eF : acF r x y = (scA r (nI ((lo (x >>> ((nI 4) &&& 31)) 9))) (nI ((lo y 6))), scR r (nI ((lo (x >>> ((nI 4) &&& 31)) 9))) (nI ((lo y 6)))) := by unfold acF; rw [if_neg (by omega), if_neg (by omega), if_neg (by omega), if_pos (by omega)]
      exact hret (scA r (nI ((lo (x >>> ((nI 4) &&& 31)) 9))) (nI ((lo y 6)))) G11_ _ _ 176 _ (⟨by rw [eF], by rw [eF]; exact hv_173, ht_173, har_173⟩) h dL_act_176
    · refine lv_as (y := nI 7) (congrArg nI e38) ?_
      refine lv_tableIn (off := 127) (tgt := 165) hx hb dL_act_38 (by decide) (by decide) rfl (by decide) ?_
      refine lv_aload_n hx hb dL_act_165 rfl (lv_at hl 2 rfl) ?_
      refine lv_iload_n hx hb dL_act_166 rfl (lv_at hl 1 rfl) ?_
      refine lv_iload_n hx hb dL_act_167 rfl (lv_at hl 4 rfl) ?_
      refine lv_bipush (v := nI 6) hx hb dL_act_168 (by decide) ?_
      refine rg_cisd (As := [.int y, .int (nI 6)]) (rest := [.int (nI ((lo (x >>> ((nI 4) &&& 31)) 9))), .ref (ad 0)]) X hl.1 h (c_L_low l J z ad G y 6 (by omega) (by omega)) mw_381 mw_382 mw_101 mw_383 pdL_low ⟨Nat.le_of_ble_eq_true rfl, Nat.le_of_ble_eq_true rfl⟩ ⟨Nat.le_of_ble_eq_true rfl, Nat.le_of_ble_eq_true rfl⟩ rfl (Nat.le_of_ble_eq_true rfl) dL_act_170 (fun H locs h => ?_)
      have hlo_170 := lo_lt (v := y) (m := 6) (by decide)
      refine rg_civ (As := [.int (nI ((lo (x >>> ((nI 4) &&& 31)) 9))), .int (nI ((lo y 6)))]) (rest := []) X hl.1 h (k_X7_second l J z ad G n hv.2.1 hv.2.2.1 hv.1 r hv.2.2.2.2 (nI ((lo (x >>> ((nI 4) &&& 31)) 9))) (nI ((lo y 6)))) mw_428 mw_429 mw_430 mw_2 mw_431 pdX7_second (by decide) (xo_0 J ad _) rfl rfl ⟨Nat.le_of_ble_eq_true rfl, Nat.le_of_ble_eq_true rfl⟩ ⟨Nat.le_of_ble_eq_true rfl, Nat.le_of_ble_eq_true rfl⟩ rfl (Nat.le_of_ble_eq_true rfl) dL_act_173 (fun r12 G12 H locs q12 h => ?_)
      obtain ⟨ea_173, G12_, hp_173, hv_173, ht_173, har_173⟩ := Hv_act hv ((scR_hi hI.1.1 (nI ((lo (x >>> ((nI 4) &&& 31)) 9))) (nI ((lo y 6)))).cn hv.2.2.2.1) q12
      have h := HG.ph h hz hp_173
      refine lv_as (y := scA r (nI ((lo (x >>> ((nI 4) &&& 31)) 9))) (nI ((lo y 6)))) ea_173 ?_
      have eF : acF r x y = (scA r (nI ((lo (x >>> ((nI 4) &&& 31)) 9))) (nI ((lo y 6))), scR r (nI ((lo (x >>> ((nI 4) &&& 31)) 9))) (nI ((lo y 6)))) := by unfold acF; rw [if_neg (by omega), if_neg (by omega), if_neg (by omega), if_pos (by omega)]
      exact hret (scA r (nI ((lo (x >>> ((nI 4) &&& 31)) 9))) (nI ((lo y 6)))) G12_ _ _ 176 _ (⟨by rw [eF], by rw [eF]; exact hv_173, ht_173, har_173⟩) h dL_act_176
    · refine lv_as (y := nI 8) (congrArg nI e38) ?_
      refine lv_tableIn (off := 127) (tgt := 165) hx hb dL_act_38 (by decide) (by decide) rfl (by decide) ?_
      refine lv_aload_n hx hb dL_act_165 rfl (lv_at hl 2 rfl) ?_
      refine lv_iload_n hx hb dL_act_166 rfl (lv_at hl 1 rfl) ?_
      refine lv_iload_n hx hb dL_act_167 rfl (lv_at hl 4 rfl) ?_
      refine lv_bipush (v := nI 6) hx hb dL_act_168 (by decide) ?_
      refine rg_cisd (As := [.int y, .int (nI 6)]) (rest := [.int (nI ((lo (x >>> ((nI 4) &&& 31)) 9))), .ref (ad 0)]) X hl.1 h (c_L_low l J z ad G y 6 (by omega) (by omega)) mw_381 mw_382 mw_101 mw_383 pdL_low ⟨Nat.le_of_ble_eq_true rfl, Nat.le_of_ble_eq_true rfl⟩ ⟨Nat.le_of_ble_eq_true rfl, Nat.le_of_ble_eq_true rfl⟩ rfl (Nat.le_of_ble_eq_true rfl) dL_act_170 (fun H locs h => ?_)
      have hlo_170 := lo_lt (v := y) (m := 6) (by decide)
      refine rg_civ (As := [.int (nI ((lo (x >>> ((nI 4) &&& 31)) 9))), .int (nI ((lo y 6)))]) (rest := []) X hl.1 h (k_X7_second l J z ad G n hv.2.1 hv.2.2.1 hv.1 r hv.2.2.2.2 (nI ((lo (x >>> ((nI 4) &&& 31)) 9))) (nI ((lo y 6)))) mw_428 mw_429 mw_430 mw_2 mw_431 pdX7_second (by decide) (xo_0 J ad _) rfl rfl ⟨Nat.le_of_ble_eq_true rfl, Nat.le_of_ble_eq_true rfl⟩ ⟨Nat.le_of_ble_eq_true rfl, Nat.le_of_ble_eq_true rfl⟩ rfl (Nat.le_of_ble_eq_true rfl) dL_act_173 (fun r13 G13 H locs q13 h => ?_)
      obtain ⟨ea_173, G13_, hp_173, hv_173, ht_173, har_173⟩ := Hv_act hv ((scR_hi hI.1.1 (nI ((lo (x >>> ((nI 4) &&& 31)) 9))) (nI ((lo y 6)))).cn hv.2.2.2.1) q13
      have h := HG.ph h hz hp_173
      refine lv_as (y := scA r (nI ((lo (x >>> ((nI 4) &&& 31)) 9))) (nI ((lo y 6)))) ea_173 ?_
      have eF : acF r x y = (scA r (nI ((lo (x >>> ((nI 4) &&& 31)) 9))) (nI ((lo y 6))), scR r (nI ((lo (x >>> ((nI 4) &&& 31)) 9))) (nI ((lo y 6)))) := by unfold acF; rw [if_neg (by omega), if_neg (by omega), if_neg (by omega), if_pos (by omega)]
      exact hret (scA r (nI ((lo (x >>> ((nI 4) &&& 31)) 9))) (nI ((lo y 6)))) G13_ _ _ 176 _ (⟨by rw [eF], by rw [eF]; exact hv_173, ht_173, har_173⟩) h dL_act_176
    · refine lv_as (y := nI 9) (congrArg nI e38) ?_
      refine lv_tableIn (off := 127) (tgt := 165) hx hb dL_act_38 (by decide) (by decide) rfl (by decide) ?_
      refine lv_aload_n hx hb dL_act_165 rfl (lv_at hl 2 rfl) ?_
      refine lv_iload_n hx hb dL_act_166 rfl (lv_at hl 1 rfl) ?_
      refine lv_iload_n hx hb dL_act_167 rfl (lv_at hl 4 rfl) ?_
      refine lv_bipush (v := nI 6) hx hb dL_act_168 (by decide) ?_
      refine rg_cisd (As := [.int y, .int (nI 6)]) (rest := [.int (nI ((lo (x >>> ((nI 4) &&& 31)) 9))), .ref (ad 0)]) X hl.1 h (c_L_low l J z ad G y 6 (by omega) (by omega)) mw_381 mw_382 mw_101 mw_383 pdL_low ⟨Nat.le_of_ble_eq_true rfl, Nat.le_of_ble_eq_true rfl⟩ ⟨Nat.le_of_ble_eq_true rfl, Nat.le_of_ble_eq_true rfl⟩ rfl (Nat.le_of_ble_eq_true rfl) dL_act_170 (fun H locs h => ?_)
      have hlo_170 := lo_lt (v := y) (m := 6) (by decide)
      refine rg_civ (As := [.int (nI ((lo (x >>> ((nI 4) &&& 31)) 9))), .int (nI ((lo y 6)))]) (rest := []) X hl.1 h (k_X7_second l J z ad G n hv.2.1 hv.2.2.1 hv.1 r hv.2.2.2.2 (nI ((lo (x >>> ((nI 4) &&& 31)) 9))) (nI ((lo y 6)))) mw_428 mw_429 mw_430 mw_2 mw_431 pdX7_second (by decide) (xo_0 J ad _) rfl rfl ⟨Nat.le_of_ble_eq_true rfl, Nat.le_of_ble_eq_true rfl⟩ ⟨Nat.le_of_ble_eq_true rfl, Nat.le_of_ble_eq_true rfl⟩ rfl (Nat.le_of_ble_eq_true rfl) dL_act_173 (fun r14 G14 H locs q14 h => ?_)
      obtain ⟨ea_173, G14_, hp_173, hv_173, ht_173, har_173⟩ := Hv_act hv ((scR_hi hI.1.1 (nI ((lo (x >>> ((nI 4) &&& 31)) 9))) (nI ((lo y 6)))).cn hv.2.2.2.1) q14
      have h := HG.ph h hz hp_173
      refine lv_as (y := scA r (nI ((lo (x >>> ((nI 4) &&& 31)) 9))) (nI ((lo y 6)))) ea_173 ?_
      have eF : acF r x y = (scA r (nI ((lo (x >>> ((nI 4) &&& 31)) 9))) (nI ((lo y 6))), scR r (nI ((lo (x >>> ((nI 4) &&& 31)) 9))) (nI ((lo y 6)))) := by unfold acF; rw [if_neg (by omega), if_neg (by omega), if_neg (by omega), if_pos (by omega)]
      exact hret (scA r (nI ((lo (x >>> ((nI 4) &&& 31)) 9))) (nI ((lo y 6)))) G14_ _ _ 176 _ (⟨by rw [eF], by rw [eF]; exact hv_173, ht_173, har_173⟩) h dL_act_176
    · refine lv_as (y := nI 10) (congrArg nI e38) ?_
      refine lv_tableIn (off := 139) (tgt := 177) hx hb dL_act_38 (by decide) (by decide) rfl (by decide) ?_
      refine lv_iload_n hx hb dL_act_177 rfl (lv_at hl 4 rfl) ?_
      refine lv_iconst (v := nI 2) hx hb dL_act_178 (by decide) ?_
      refine rg_cisd (As := [.int y, .int (nI 2)]) (rest := []) X hl.1 h (c_L_low l J z ad G y 2 (by omega) (by omega)) mw_381 mw_382 mw_101 mw_383 pdL_low ⟨Nat.le_of_ble_eq_true rfl, Nat.le_of_ble_eq_true rfl⟩ ⟨Nat.le_of_ble_eq_true rfl, Nat.le_of_ble_eq_true rfl⟩ rfl (Nat.le_of_ble_eq_true rfl) dL_act_179 (fun H locs h => ?_)
      have hlo_179 := lo_lt (v := y) (m := 2) (by decide)
      refine lv_if_ne (tgt := 201) hx hb dL_act_182 (by decide) (fun c_182 => ?_) (fun c_182 => ?_)
      · rw [nz_eq (by omega)] at c_182
        refine lv_aload_n hx hb dL_act_201 rfl (lv_at hl 2 rfl) ?_
        refine lv_iconst (v := nI 1) hx hb dL_act_202 (by decide) ?_
        refine lv_iconst (v := nI 1) hx hb dL_act_203 (by decide) ?_
        refine lv_iload_n hx hb dL_act_204 rfl (lv_at hl 4 rfl) ?_
        refine lv_iconst (v := nI 1) hx hb dL_act_205 (by decide) ?_
        refine lv_ishr hx hb dL_act_206 ?_
        refine lv_bipush (v := nI 8) hx hb dL_act_207 (by decide) ?_
        refine rg_cisd (As := [.int (y >>> ((nI 1) &&& 31)), .int (nI 8)]) (rest := [.int (nI 1), .int (nI 1), .ref (ad 0)]) X hl.1 h (c_L_low l J z ad G (y >>> ((nI 1) &&& 31)) 8 (by omega) (by omega)) mw_381 mw_382 mw_101 mw_383 pdL_low ⟨Nat.le_of_ble_eq_true rfl, Nat.le_of_ble_eq_true rfl⟩ ⟨Nat.le_of_ble_eq_true rfl, Nat.le_of_ble_eq_true rfl⟩ rfl (Nat.le_of_ble_eq_true rfl) dL_act_209 (fun H locs h => ?_)
        have hlo_209 := lo_lt (v := y >>> ((nI 1) &&& 31)) (m := 8) (by decide)
        refine lv_iadd hx hb dL_act_212 ?_
        refine lv_as (y := nI ((lo (y >>> ((nI 1) &&& 31)) 8) + 1)) (nI_addc (by omega)) ?_
        refine rg_civ (As := [.int (nI 1), .int (nI ((lo (y >>> ((nI 1) &&& 31)) 8) + 1))]) (rest := []) X hl.1 h (k_X7_set l J z ad G n hv.2.1 hv.2.2.1 hv.1 r hv.2.2.2.2 (nI 1) (nI ((lo (y >>> ((nI 1) &&& 31)) 8) + 1))) mw_438 mw_439 mw_440 mw_2 mw_441 pdX7_set (by decide) (xo_0 J ad _) rfl rfl ⟨Nat.le_of_ble_eq_true rfl, Nat.le_of_ble_eq_true rfl⟩ ⟨Nat.le_of_ble_eq_true rfl, Nat.le_of_ble_eq_true rfl⟩ rfl (Nat.le_of_ble_eq_true rfl) dL_act_213 (fun r15 G15 H locs q15 h => ?_)
        obtain ⟨ea_213, G15_, hp_213, hv_213, ht_213, har_213⟩ := Hv_act hv ((stR_hi hI.1.1 (nI 1) (nI ((lo (y >>> ((nI 1) &&& 31)) 8) + 1))).cn hv.2.2.2.1) q15
        have h := HG.ph h hz hp_213
        refine lv_as (y := stA r (nI 1) (nI ((lo (y >>> ((nI 1) &&& 31)) 8) + 1))) ea_213 ?_
        have eF : acF r x y = (stA r (nI 1) (nI ((lo (y >>> ((nI 1) &&& 31)) 8) + 1)), stR r (nI 1) (nI ((lo (y >>> ((nI 1) &&& 31)) 8) + 1))) := by unfold acF; rw [if_neg (by omega), if_neg (by omega), if_neg (by omega), if_neg (by omega), if_pos e38, if_neg c_182]
        exact hret (stA r (nI 1) (nI ((lo (y >>> ((nI 1) &&& 31)) 8) + 1))) G15_ _ _ 216 _ (⟨by rw [eF], by rw [eF]; exact hv_213, ht_213, har_213⟩) h dL_act_216
      · rw [nz_eq (by omega)] at c_182
        refine lv_aload_n hx hb dL_act_185 rfl (lv_at hl 2 rfl) ?_
        refine lv_iconst (v := nI 0) hx hb dL_act_186 (by decide) ?_
        refine lv_iload_n hx hb dL_act_187 rfl (lv_at hl 4 rfl) ?_
        refine lv_iconst (v := nI 1) hx hb dL_act_188 (by decide) ?_
        refine lv_ishr hx hb dL_act_189 ?_
        refine lv_bipush (v := nI 12) hx hb dL_act_190 (by decide) ?_
        refine rg_cisd (As := [.int (y >>> ((nI 1) &&& 31)), .int (nI 12)]) (rest := [.int (nI 0), .ref (ad 0)]) X hl.1 h (c_L_low l J z ad G (y >>> ((nI 1) &&& 31)) 12 (by omega) (by omega)) mw_381 mw_382 mw_101 mw_383 pdL_low ⟨Nat.le_of_ble_eq_true rfl, Nat.le_of_ble_eq_true rfl⟩ ⟨Nat.le_of_ble_eq_true rfl, Nat.le_of_ble_eq_true rfl⟩ rfl (Nat.le_of_ble_eq_true rfl) dL_act_192 (fun H locs h => ?_)
        have hlo_192 := lo_lt (v := y >>> ((nI 1) &&& 31)) (m := 12) (by decide)
        refine rg_civ (As := [.int (nI 0), .int (nI ((lo (y >>> ((nI 1) &&& 31)) 12)))]) (rest := []) X hl.1 h (k_X7_set l J z ad G n hv.2.1 hv.2.2.1 hv.1 r hv.2.2.2.2 (nI 0) (nI ((lo (y >>> ((nI 1) &&& 31)) 12)))) mw_438 mw_439 mw_440 mw_2 mw_441 pdX7_set (by decide) (xo_0 J ad _) rfl rfl ⟨Nat.le_of_ble_eq_true rfl, Nat.le_of_ble_eq_true rfl⟩ ⟨Nat.le_of_ble_eq_true rfl, Nat.le_of_ble_eq_true rfl⟩ rfl (Nat.le_of_ble_eq_true rfl) dL_act_195 (fun r16 G16 H locs q16 h => ?_)
        obtain ⟨ea_195, G16_, hp_195, hv_195, ht_195, har_195⟩ := Hv_act hv ((stR_hi hI.1.1 (nI 0) (nI ((lo (y >>> ((nI 1) &&& 31)) 12)))).cn hv.2.2.2.1) q16
        have h := HG.ph h hz hp_195
        refine lv_as (y := stA r (nI 0) (nI ((lo (y >>> ((nI 1) &&& 31)) 12)))) ea_195 ?_
        refine lv_goto (tgt := 216) hx hb dL_act_198 (by decide) ?_
        have eF : acF r x y = (stA r (nI 0) (nI ((lo (y >>> ((nI 1) &&& 31)) 12))), stR r (nI 0) (nI ((lo (y >>> ((nI 1) &&& 31)) 12)))) := by unfold acF; rw [if_neg (by omega), if_neg (by omega), if_neg (by omega), if_neg (by omega), if_pos e38, if_pos c_182]
        exact hret (stA r (nI 0) (nI ((lo (y >>> ((nI 1) &&& 31)) 12)))) G16_ _ _ 216 _ (⟨by rw [eF], by rw [eF]; exact hv_195, ht_195, har_195⟩) h dL_act_216
    · refine lv_tableOut (tgt := 217) hx hb dL_act_38 (sw_out (n := 11) (by decide) (fun q => by obtain ⟨d, d1, d2⟩ := q; have := (nI_eq (by omega) (by omega)).mp d2; omega)) (by decide) ?_
      refine lv_aload_n hx hb dL_act_217 rfl (lv_at hl 2 rfl) ?_
      refine lv_iconst (v := nI 1) hx hb dL_act_218 (by decide) ?_
      refine lv_iload_n hx hb dL_act_219 rfl (lv_at hl 4 rfl) ?_
      refine lv_iload_n hx hb dL_act_220 rfl (lv_at hl 4 rfl) ?_
      refine lv_bipush (v := nI 8) hx hb dL_act_221 (by decide) ?_
      refine lv_ishr hx hb dL_act_223 ?_
      refine lv_iconst (v := nI 5) hx hb dL_act_224 (by decide) ?_
      refine rg_cisd (As := [.int (y >>> ((nI 8) &&& 31)), .int (nI 5)]) (rest := [.int y, .int (nI 1), .ref (ad 0)]) X hl.1 h (c_L_low l J z ad G (y >>> ((nI 8) &&& 31)) 5 (by omega) (by omega)) mw_381 mw_382 mw_101 mw_383 pdL_low ⟨Nat.le_of_ble_eq_true rfl, Nat.le_of_ble_eq_true rfl⟩ ⟨Nat.le_of_ble_eq_true rfl, Nat.le_of_ble_eq_true rfl⟩ rfl (Nat.le_of_ble_eq_true rfl) dL_act_225 (fun H locs h => ?_)
      have hlo_225 := lo_lt (v := y >>> ((nI 8) &&& 31)) (m := 5) (by decide)
      refine lv_if_ne (tgt := 236) hx hb dL_act_228 (by decide) (fun c_228 => ?_) (fun c_228 => ?_)
      · rw [nz_eq (by omega)] at c_228
        refine lv_iconst (v := nI 5) hx hb dL_act_236 (by decide) ?_
        refine rg_cisd (As := [.int y, .int (nI 5)]) (rest := [.int (nI 1), .ref (ad 0)]) X hl.1 h (c_L_low l J z ad G y 5 (by omega) (by omega)) mw_381 mw_382 mw_101 mw_383 pdL_low ⟨Nat.le_of_ble_eq_true rfl, Nat.le_of_ble_eq_true rfl⟩ ⟨Nat.le_of_ble_eq_true rfl, Nat.le_of_ble_eq_true rfl⟩ rfl (Nat.le_of_ble_eq_true rfl) dL_act_237 (fun H locs h => ?_)
        have hlo_237 := lo_lt (v := y) (m := 5) (by decide)
        have eN : lo y 5 = acN y := (if_neg c_228).symm
        refine lv_as (y := nI (acN y)) (congrArg nI eN) ?_
        have hN := acN_lt y
        refine lv_iadd hx hb dL_act_240 ?_
        refine lv_as (y := nI ((acN y) + 1)) (nI_addc (by omega)) ?_
        refine rg_civ (As := [.int (nI ((acN y) + 1))]) (rest := []) X hl.1 h (k_X7_pass l J z ad G n hv.2.1 hv.2.2.1 hv.1 r hv.2.2.2.2 (nI ((acN y) + 1))) mw_331 mw_332 mw_333 mw_2 mw_334 pdX7_pass (by decide) (xo_0 J ad _) rfl rfl ⟨Nat.le_of_ble_eq_true rfl, Nat.le_of_ble_eq_true rfl⟩ ⟨Nat.le_of_ble_eq_true rfl, Nat.le_of_ble_eq_true rfl⟩ rfl (Nat.le_of_ble_eq_true rfl) dL_act_241 (fun r17 G17 H locs q17 h => ?_)
        obtain ⟨ea_241, G17_, hp_241, hv_241, ht_241, har_241⟩ := Hv_act hv ((edR_hi hI.1.1 (nI ((acN y) + 1))).cn hv.2.2.2.1) q17
        have h := HG.ph h hz hp_241
        refine lv_as (y := edA r (nI ((acN y) + 1))) ea_241 ?_
        have eF : acF r x y = (edA r (nI ((acN y) + 1)), edR r (nI ((acN y) + 1))) := by unfold acF; rw [if_neg (by omega), if_neg (by omega), if_neg (by omega), if_neg (by omega), if_neg (by omega)]
        exact hret (edA r (nI ((acN y) + 1))) G17_ _ _ 244 _ (⟨by rw [eF], by rw [eF]; exact hv_241, ht_241, har_241⟩) h dL_act_244
      · rw [nz_eq (by omega)] at c_228
        refine lv_bipush (v := nI 30) hx hb dL_act_231 (by decide) ?_
        refine lv_goto (tgt := 237) hx hb dL_act_233 (by decide) ?_
        refine rg_cisd (As := [.int y, .int (nI 30)]) (rest := [.int (nI 1), .ref (ad 0)]) X hl.1 h (c_L_low l J z ad G y 30 (by omega) (by omega)) mw_381 mw_382 mw_101 mw_383 pdL_low ⟨Nat.le_of_ble_eq_true rfl, Nat.le_of_ble_eq_true rfl⟩ ⟨Nat.le_of_ble_eq_true rfl, Nat.le_of_ble_eq_true rfl⟩ rfl (Nat.le_of_ble_eq_true rfl) dL_act_237 (fun H locs h => ?_)
        have hlo_237 := lo_lt (v := y) (m := 30) (by decide)
        have eN : lo y 30 = acN y := (if_pos c_228).symm
        refine lv_as (y := nI (acN y)) (congrArg nI eN) ?_
        have hN := acN_lt y
        refine lv_iadd hx hb dL_act_240 ?_
        refine lv_as (y := nI ((acN y) + 1)) (nI_addc (by omega)) ?_
        refine rg_civ (As := [.int (nI ((acN y) + 1))]) (rest := []) X hl.1 h (k_X7_pass l J z ad G n hv.2.1 hv.2.2.1 hv.1 r hv.2.2.2.2 (nI ((acN y) + 1))) mw_331 mw_332 mw_333 mw_2 mw_334 pdX7_pass (by decide) (xo_0 J ad _) rfl rfl ⟨Nat.le_of_ble_eq_true rfl, Nat.le_of_ble_eq_true rfl⟩ ⟨Nat.le_of_ble_eq_true rfl, Nat.le_of_ble_eq_true rfl⟩ rfl (Nat.le_of_ble_eq_true rfl) dL_act_241 (fun r18 G18 H locs q18 h => ?_)
        obtain ⟨ea_241, G18_, hp_241, hv_241, ht_241, har_241⟩ := Hv_act hv ((edR_hi hI.1.1 (nI ((acN y) + 1))).cn hv.2.2.2.1) q18
        have h := HG.ph h hz hp_241
        refine lv_as (y := edA r (nI ((acN y) + 1))) ea_241 ?_
        have eF : acF r x y = (edA r (nI ((acN y) + 1)), edR r (nI ((acN y) + 1))) := by unfold acF; rw [if_neg (by omega), if_neg (by omega), if_neg (by omega), if_neg (by omega), if_neg (by omega)]
        exact hret (edA r (nI ((acN y) + 1))) G18_ _ _ 244 _ (⟨by rw [eF], by rw [eF]; exact hv_241, ht_241, har_241⟩) h dL_act_244
  · rw [nz_eq (by omega)] at c_18
    refine lv_bipush (v := nI 20) hx hb dL_act_21 (by decide) ?_
    refine lv_goto (tgt := 27) hx hb dL_act_23 (by decide) ?_
    refine rg_cisd (As := [.int y, .int (nI 20)]) (rest := []) X hl.1 h (c_L_low l J z ad G y 20 (by omega) (by omega)) mw_381 mw_382 mw_101 mw_383 pdL_low ⟨Nat.le_of_ble_eq_true rfl, Nat.le_of_ble_eq_true rfl⟩ ⟨Nat.le_of_ble_eq_true rfl, Nat.le_of_ble_eq_true rfl⟩ rfl (Nat.le_of_ble_eq_true rfl) dL_act_27 (fun H locs h => ?_)
    have hlo_27 := lo_lt (v := y) (m := 20) (by decide)
    have eG : lo y 20 = acG y := (if_pos c_18).symm
    refine lv_as (y := nI (acG y)) (congrArg nI eG) ?_
    refine lv_istore (lv' := [(4, .int (nI ((acG y)))), (3, .int (nI ((lo (x >>> ((nI 4) &&& 31)) 9)))), (0, .ref (ad 0)), (1, .int x), (2, .int y)]) hx hb dL_act_30 hl (by decide) rfl (fun ls hl => ?_)
    refine lv_iload_n hx hb dL_act_32 rfl (lv_at hl 3 rfl) ?_
    refine lv_bipush (v := nI 15) hx hb dL_act_33 (by decide) ?_
    refine rg_cisd (As := [.int x, .int (nI 15)]) (rest := []) X hl.1 h (c_L_low l J z ad G x 15 (by omega) (by omega)) mw_381 mw_382 mw_101 mw_383 pdL_low ⟨Nat.le_of_ble_eq_true rfl, Nat.le_of_ble_eq_true rfl⟩ ⟨Nat.le_of_ble_eq_true rfl, Nat.le_of_ble_eq_true rfl⟩ rfl (Nat.le_of_ble_eq_true rfl) dL_act_35 (fun H locs h => ?_)
    have hlo_35 := lo_lt (v := x) (m := 15) (by decide)
    have h15 := lo_lt (v := x) (m := 15) (by decide)
    rcases (show lo x 15 = 0 ∨ lo x 15 = 1 ∨ lo x 15 = 2 ∨ lo x 15 = 3 ∨ lo x 15 = 4 ∨ lo x 15 = 5 ∨ lo x 15 = 6 ∨ lo x 15 = 7 ∨ lo x 15 = 8 ∨ lo x 15 = 9 ∨ lo x 15 = 10 ∨ 11 ≤ lo x 15 by omega) with e38 | e38 | e38 | e38 | e38 | e38 | e38 | e38 | e38 | e38 | e38 | e38
    · refine lv_as (y := nI 0) (congrArg nI e38) ?_
      refine lv_tableIn (off := 58) (tgt := 96) hx hb dL_act_38 (by decide) (by decide) rfl (by decide) ?_
      refine lv_aload_n hx hb dL_act_96 rfl (lv_at hl 2 rfl) ?_
      refine lv_iload_n hx hb dL_act_97 rfl (lv_at hl 3 rfl) ?_
      refine lv_iconst (v := nI 4) hx hb dL_act_98 (by decide) ?_
      refine lv_ishr hx hb dL_act_99 ?_
      refine lv_iconst (v := nI 4) hx hb dL_act_100 (by decide) ?_
      refine rg_cisd (As := [.int (x >>> ((nI 4) &&& 31)), .int (nI 4)]) (rest := [.ref (ad 0)]) X hl.1 h (c_L_low l J z ad G (x >>> ((nI 4) &&& 31)) 4 (by omega) (by omega)) mw_381 mw_382 mw_101 mw_383 pdL_low ⟨Nat.le_of_ble_eq_true rfl, Nat.le_of_ble_eq_true rfl⟩ ⟨Nat.le_of_ble_eq_true rfl, Nat.le_of_ble_eq_true rfl⟩ rfl (Nat.le_of_ble_eq_true rfl) dL_act_101 (fun H locs h => ?_)
      have hlo_101 := lo_lt (v := x >>> ((nI 4) &&& 31)) (m := 4) (by decide)
      refine lv_iconst (v := nI 1) hx hb dL_act_104 (by decide) ?_
      refine lv_iload_n hx hb dL_act_105 rfl (lv_at hl 4 rfl) ?_
      refine lv_bipush (v := nI 9) hx hb dL_act_106 (by decide) ?_
      refine rg_cisd (As := [.int y, .int (nI 9)]) (rest := [.int (nI 1), .int (nI ((lo (x >>> ((nI 4) &&& 31)) 4))), .ref (ad 0)]) X hl.1 h (c_L_low l J z ad G y 9 (by omega) (by omega)) mw_381 mw_382 mw_101 mw_383 pdL_low ⟨Nat.le_of_ble_eq_true rfl, Nat.le_of_ble_eq_true rfl⟩ ⟨Nat.le_of_ble_eq_true rfl, Nat.le_of_ble_eq_true rfl⟩ rfl (Nat.le_of_ble_eq_true rfl) dL_act_108 (fun H locs h => ?_)
      have hlo_108 := lo_lt (v := y) (m := 9) (by decide)
      refine lv_iadd hx hb dL_act_111 ?_
      refine lv_as (y := nI ((lo y 9) + 1)) (nI_addc (by omega)) ?_
      refine rg_civ (As := [.int (nI ((lo (x >>> ((nI 4) &&& 31)) 4))), .int (nI ((lo y 9) + 1))]) (rest := []) X hl.1 h (k_X7_come l J z ad G n hv.2.1 hv.2.2.1 hv.1 r hv.2.2.2.2 (nI ((lo (x >>> ((nI 4) &&& 31)) 4))) (nI ((lo y 9) + 1))) mw_385 mw_386 mw_387 mw_2 mw_388 pdX7_come (by decide) (xo_0 J ad _) rfl rfl ⟨Nat.le_of_ble_eq_true rfl, Nat.le_of_ble_eq_true rfl⟩ ⟨Nat.le_of_ble_eq_true rfl, Nat.le_of_ble_eq_true rfl⟩ rfl (Nat.le_of_ble_eq_true rfl) dL_act_112 (fun r19 G19 H locs q19 h => ?_)
      obtain ⟨ea_112, G19_, hp_112, hv_112, ht_112, har_112⟩ := Hv_act hv ((cmR_hi hI.1.1 (nI ((lo (x >>> ((nI 4) &&& 31)) 4))) (nI ((lo y 9) + 1))).cn hv.2.2.2.1) q19
      have h := HG.ph h hz hp_112
      refine lv_as (y := cmA r (nI ((lo (x >>> ((nI 4) &&& 31)) 4))) (nI ((lo y 9) + 1))) ea_112 ?_
      have eF : acF r x y = (cmA r (nI ((lo (x >>> ((nI 4) &&& 31)) 4))) (nI ((lo y 9) + 1)), cmR r (nI ((lo (x >>> ((nI 4) &&& 31)) 4))) (nI ((lo y 9) + 1))) := by unfold acF; rw [if_pos e38]
      exact hret (cmA r (nI ((lo (x >>> ((nI 4) &&& 31)) 4))) (nI ((lo y 9) + 1))) G19_ _ _ 115 _ (⟨by rw [eF], by rw [eF]; exact hv_112, ht_112, har_112⟩) h dL_act_115
    · refine lv_as (y := nI 1) (congrArg nI e38) ?_
      refine lv_tableIn (off := 78) (tgt := 116) hx hb dL_act_38 (by decide) (by decide) rfl (by decide) ?_
      refine lv_aload_n hx hb dL_act_116 rfl (lv_at hl 2 rfl) ?_
      refine lv_iload_n hx hb dL_act_117 rfl (lv_at hl 1 rfl) ?_
      refine lv_iload_n hx hb dL_act_118 rfl (lv_at hl 4 rfl) ?_
      refine lv_iconst (v := nI 4) hx hb dL_act_119 (by decide) ?_
      refine rg_cisd (As := [.int y, .int (nI 4)]) (rest := [.int (nI ((lo (x >>> ((nI 4) &&& 31)) 9))), .ref (ad 0)]) X hl.1 h (c_L_low l J z ad G y 4 (by omega) (by omega)) mw_381 mw_382 mw_101 mw_383 pdL_low ⟨Nat.le_of_ble_eq_true rfl, Nat.le_of_ble_eq_true rfl⟩ ⟨Nat.le_of_ble_eq_true rfl, Nat.le_of_ble_eq_true rfl⟩ rfl (Nat.le_of_ble_eq_true rfl) dL_act_120 (fun H locs h => ?_)
      have hlo_120 := lo_lt (v := y) (m := 4) (by decide)
      refine rg_civ (As := [.int (nI ((lo (x >>> ((nI 4) &&& 31)) 9))), .int (nI ((lo y 4)))]) (rest := []) X hl.1 h (k_X7_move l J z ad G n hv.2.1 hv.2.2.1 hv.1 r hv.2.2.2.2 (nI ((lo (x >>> ((nI 4) &&& 31)) 9))) (nI ((lo y 4)))) mw_401 mw_402 mw_403 mw_2 mw_404 pdX7_move (by decide) (xo_0 J ad _) rfl rfl ⟨Nat.le_of_ble_eq_true rfl, Nat.le_of_ble_eq_true rfl⟩ ⟨Nat.le_of_ble_eq_true rfl, Nat.le_of_ble_eq_true rfl⟩ rfl (Nat.le_of_ble_eq_true rfl) dL_act_123 (fun r20 G20 H locs q20 h => ?_)
      obtain ⟨ea_123, G20_, hp_123, hv_123, ht_123, har_123⟩ := Hv_act hv ((mvR_hi hI.1.1 (nI ((lo (x >>> ((nI 4) &&& 31)) 9))) (nI ((lo y 4)))).cn hv.2.2.2.1) q20
      have h := HG.ph h hz hp_123
      refine lv_as (y := mvA r (nI ((lo (x >>> ((nI 4) &&& 31)) 9))) (nI ((lo y 4)))) ea_123 ?_
      have eF : acF r x y = (mvA r (nI ((lo (x >>> ((nI 4) &&& 31)) 9))) (nI ((lo y 4))), mvR r (nI ((lo (x >>> ((nI 4) &&& 31)) 9))) (nI ((lo y 4)))) := by unfold acF; rw [if_neg (by omega), if_pos e38]
      exact hret (mvA r (nI ((lo (x >>> ((nI 4) &&& 31)) 9))) (nI ((lo y 4)))) G20_ _ _ 126 _ (⟨by rw [eF], by rw [eF]; exact hv_123, ht_123, har_123⟩) h dL_act_126
    · refine lv_as (y := nI 2) (congrArg nI e38) ?_
      refine lv_tableIn (off := 89) (tgt := 127) hx hb dL_act_38 (by decide) (by decide) rfl (by decide) ?_
      refine lv_aload_n hx hb dL_act_127 rfl (lv_at hl 2 rfl) ?_
      refine lv_iload_n hx hb dL_act_128 rfl (lv_at hl 1 rfl) ?_
      refine lv_iload_n hx hb dL_act_129 rfl (lv_at hl 4 rfl) ?_
      refine lv_bipush (v := nI 6) hx hb dL_act_130 (by decide) ?_
      refine lv_ishr hx hb dL_act_132 ?_
      refine lv_iconst (v := nI 5) hx hb dL_act_133 (by decide) ?_
      refine rg_cisd (As := [.int (y >>> ((nI 6) &&& 31)), .int (nI 5)]) (rest := [.int (nI ((lo (x >>> ((nI 4) &&& 31)) 9))), .ref (ad 0)]) X hl.1 h (c_L_low l J z ad G (y >>> ((nI 6) &&& 31)) 5 (by omega) (by omega)) mw_381 mw_382 mw_101 mw_383 pdL_low ⟨Nat.le_of_ble_eq_true rfl, Nat.le_of_ble_eq_true rfl⟩ ⟨Nat.le_of_ble_eq_true rfl, Nat.le_of_ble_eq_true rfl⟩ rfl (Nat.le_of_ble_eq_true rfl) dL_act_134 (fun H locs h => ?_)
      have hlo_134 := lo_lt (v := y >>> ((nI 6) &&& 31)) (m := 5) (by decide)
      refine lv_iconst (v := nI 2) hx hb dL_act_137 (by decide) ?_
      refine lv_icmp_le (tgt := 146) hx hb dL_act_138 (by decide) (fun c_138 => ?_) (fun c_138 => ?_)
      · rw [nI_leI (by omega) (by omega)] at c_138
        refine lv_aload_n hx hb dL_act_146 rfl (lv_at hl 2 rfl) ?_
        refine lv_iload_n hx hb dL_act_147 rfl (lv_at hl 1 rfl) ?_
        refine lv_iconst (v := nI 0) hx hb dL_act_148 (by decide) ?_
        refine rg_civd (As := [.int (nI ((lo (x >>> ((nI 4) &&& 31)) 9))), .int (nI 0)]) (rest := [.int (nI ((lo (x >>> ((nI 4) &&& 31)) 9))), .ref (ad 0)]) X hl.1 h (c_X7_drone l J z ad G r hR (nI ((lo (x >>> ((nI 4) &&& 31)) 9))) (nI 0)) mw_176 mw_177 mw_178 mw_2 mw_179 pdX7_drone (by decide) (xo_0 J ad _) rfl rfl ⟨Nat.le_of_ble_eq_true rfl, Nat.le_of_ble_eq_true rfl⟩ ⟨Nat.le_of_ble_eq_true rfl, Nat.le_of_ble_eq_true rfl⟩ rfl (Nat.le_of_ble_eq_true rfl) dL_act_149 (fun H locs h => ?_)
        refine lv_as (y := acX r x y) ((if_neg (Nat.not_lt.mpr c_138)).symm) ?_
        refine lv_iload hx hb dL_act_152 (lv_at hl 0 rfl) ?_
        refine lv_iload_n hx hb dL_act_154 rfl (lv_at hl 4 rfl) ?_
        refine lv_iconst (v := nI 4) hx hb dL_act_155 (by decide) ?_
        refine lv_ishr hx hb dL_act_156 ?_
        refine lv_iconst (v := nI 3) hx hb dL_act_157 (by decide) ?_
        refine rg_cisd (As := [.int (y >>> ((nI 4) &&& 31)), .int (nI 3)]) (rest := [.int (nI ((acG y))), .int (acX r x y), .int (nI ((lo (x >>> ((nI 4) &&& 31)) 9))), .ref (ad 0)]) X hl.1 h (c_L_low l J z ad G (y >>> ((nI 4) &&& 31)) 3 (by omega) (by omega)) mw_381 mw_382 mw_101 mw_383 pdL_low ⟨Nat.le_of_ble_eq_true rfl, Nat.le_of_ble_eq_true rfl⟩ ⟨Nat.le_of_ble_eq_true rfl, Nat.le_of_ble_eq_true rfl⟩ rfl (Nat.le_of_ble_eq_true rfl) dL_act_158 (fun H locs h => ?_)
        have hlo_158 := lo_lt (v := y >>> ((nI 4) &&& 31)) (m := 3) (by decide)
        refine rg_civ (As := [.int (nI ((lo (x >>> ((nI 4) &&& 31)) 9))), .int (acX r x y), .int (nI ((acG y))), .int (nI ((lo (y >>> ((nI 4) &&& 31)) 3)))]) (rest := []) X hl.1 h (k_X7_petition l J z ad G n hv.2.1 hv.2.2.1 hv.1 r hv.2.2.2.2 (nI ((lo (x >>> ((nI 4) &&& 31)) 9))) (acX r x y) (nI ((acG y))) (nI ((lo (y >>> ((nI 4) &&& 31)) 3)))) mw_411 mw_412 mw_413 mw_2 mw_414 pdX7_petition (by decide) (xo_0 J ad _) rfl rfl ⟨Nat.le_of_ble_eq_true rfl, Nat.le_of_ble_eq_true rfl⟩ ⟨Nat.le_of_ble_eq_true rfl, Nat.le_of_ble_eq_true rfl⟩ rfl (Nat.le_of_ble_eq_true rfl) dL_act_161 (fun r21 G21 H locs q21 h => ?_)
        obtain ⟨ea_161, G21_, hp_161, hv_161, ht_161, har_161⟩ := Hv_act hv ((ptR_hi hI.1.1 (nI ((lo (x >>> ((nI 4) &&& 31)) 9))) (acX r x y) (nI ((acG y))) (nI ((lo (y >>> ((nI 4) &&& 31)) 3)))).cn hv.2.2.2.1) q21
        have h := HG.ph h hz hp_161
        refine lv_as (y := ptA r (nI ((lo (x >>> ((nI 4) &&& 31)) 9))) (acX r x y) (nI ((acG y))) (nI ((lo (y >>> ((nI 4) &&& 31)) 3)))) ea_161 ?_
        have eF : acF r x y = (ptA r (nI ((lo (x >>> ((nI 4) &&& 31)) 9))) (acX r x y) (nI ((acG y))) (nI ((lo (y >>> ((nI 4) &&& 31)) 3))), ptR r (nI ((lo (x >>> ((nI 4) &&& 31)) 9))) (acX r x y) (nI ((acG y))) (nI ((lo (y >>> ((nI 4) &&& 31)) 3)))) := by unfold acF; rw [if_neg (by omega), if_neg (by omega), if_pos (by omega)]
        exact hret (ptA r (nI ((lo (x >>> ((nI 4) &&& 31)) 9))) (acX r x y) (nI ((acG y))) (nI ((lo (y >>> ((nI 4) &&& 31)) 3)))) G21_ _ _ 164 _ (⟨by rw [eF], by rw [eF]; exact hv_161, ht_161, har_161⟩) h dL_act_164
      · rw [nI_leI (by omega) (by omega)] at c_138
        refine lv_bipush (v := nI 6) hx hb dL_act_141 (by decide) ?_
        refine lv_goto (tgt := 152) hx hb dL_act_143 (by decide) ?_
        refine lv_as (y := acX r x y) ((if_pos (Nat.not_le.mp c_138)).symm) ?_
        refine lv_iload hx hb dL_act_152 (lv_at hl 0 rfl) ?_
        refine lv_iload_n hx hb dL_act_154 rfl (lv_at hl 4 rfl) ?_
        refine lv_iconst (v := nI 4) hx hb dL_act_155 (by decide) ?_
        refine lv_ishr hx hb dL_act_156 ?_
        refine lv_iconst (v := nI 3) hx hb dL_act_157 (by decide) ?_
        refine rg_cisd (As := [.int (y >>> ((nI 4) &&& 31)), .int (nI 3)]) (rest := [.int (nI ((acG y))), .int (acX r x y), .int (nI ((lo (x >>> ((nI 4) &&& 31)) 9))), .ref (ad 0)]) X hl.1 h (c_L_low l J z ad G (y >>> ((nI 4) &&& 31)) 3 (by omega) (by omega)) mw_381 mw_382 mw_101 mw_383 pdL_low ⟨Nat.le_of_ble_eq_true rfl, Nat.le_of_ble_eq_true rfl⟩ ⟨Nat.le_of_ble_eq_true rfl, Nat.le_of_ble_eq_true rfl⟩ rfl (Nat.le_of_ble_eq_true rfl) dL_act_158 (fun H locs h => ?_)
        have hlo_158 := lo_lt (v := y >>> ((nI 4) &&& 31)) (m := 3) (by decide)
        refine rg_civ (As := [.int (nI ((lo (x >>> ((nI 4) &&& 31)) 9))), .int (acX r x y), .int (nI ((acG y))), .int (nI ((lo (y >>> ((nI 4) &&& 31)) 3)))]) (rest := []) X hl.1 h (k_X7_petition l J z ad G n hv.2.1 hv.2.2.1 hv.1 r hv.2.2.2.2 (nI ((lo (x >>> ((nI 4) &&& 31)) 9))) (acX r x y) (nI ((acG y))) (nI ((lo (y >>> ((nI 4) &&& 31)) 3)))) mw_411 mw_412 mw_413 mw_2 mw_414 pdX7_petition (by decide) (xo_0 J ad _) rfl rfl ⟨Nat.le_of_ble_eq_true rfl, Nat.le_of_ble_eq_true rfl⟩ ⟨Nat.le_of_ble_eq_true rfl, Nat.le_of_ble_eq_true rfl⟩ rfl (Nat.le_of_ble_eq_true rfl) dL_act_161 (fun r22 G22 H locs q22 h => ?_)
        obtain ⟨ea_161, G22_, hp_161, hv_161, ht_161, har_161⟩ := Hv_act hv ((ptR_hi hI.1.1 (nI ((lo (x >>> ((nI 4) &&& 31)) 9))) (acX r x y) (nI ((acG y))) (nI ((lo (y >>> ((nI 4) &&& 31)) 3)))).cn hv.2.2.2.1) q22
        have h := HG.ph h hz hp_161
        refine lv_as (y := ptA r (nI ((lo (x >>> ((nI 4) &&& 31)) 9))) (acX r x y) (nI ((acG y))) (nI ((lo (y >>> ((nI 4) &&& 31)) 3)))) ea_161 ?_
        have eF : acF r x y = (ptA r (nI ((lo (x >>> ((nI 4) &&& 31)) 9))) (acX r x y) (nI ((acG y))) (nI ((lo (y >>> ((nI 4) &&& 31)) 3))), ptR r (nI ((lo (x >>> ((nI 4) &&& 31)) 9))) (acX r x y) (nI ((acG y))) (nI ((lo (y >>> ((nI 4) &&& 31)) 3)))) := by unfold acF; rw [if_neg (by omega), if_neg (by omega), if_pos (by omega)]
        exact hret (ptA r (nI ((lo (x >>> ((nI 4) &&& 31)) 9))) (acX r x y) (nI ((acG y))) (nI ((lo (y >>> ((nI 4) &&& 31)) 3)))) G22_ _ _ 164 _ (⟨by rw [eF], by rw [eF]; exact hv_161, ht_161, har_161⟩) h dL_act_164
    · refine lv_as (y := nI 3) (congrArg nI e38) ?_
      refine lv_tableIn (off := 89) (tgt := 127) hx hb dL_act_38 (by decide) (by decide) rfl (by decide) ?_
      refine lv_aload_n hx hb dL_act_127 rfl (lv_at hl 2 rfl) ?_
      refine lv_iload_n hx hb dL_act_128 rfl (lv_at hl 1 rfl) ?_
      refine lv_iload_n hx hb dL_act_129 rfl (lv_at hl 4 rfl) ?_
      refine lv_bipush (v := nI 6) hx hb dL_act_130 (by decide) ?_
      refine lv_ishr hx hb dL_act_132 ?_
      refine lv_iconst (v := nI 5) hx hb dL_act_133 (by decide) ?_
      refine rg_cisd (As := [.int (y >>> ((nI 6) &&& 31)), .int (nI 5)]) (rest := [.int (nI ((lo (x >>> ((nI 4) &&& 31)) 9))), .ref (ad 0)]) X hl.1 h (c_L_low l J z ad G (y >>> ((nI 6) &&& 31)) 5 (by omega) (by omega)) mw_381 mw_382 mw_101 mw_383 pdL_low ⟨Nat.le_of_ble_eq_true rfl, Nat.le_of_ble_eq_true rfl⟩ ⟨Nat.le_of_ble_eq_true rfl, Nat.le_of_ble_eq_true rfl⟩ rfl (Nat.le_of_ble_eq_true rfl) dL_act_134 (fun H locs h => ?_)
      have hlo_134 := lo_lt (v := y >>> ((nI 6) &&& 31)) (m := 5) (by decide)
      refine lv_iconst (v := nI 2) hx hb dL_act_137 (by decide) ?_
      refine lv_icmp_le (tgt := 146) hx hb dL_act_138 (by decide) (fun c_138 => ?_) (fun c_138 => ?_)
      · rw [nI_leI (by omega) (by omega)] at c_138
        refine lv_aload_n hx hb dL_act_146 rfl (lv_at hl 2 rfl) ?_
        refine lv_iload_n hx hb dL_act_147 rfl (lv_at hl 1 rfl) ?_
        refine lv_iconst (v := nI 0) hx hb dL_act_148 (by decide) ?_
        refine rg_civd (As := [.int (nI ((lo (x >>> ((nI 4) &&& 31)) 9))), .int (nI 0)]) (rest := [.int (nI ((lo (x >>> ((nI 4) &&& 31)) 9))), .ref (ad 0)]) X hl.1 h (c_X7_drone l J z ad G r hR (nI ((lo (x >>> ((nI 4) &&& 31)) 9))) (nI 0)) mw_176 mw_177 mw_178 mw_2 mw_179 pdX7_drone (by decide) (xo_0 J ad _) rfl rfl ⟨Nat.le_of_ble_eq_true rfl, Nat.le_of_ble_eq_true rfl⟩ ⟨Nat.le_of_ble_eq_true rfl, Nat.le_of_ble_eq_true rfl⟩ rfl (Nat.le_of_ble_eq_true rfl) dL_act_149 (fun H locs h => ?_)
        refine lv_as (y := acX r x y) ((if_neg (Nat.not_lt.mpr c_138)).symm) ?_
        refine lv_iload hx hb dL_act_152 (lv_at hl 0 rfl) ?_
        refine lv_iload_n hx hb dL_act_154 rfl (lv_at hl 4 rfl) ?_
        refine lv_iconst (v := nI 4) hx hb dL_act_155 (by decide) ?_
        refine lv_ishr hx hb dL_act_156 ?_
        refine lv_iconst (v := nI 3) hx hb dL_act_157 (by decide) ?_
        refine rg_cisd (As := [.int (y >>> ((nI 4) &&& 31)), .int (nI 3)]) (rest := [.int (nI ((acG y))), .int (acX r x y), .int (nI ((lo (x >>> ((nI 4) &&& 31)) 9))), .ref (ad 0)]) X hl.1 h (c_L_low l J z ad G (y >>> ((nI 4) &&& 31)) 3 (by omega) (by omega)) mw_381 mw_382 mw_101 mw_383 pdL_low ⟨Nat.le_of_ble_eq_true rfl, Nat.le_of_ble_eq_true rfl⟩ ⟨Nat.le_of_ble_eq_true rfl, Nat.le_of_ble_eq_true rfl⟩ rfl (Nat.le_of_ble_eq_true rfl) dL_act_158 (fun H locs h => ?_)
        have hlo_158 := lo_lt (v := y >>> ((nI 4) &&& 31)) (m := 3) (by decide)
        refine rg_civ (As := [.int (nI ((lo (x >>> ((nI 4) &&& 31)) 9))), .int (acX r x y), .int (nI ((acG y))), .int (nI ((lo (y >>> ((nI 4) &&& 31)) 3)))]) (rest := []) X hl.1 h (k_X7_petition l J z ad G n hv.2.1 hv.2.2.1 hv.1 r hv.2.2.2.2 (nI ((lo (x >>> ((nI 4) &&& 31)) 9))) (acX r x y) (nI ((acG y))) (nI ((lo (y >>> ((nI 4) &&& 31)) 3)))) mw_411 mw_412 mw_413 mw_2 mw_414 pdX7_petition (by decide) (xo_0 J ad _) rfl rfl ⟨Nat.le_of_ble_eq_true rfl, Nat.le_of_ble_eq_true rfl⟩ ⟨Nat.le_of_ble_eq_true rfl, Nat.le_of_ble_eq_true rfl⟩ rfl (Nat.le_of_ble_eq_true rfl) dL_act_161 (fun r23 G23 H locs q23 h => ?_)
        obtain ⟨ea_161, G23_, hp_161, hv_161, ht_161, har_161⟩ := Hv_act hv ((ptR_hi hI.1.1 (nI ((lo (x >>> ((nI 4) &&& 31)) 9))) (acX r x y) (nI ((acG y))) (nI ((lo (y >>> ((nI 4) &&& 31)) 3)))).cn hv.2.2.2.1) q23
        have h := HG.ph h hz hp_161
        refine lv_as (y := ptA r (nI ((lo (x >>> ((nI 4) &&& 31)) 9))) (acX r x y) (nI ((acG y))) (nI ((lo (y >>> ((nI 4) &&& 31)) 3)))) ea_161 ?_
        have eF : acF r x y = (ptA r (nI ((lo (x >>> ((nI 4) &&& 31)) 9))) (acX r x y) (nI ((acG y))) (nI ((lo (y >>> ((nI 4) &&& 31)) 3))), ptR r (nI ((lo (x >>> ((nI 4) &&& 31)) 9))) (acX r x y) (nI ((acG y))) (nI ((lo (y >>> ((nI 4) &&& 31)) 3)))) := by unfold acF; rw [if_neg (by omega), if_neg (by omega), if_pos (by omega)]
        exact hret (ptA r (nI ((lo (x >>> ((nI 4) &&& 31)) 9))) (acX r x y) (nI ((acG y))) (nI ((lo (y >>> ((nI 4) &&& 31)) 3)))) G23_ _ _ 164 _ (⟨by rw [eF], by rw [eF]; exact hv_161, ht_161, har_161⟩) h dL_act_164
      · rw [nI_leI (by omega) (by omega)] at c_138
        refine lv_bipush (v := nI 6) hx hb dL_act_141 (by decide) ?_
        refine lv_goto (tgt := 152) hx hb dL_act_143 (by decide) ?_
        refine lv_as (y := acX r x y) ((if_pos (Nat.not_le.mp c_138)).symm) ?_
        refine lv_iload hx hb dL_act_152 (lv_at hl 0 rfl) ?_
        refine lv_iload_n hx hb dL_act_154 rfl (lv_at hl 4 rfl) ?_
        refine lv_iconst (v := nI 4) hx hb dL_act_155 (by decide) ?_
        refine lv_ishr hx hb dL_act_156 ?_
        refine lv_iconst (v := nI 3) hx hb dL_act_157 (by decide) ?_
        refine rg_cisd (As := [.int (y >>> ((nI 4) &&& 31)), .int (nI 3)]) (rest := [.int (nI ((acG y))), .int (acX r x y), .int (nI ((lo (x >>> ((nI 4) &&& 31)) 9))), .ref (ad 0)]) X hl.1 h (c_L_low l J z ad G (y >>> ((nI 4) &&& 31)) 3 (by omega) (by omega)) mw_381 mw_382 mw_101 mw_383 pdL_low ⟨Nat.le_of_ble_eq_true rfl, Nat.le_of_ble_eq_true rfl⟩ ⟨Nat.le_of_ble_eq_true rfl, Nat.le_of_ble_eq_true rfl⟩ rfl (Nat.le_of_ble_eq_true rfl) dL_act_158 (fun H locs h => ?_)
        have hlo_158 := lo_lt (v := y >>> ((nI 4) &&& 31)) (m := 3) (by decide)
        refine rg_civ (As := [.int (nI ((lo (x >>> ((nI 4) &&& 31)) 9))), .int (acX r x y), .int (nI ((acG y))), .int (nI ((lo (y >>> ((nI 4) &&& 31)) 3)))]) (rest := []) X hl.1 h (k_X7_petition l J z ad G n hv.2.1 hv.2.2.1 hv.1 r hv.2.2.2.2 (nI ((lo (x >>> ((nI 4) &&& 31)) 9))) (acX r x y) (nI ((acG y))) (nI ((lo (y >>> ((nI 4) &&& 31)) 3)))) mw_411 mw_412 mw_413 mw_2 mw_414 pdX7_petition (by decide) (xo_0 J ad _) rfl rfl ⟨Nat.le_of_ble_eq_true rfl, Nat.le_of_ble_eq_true rfl⟩ ⟨Nat.le_of_ble_eq_true rfl, Nat.le_of_ble_eq_true rfl⟩ rfl (Nat.le_of_ble_eq_true rfl) dL_act_161 (fun r24 G24 H locs q24 h => ?_)
        obtain ⟨ea_161, G24_, hp_161, hv_161, ht_161, har_161⟩ := Hv_act hv ((ptR_hi hI.1.1 (nI ((lo (x >>> ((nI 4) &&& 31)) 9))) (acX r x y) (nI ((acG y))) (nI ((lo (y >>> ((nI 4) &&& 31)) 3)))).cn hv.2.2.2.1) q24
        have h := HG.ph h hz hp_161
        refine lv_as (y := ptA r (nI ((lo (x >>> ((nI 4) &&& 31)) 9))) (acX r x y) (nI ((acG y))) (nI ((lo (y >>> ((nI 4) &&& 31)) 3)))) ea_161 ?_
        have eF : acF r x y = (ptA r (nI ((lo (x >>> ((nI 4) &&& 31)) 9))) (acX r x y) (nI ((acG y))) (nI ((lo (y >>> ((nI 4) &&& 31)) 3))), ptR r (nI ((lo (x >>> ((nI 4) &&& 31)) 9))) (acX r x y) (nI ((acG y))) (nI ((lo (y >>> ((nI 4) &&& 31)) 3)))) := by unfold acF; rw [if_neg (by omega), if_neg (by omega), if_pos (by omega)]
        exact hret (ptA r (nI ((lo (x >>> ((nI 4) &&& 31)) 9))) (acX r x y) (nI ((acG y))) (nI ((lo (y >>> ((nI 4) &&& 31)) 3)))) G24_ _ _ 164 _ (⟨by rw [eF], by rw [eF]; exact hv_161, ht_161, har_161⟩) h dL_act_164
    · refine lv_as (y := nI 4) (congrArg nI e38) ?_
      refine lv_tableIn (off := 89) (tgt := 127) hx hb dL_act_38 (by decide) (by decide) rfl (by decide) ?_
      refine lv_aload_n hx hb dL_act_127 rfl (lv_at hl 2 rfl) ?_
      refine lv_iload_n hx hb dL_act_128 rfl (lv_at hl 1 rfl) ?_
      refine lv_iload_n hx hb dL_act_129 rfl (lv_at hl 4 rfl) ?_
      refine lv_bipush (v := nI 6) hx hb dL_act_130 (by decide) ?_
      refine lv_ishr hx hb dL_act_132 ?_
      refine lv_iconst (v := nI 5) hx hb dL_act_133 (by decide) ?_
      refine rg_cisd (As := [.int (y >>> ((nI 6) &&& 31)), .int (nI 5)]) (rest := [.int (nI ((lo (x >>> ((nI 4) &&& 31)) 9))), .ref (ad 0)]) X hl.1 h (c_L_low l J z ad G (y >>> ((nI 6) &&& 31)) 5 (by omega) (by omega)) mw_381 mw_382 mw_101 mw_383 pdL_low ⟨Nat.le_of_ble_eq_true rfl, Nat.le_of_ble_eq_true rfl⟩ ⟨Nat.le_of_ble_eq_true rfl, Nat.le_of_ble_eq_true rfl⟩ rfl (Nat.le_of_ble_eq_true rfl) dL_act_134 (fun H locs h => ?_)
      have hlo_134 := lo_lt (v := y >>> ((nI 6) &&& 31)) (m := 5) (by decide)
      refine lv_iconst (v := nI 2) hx hb dL_act_137 (by decide) ?_
      refine lv_icmp_le (tgt := 146) hx hb dL_act_138 (by decide) (fun c_138 => ?_) (fun c_138 => ?_)
      · rw [nI_leI (by omega) (by omega)] at c_138
        refine lv_aload_n hx hb dL_act_146 rfl (lv_at hl 2 rfl) ?_
        refine lv_iload_n hx hb dL_act_147 rfl (lv_at hl 1 rfl) ?_
        refine lv_iconst (v := nI 0) hx hb dL_act_148 (by decide) ?_
        refine rg_civd (As := [.int (nI ((lo (x >>> ((nI 4) &&& 31)) 9))), .int (nI 0)]) (rest := [.int (nI ((lo (x >>> ((nI 4) &&& 31)) 9))), .ref (ad 0)]) X hl.1 h (c_X7_drone l J z ad G r hR (nI ((lo (x >>> ((nI 4) &&& 31)) 9))) (nI 0)) mw_176 mw_177 mw_178 mw_2 mw_179 pdX7_drone (by decide) (xo_0 J ad _) rfl rfl ⟨Nat.le_of_ble_eq_true rfl, Nat.le_of_ble_eq_true rfl⟩ ⟨Nat.le_of_ble_eq_true rfl, Nat.le_of_ble_eq_true rfl⟩ rfl (Nat.le_of_ble_eq_true rfl) dL_act_149 (fun H locs h => ?_)
        refine lv_as (y := acX r x y) ((if_neg (Nat.not_lt.mpr c_138)).symm) ?_
        refine lv_iload hx hb dL_act_152 (lv_at hl 0 rfl) ?_
        refine lv_iload_n hx hb dL_act_154 rfl (lv_at hl 4 rfl) ?_
        refine lv_iconst (v := nI 4) hx hb dL_act_155 (by decide) ?_
        refine lv_ishr hx hb dL_act_156 ?_
        refine lv_iconst (v := nI 3) hx hb dL_act_157 (by decide) ?_
        refine rg_cisd (As := [.int (y >>> ((nI 4) &&& 31)), .int (nI 3)]) (rest := [.int (nI ((acG y))), .int (acX r x y), .int (nI ((lo (x >>> ((nI 4) &&& 31)) 9))), .ref (ad 0)]) X hl.1 h (c_L_low l J z ad G (y >>> ((nI 4) &&& 31)) 3 (by omega) (by omega)) mw_381 mw_382 mw_101 mw_383 pdL_low ⟨Nat.le_of_ble_eq_true rfl, Nat.le_of_ble_eq_true rfl⟩ ⟨Nat.le_of_ble_eq_true rfl, Nat.le_of_ble_eq_true rfl⟩ rfl (Nat.le_of_ble_eq_true rfl) dL_act_158 (fun H locs h => ?_)
        have hlo_158 := lo_lt (v := y >>> ((nI 4) &&& 31)) (m := 3) (by decide)
        refine rg_civ (As := [.int (nI ((lo (x >>> ((nI 4) &&& 31)) 9))), .int (acX r x y), .int (nI ((acG y))), .int (nI ((lo (y >>> ((nI 4) &&& 31)) 3)))]) (rest := []) X hl.1 h (k_X7_petition l J z ad G n hv.2.1 hv.2.2.1 hv.1 r hv.2.2.2.2 (nI ((lo (x >>> ((nI 4) &&& 31)) 9))) (acX r x y) (nI ((acG y))) (nI ((lo (y >>> ((nI 4) &&& 31)) 3)))) mw_411 mw_412 mw_413 mw_2 mw_414 pdX7_petition (by decide) (xo_0 J ad _) rfl rfl ⟨Nat.le_of_ble_eq_true rfl, Nat.le_of_ble_eq_true rfl⟩ ⟨Nat.le_of_ble_eq_true rfl, Nat.le_of_ble_eq_true rfl⟩ rfl (Nat.le_of_ble_eq_true rfl) dL_act_161 (fun r25 G25 H locs q25 h => ?_)
        obtain ⟨ea_161, G25_, hp_161, hv_161, ht_161, har_161⟩ := Hv_act hv ((ptR_hi hI.1.1 (nI ((lo (x >>> ((nI 4) &&& 31)) 9))) (acX r x y) (nI ((acG y))) (nI ((lo (y >>> ((nI 4) &&& 31)) 3)))).cn hv.2.2.2.1) q25
        have h := HG.ph h hz hp_161
        refine lv_as (y := ptA r (nI ((lo (x >>> ((nI 4) &&& 31)) 9))) (acX r x y) (nI ((acG y))) (nI ((lo (y >>> ((nI 4) &&& 31)) 3)))) ea_161 ?_
        have eF : acF r x y = (ptA r (nI ((lo (x >>> ((nI 4) &&& 31)) 9))) (acX r x y) (nI ((acG y))) (nI ((lo (y >>> ((nI 4) &&& 31)) 3))), ptR r (nI ((lo (x >>> ((nI 4) &&& 31)) 9))) (acX r x y) (nI ((acG y))) (nI ((lo (y >>> ((nI 4) &&& 31)) 3)))) := by unfold acF; rw [if_neg (by omega), if_neg (by omega), if_pos (by omega)]
        exact hret (ptA r (nI ((lo (x >>> ((nI 4) &&& 31)) 9))) (acX r x y) (nI ((acG y))) (nI ((lo (y >>> ((nI 4) &&& 31)) 3)))) G25_ _ _ 164 _ (⟨by rw [eF], by rw [eF]; exact hv_161, ht_161, har_161⟩) h dL_act_164
      · rw [nI_leI (by omega) (by omega)] at c_138
        refine lv_bipush (v := nI 6) hx hb dL_act_141 (by decide) ?_
        refine lv_goto (tgt := 152) hx hb dL_act_143 (by decide) ?_
        refine lv_as (y := acX r x y) ((if_pos (Nat.not_le.mp c_138)).symm) ?_
        refine lv_iload hx hb dL_act_152 (lv_at hl 0 rfl) ?_
        refine lv_iload_n hx hb dL_act_154 rfl (lv_at hl 4 rfl) ?_
        refine lv_iconst (v := nI 4) hx hb dL_act_155 (by decide) ?_
        refine lv_ishr hx hb dL_act_156 ?_
        refine lv_iconst (v := nI 3) hx hb dL_act_157 (by decide) ?_
        refine rg_cisd (As := [.int (y >>> ((nI 4) &&& 31)), .int (nI 3)]) (rest := [.int (nI ((acG y))), .int (acX r x y), .int (nI ((lo (x >>> ((nI 4) &&& 31)) 9))), .ref (ad 0)]) X hl.1 h (c_L_low l J z ad G (y >>> ((nI 4) &&& 31)) 3 (by omega) (by omega)) mw_381 mw_382 mw_101 mw_383 pdL_low ⟨Nat.le_of_ble_eq_true rfl, Nat.le_of_ble_eq_true rfl⟩ ⟨Nat.le_of_ble_eq_true rfl, Nat.le_of_ble_eq_true rfl⟩ rfl (Nat.le_of_ble_eq_true rfl) dL_act_158 (fun H locs h => ?_)
        have hlo_158 := lo_lt (v := y >>> ((nI 4) &&& 31)) (m := 3) (by decide)
        refine rg_civ (As := [.int (nI ((lo (x >>> ((nI 4) &&& 31)) 9))), .int (acX r x y), .int (nI ((acG y))), .int (nI ((lo (y >>> ((nI 4) &&& 31)) 3)))]) (rest := []) X hl.1 h (k_X7_petition l J z ad G n hv.2.1 hv.2.2.1 hv.1 r hv.2.2.2.2 (nI ((lo (x >>> ((nI 4) &&& 31)) 9))) (acX r x y) (nI ((acG y))) (nI ((lo (y >>> ((nI 4) &&& 31)) 3)))) mw_411 mw_412 mw_413 mw_2 mw_414 pdX7_petition (by decide) (xo_0 J ad _) rfl rfl ⟨Nat.le_of_ble_eq_true rfl, Nat.le_of_ble_eq_true rfl⟩ ⟨Nat.le_of_ble_eq_true rfl, Nat.le_of_ble_eq_true rfl⟩ rfl (Nat.le_of_ble_eq_true rfl) dL_act_161 (fun r26 G26 H locs q26 h => ?_)
        obtain ⟨ea_161, G26_, hp_161, hv_161, ht_161, har_161⟩ := Hv_act hv ((ptR_hi hI.1.1 (nI ((lo (x >>> ((nI 4) &&& 31)) 9))) (acX r x y) (nI ((acG y))) (nI ((lo (y >>> ((nI 4) &&& 31)) 3)))).cn hv.2.2.2.1) q26
        have h := HG.ph h hz hp_161
        refine lv_as (y := ptA r (nI ((lo (x >>> ((nI 4) &&& 31)) 9))) (acX r x y) (nI ((acG y))) (nI ((lo (y >>> ((nI 4) &&& 31)) 3)))) ea_161 ?_
        have eF : acF r x y = (ptA r (nI ((lo (x >>> ((nI 4) &&& 31)) 9))) (acX r x y) (nI ((acG y))) (nI ((lo (y >>> ((nI 4) &&& 31)) 3))), ptR r (nI ((lo (x >>> ((nI 4) &&& 31)) 9))) (acX r x y) (nI ((acG y))) (nI ((lo (y >>> ((nI 4) &&& 31)) 3)))) := by unfold acF; rw [if_neg (by omega), if_neg (by omega), if_pos (by omega)]
        exact hret (ptA r (nI ((lo (x >>> ((nI 4) &&& 31)) 9))) (acX r x y) (nI ((acG y))) (nI ((lo (y >>> ((nI 4) &&& 31)) 3)))) G26_ _ _ 164 _ (⟨by rw [eF], by rw [eF]; exact hv_161, ht_161, har_161⟩) h dL_act_164
    · refine lv_as (y := nI 5) (congrArg nI e38) ?_
      refine lv_tableIn (off := 89) (tgt := 127) hx hb dL_act_38 (by decide) (by decide) rfl (by decide) ?_
      refine lv_aload_n hx hb dL_act_127 rfl (lv_at hl 2 rfl) ?_
      refine lv_iload_n hx hb dL_act_128 rfl (lv_at hl 1 rfl) ?_
      refine lv_iload_n hx hb dL_act_129 rfl (lv_at hl 4 rfl) ?_
      refine lv_bipush (v := nI 6) hx hb dL_act_130 (by decide) ?_
      refine lv_ishr hx hb dL_act_132 ?_
      refine lv_iconst (v := nI 5) hx hb dL_act_133 (by decide) ?_
      refine rg_cisd (As := [.int (y >>> ((nI 6) &&& 31)), .int (nI 5)]) (rest := [.int (nI ((lo (x >>> ((nI 4) &&& 31)) 9))), .ref (ad 0)]) X hl.1 h (c_L_low l J z ad G (y >>> ((nI 6) &&& 31)) 5 (by omega) (by omega)) mw_381 mw_382 mw_101 mw_383 pdL_low ⟨Nat.le_of_ble_eq_true rfl, Nat.le_of_ble_eq_true rfl⟩ ⟨Nat.le_of_ble_eq_true rfl, Nat.le_of_ble_eq_true rfl⟩ rfl (Nat.le_of_ble_eq_true rfl) dL_act_134 (fun H locs h => ?_)
      have hlo_134 := lo_lt (v := y >>> ((nI 6) &&& 31)) (m := 5) (by decide)
      refine lv_iconst (v := nI 2) hx hb dL_act_137 (by decide) ?_
      refine lv_icmp_le (tgt := 146) hx hb dL_act_138 (by decide) (fun c_138 => ?_) (fun c_138 => ?_)
      · rw [nI_leI (by omega) (by omega)] at c_138
        refine lv_aload_n hx hb dL_act_146 rfl (lv_at hl 2 rfl) ?_
        refine lv_iload_n hx hb dL_act_147 rfl (lv_at hl 1 rfl) ?_
        refine lv_iconst (v := nI 0) hx hb dL_act_148 (by decide) ?_
        refine rg_civd (As := [.int (nI ((lo (x >>> ((nI 4) &&& 31)) 9))), .int (nI 0)]) (rest := [.int (nI ((lo (x >>> ((nI 4) &&& 31)) 9))), .ref (ad 0)]) X hl.1 h (c_X7_drone l J z ad G r hR (nI ((lo (x >>> ((nI 4) &&& 31)) 9))) (nI 0)) mw_176 mw_177 mw_178 mw_2 mw_179 pdX7_drone (by decide) (xo_0 J ad _) rfl rfl ⟨Nat.le_of_ble_eq_true rfl, Nat.le_of_ble_eq_true rfl⟩ ⟨Nat.le_of_ble_eq_true rfl, Nat.le_of_ble_eq_true rfl⟩ rfl (Nat.le_of_ble_eq_true rfl) dL_act_149 (fun H locs h => ?_)
        refine lv_as (y := acX r x y) ((if_neg (Nat.not_lt.mpr c_138)).symm) ?_
        refine lv_iload hx hb dL_act_152 (lv_at hl 0 rfl) ?_
        refine lv_iload_n hx hb dL_act_154 rfl (lv_at hl 4 rfl) ?_
        refine lv_iconst (v := nI 4) hx hb dL_act_155 (by decide) ?_
        refine lv_ishr hx hb dL_act_156 ?_
        refine lv_iconst (v := nI 3) hx hb dL_act_157 (by decide) ?_
        refine rg_cisd (As := [.int (y >>> ((nI 4) &&& 31)), .int (nI 3)]) (rest := [.int (nI ((acG y))), .int (acX r x y), .int (nI ((lo (x >>> ((nI 4) &&& 31)) 9))), .ref (ad 0)]) X hl.1 h (c_L_low l J z ad G (y >>> ((nI 4) &&& 31)) 3 (by omega) (by omega)) mw_381 mw_382 mw_101 mw_383 pdL_low ⟨Nat.le_of_ble_eq_true rfl, Nat.le_of_ble_eq_true rfl⟩ ⟨Nat.le_of_ble_eq_true rfl, Nat.le_of_ble_eq_true rfl⟩ rfl (Nat.le_of_ble_eq_true rfl) dL_act_158 (fun H locs h => ?_)
        have hlo_158 := lo_lt (v := y >>> ((nI 4) &&& 31)) (m := 3) (by decide)
        refine rg_civ (As := [.int (nI ((lo (x >>> ((nI 4) &&& 31)) 9))), .int (acX r x y), .int (nI ((acG y))), .int (nI ((lo (y >>> ((nI 4) &&& 31)) 3)))]) (rest := []) X hl.1 h (k_X7_petition l J z ad G n hv.2.1 hv.2.2.1 hv.1 r hv.2.2.2.2 (nI ((lo (x >>> ((nI 4) &&& 31)) 9))) (acX r x y) (nI ((acG y))) (nI ((lo (y >>> ((nI 4) &&& 31)) 3)))) mw_411 mw_412 mw_413 mw_2 mw_414 pdX7_petition (by decide) (xo_0 J ad _) rfl rfl ⟨Nat.le_of_ble_eq_true rfl, Nat.le_of_ble_eq_true rfl⟩ ⟨Nat.le_of_ble_eq_true rfl, Nat.le_of_ble_eq_true rfl⟩ rfl (Nat.le_of_ble_eq_true rfl) dL_act_161 (fun r27 G27 H locs q27 h => ?_)
        obtain ⟨ea_161, G27_, hp_161, hv_161, ht_161, har_161⟩ := Hv_act hv ((ptR_hi hI.1.1 (nI ((lo (x >>> ((nI 4) &&& 31)) 9))) (acX r x y) (nI ((acG y))) (nI ((lo (y >>> ((nI 4) &&& 31)) 3)))).cn hv.2.2.2.1) q27
        have h := HG.ph h hz hp_161
        refine lv_as (y := ptA r (nI ((lo (x >>> ((nI 4) &&& 31)) 9))) (acX r x y) (nI ((acG y))) (nI ((lo (y >>> ((nI 4) &&& 31)) 3)))) ea_161 ?_
        have eF : acF r x y = (ptA r (nI ((lo (x >>> ((nI 4) &&& 31)) 9))) (acX r x y) (nI ((acG y))) (nI ((lo (y >>> ((nI 4) &&& 31)) 3))), ptR r (nI ((lo (x >>> ((nI 4) &&& 31)) 9))) (acX r x y) (nI ((acG y))) (nI ((lo (y >>> ((nI 4) &&& 31)) 3)))) := by unfold acF; rw [if_neg (by omega), if_neg (by omega), if_pos (by omega)]
        exact hret (ptA r (nI ((lo (x >>> ((nI 4) &&& 31)) 9))) (acX r x y) (nI ((acG y))) (nI ((lo (y >>> ((nI 4) &&& 31)) 3)))) G27_ _ _ 164 _ (⟨by rw [eF], by rw [eF]; exact hv_161, ht_161, har_161⟩) h dL_act_164
      · rw [nI_leI (by omega) (by omega)] at c_138
        refine lv_bipush (v := nI 6) hx hb dL_act_141 (by decide) ?_
        refine lv_goto (tgt := 152) hx hb dL_act_143 (by decide) ?_
        refine lv_as (y := acX r x y) ((if_pos (Nat.not_le.mp c_138)).symm) ?_
        refine lv_iload hx hb dL_act_152 (lv_at hl 0 rfl) ?_
        refine lv_iload_n hx hb dL_act_154 rfl (lv_at hl 4 rfl) ?_
        refine lv_iconst (v := nI 4) hx hb dL_act_155 (by decide) ?_
        refine lv_ishr hx hb dL_act_156 ?_
        refine lv_iconst (v := nI 3) hx hb dL_act_157 (by decide) ?_
        refine rg_cisd (As := [.int (y >>> ((nI 4) &&& 31)), .int (nI 3)]) (rest := [.int (nI ((acG y))), .int (acX r x y), .int (nI ((lo (x >>> ((nI 4) &&& 31)) 9))), .ref (ad 0)]) X hl.1 h (c_L_low l J z ad G (y >>> ((nI 4) &&& 31)) 3 (by omega) (by omega)) mw_381 mw_382 mw_101 mw_383 pdL_low ⟨Nat.le_of_ble_eq_true rfl, Nat.le_of_ble_eq_true rfl⟩ ⟨Nat.le_of_ble_eq_true rfl, Nat.le_of_ble_eq_true rfl⟩ rfl (Nat.le_of_ble_eq_true rfl) dL_act_158 (fun H locs h => ?_)
        have hlo_158 := lo_lt (v := y >>> ((nI 4) &&& 31)) (m := 3) (by decide)
        refine rg_civ (As := [.int (nI ((lo (x >>> ((nI 4) &&& 31)) 9))), .int (acX r x y), .int (nI ((acG y))), .int (nI ((lo (y >>> ((nI 4) &&& 31)) 3)))]) (rest := []) X hl.1 h (k_X7_petition l J z ad G n hv.2.1 hv.2.2.1 hv.1 r hv.2.2.2.2 (nI ((lo (x >>> ((nI 4) &&& 31)) 9))) (acX r x y) (nI ((acG y))) (nI ((lo (y >>> ((nI 4) &&& 31)) 3)))) mw_411 mw_412 mw_413 mw_2 mw_414 pdX7_petition (by decide) (xo_0 J ad _) rfl rfl ⟨Nat.le_of_ble_eq_true rfl, Nat.le_of_ble_eq_true rfl⟩ ⟨Nat.le_of_ble_eq_true rfl, Nat.le_of_ble_eq_true rfl⟩ rfl (Nat.le_of_ble_eq_true rfl) dL_act_161 (fun r28 G28 H locs q28 h => ?_)
        obtain ⟨ea_161, G28_, hp_161, hv_161, ht_161, har_161⟩ := Hv_act hv ((ptR_hi hI.1.1 (nI ((lo (x >>> ((nI 4) &&& 31)) 9))) (acX r x y) (nI ((acG y))) (nI ((lo (y >>> ((nI 4) &&& 31)) 3)))).cn hv.2.2.2.1) q28
        have h := HG.ph h hz hp_161
        refine lv_as (y := ptA r (nI ((lo (x >>> ((nI 4) &&& 31)) 9))) (acX r x y) (nI ((acG y))) (nI ((lo (y >>> ((nI 4) &&& 31)) 3)))) ea_161 ?_
        have eF : acF r x y = (ptA r (nI ((lo (x >>> ((nI 4) &&& 31)) 9))) (acX r x y) (nI ((acG y))) (nI ((lo (y >>> ((nI 4) &&& 31)) 3))), ptR r (nI ((lo (x >>> ((nI 4) &&& 31)) 9))) (acX r x y) (nI ((acG y))) (nI ((lo (y >>> ((nI 4) &&& 31)) 3)))) := by unfold acF; rw [if_neg (by omega), if_neg (by omega), if_pos (by omega)]
        exact hret (ptA r (nI ((lo (x >>> ((nI 4) &&& 31)) 9))) (acX r x y) (nI ((acG y))) (nI ((lo (y >>> ((nI 4) &&& 31)) 3)))) G28_ _ _ 164 _ (⟨by rw [eF], by rw [eF]; exact hv_161, ht_161, har_161⟩) h dL_act_164
    · refine lv_as (y := nI 6) (congrArg nI e38) ?_
      refine lv_tableIn (off := 127) (tgt := 165) hx hb dL_act_38 (by decide) (by decide) rfl (by decide) ?_
      refine lv_aload_n hx hb dL_act_165 rfl (lv_at hl 2 rfl) ?_
      refine lv_iload_n hx hb dL_act_166 rfl (lv_at hl 1 rfl) ?_
      refine lv_iload_n hx hb dL_act_167 rfl (lv_at hl 4 rfl) ?_
      refine lv_bipush (v := nI 6) hx hb dL_act_168 (by decide) ?_
      refine rg_cisd (As := [.int y, .int (nI 6)]) (rest := [.int (nI ((lo (x >>> ((nI 4) &&& 31)) 9))), .ref (ad 0)]) X hl.1 h (c_L_low l J z ad G y 6 (by omega) (by omega)) mw_381 mw_382 mw_101 mw_383 pdL_low ⟨Nat.le_of_ble_eq_true rfl, Nat.le_of_ble_eq_true rfl⟩ ⟨Nat.le_of_ble_eq_true rfl, Nat.le_of_ble_eq_true rfl⟩ rfl (Nat.le_of_ble_eq_true rfl) dL_act_170 (fun H locs h => ?_)
      have hlo_170 := lo_lt (v := y) (m := 6) (by decide)
      refine rg_civ (As := [.int (nI ((lo (x >>> ((nI 4) &&& 31)) 9))), .int (nI ((lo y 6)))]) (rest := []) X hl.1 h (k_X7_second l J z ad G n hv.2.1 hv.2.2.1 hv.1 r hv.2.2.2.2 (nI ((lo (x >>> ((nI 4) &&& 31)) 9))) (nI ((lo y 6)))) mw_428 mw_429 mw_430 mw_2 mw_431 pdX7_second (by decide) (xo_0 J ad _) rfl rfl ⟨Nat.le_of_ble_eq_true rfl, Nat.le_of_ble_eq_true rfl⟩ ⟨Nat.le_of_ble_eq_true rfl, Nat.le_of_ble_eq_true rfl⟩ rfl (Nat.le_of_ble_eq_true rfl) dL_act_173 (fun r29 G29 H locs q29 h => ?_)
      obtain ⟨ea_173, G29_, hp_173, hv_173, ht_173, har_173⟩ := Hv_act hv ((scR_hi hI.1.1 (nI ((lo (x >>> ((nI 4) &&& 31)) 9))) (nI ((lo y 6)))).cn hv.2.2.2.1) q29
      have h := HG.ph h hz hp_173
      refine lv_as (y := scA r (nI ((lo (x >>> ((nI 4) &&& 31)) 9))) (nI ((lo y 6)))) ea_173 ?_
      have eF : acF r x y = (scA r (nI ((lo (x >>> ((nI 4) &&& 31)) 9))) (nI ((lo y 6))), scR r (nI ((lo (x >>> ((nI 4) &&& 31)) 9))) (nI ((lo y 6)))) := by unfold acF; rw [if_neg (by omega), if_neg (by omega), if_neg (by omega), if_pos (by omega)]
      exact hret (scA r (nI ((lo (x >>> ((nI 4) &&& 31)) 9))) (nI ((lo y 6)))) G29_ _ _ 176 _ (⟨by rw [eF], by rw [eF]; exact hv_173, ht_173, har_173⟩) h dL_act_176
    · refine lv_as (y := nI 7) (congrArg nI e38) ?_
      refine lv_tableIn (off := 127) (tgt := 165) hx hb dL_act_38 (by decide) (by decide) rfl (by decide) ?_
      refine lv_aload_n hx hb dL_act_165 rfl (lv_at hl 2 rfl) ?_
      refine lv_iload_n hx hb dL_act_166 rfl (lv_at hl 1 rfl) ?_
      refine lv_iload_n hx hb dL_act_167 rfl (lv_at hl 4 rfl) ?_
      refine lv_bipush (v := nI 6) hx hb dL_act_168 (by decide) ?_
      refine rg_cisd (As := [.int y, .int (nI 6)]) (rest := [.int (nI ((lo (x >>> ((nI 4) &&& 31)) 9))), .ref (ad 0)]) X hl.1 h (c_L_low l J z ad G y 6 (by omega) (by omega)) mw_381 mw_382 mw_101 mw_383 pdL_low ⟨Nat.le_of_ble_eq_true rfl, Nat.le_of_ble_eq_true rfl⟩ ⟨Nat.le_of_ble_eq_true rfl, Nat.le_of_ble_eq_true rfl⟩ rfl (Nat.le_of_ble_eq_true rfl) dL_act_170 (fun H locs h => ?_)
      have hlo_170 := lo_lt (v := y) (m := 6) (by decide)
      refine rg_civ (As := [.int (nI ((lo (x >>> ((nI 4) &&& 31)) 9))), .int (nI ((lo y 6)))]) (rest := []) X hl.1 h (k_X7_second l J z ad G n hv.2.1 hv.2.2.1 hv.1 r hv.2.2.2.2 (nI ((lo (x >>> ((nI 4) &&& 31)) 9))) (nI ((lo y 6)))) mw_428 mw_429 mw_430 mw_2 mw_431 pdX7_second (by decide) (xo_0 J ad _) rfl rfl ⟨Nat.le_of_ble_eq_true rfl, Nat.le_of_ble_eq_true rfl⟩ ⟨Nat.le_of_ble_eq_true rfl, Nat.le_of_ble_eq_true rfl⟩ rfl (Nat.le_of_ble_eq_true rfl) dL_act_173 (fun r30 G30 H locs q30 h => ?_)
      obtain ⟨ea_173, G30_, hp_173, hv_173, ht_173, har_173⟩ := Hv_act hv ((scR_hi hI.1.1 (nI ((lo (x >>> ((nI 4) &&& 31)) 9))) (nI ((lo y 6)))).cn hv.2.2.2.1) q30
      have h := HG.ph h hz hp_173
      refine lv_as (y := scA r (nI ((lo (x >>> ((nI 4) &&& 31)) 9))) (nI ((lo y 6)))) ea_173 ?_
      have eF : acF r x y = (scA r (nI ((lo (x >>> ((nI 4) &&& 31)) 9))) (nI ((lo y 6))), scR r (nI ((lo (x >>> ((nI 4) &&& 31)) 9))) (nI ((lo y 6)))) := by unfold acF; rw [if_neg (by omega), if_neg (by omega), if_neg (by omega), if_pos (by omega)]
      exact hret (scA r (nI ((lo (x >>> ((nI 4) &&& 31)) 9))) (nI ((lo y 6)))) G30_ _ _ 176 _ (⟨by rw [eF], by rw [eF]; exact hv_173, ht_173, har_173⟩) h dL_act_176
    · refine lv_as (y := nI 8) (congrArg nI e38) ?_
      refine lv_tableIn (off := 127) (tgt := 165) hx hb dL_act_38 (by decide) (by decide) rfl (by decide) ?_
      refine lv_aload_n hx hb dL_act_165 rfl (lv_at hl 2 rfl) ?_
      refine lv_iload_n hx hb dL_act_166 rfl (lv_at hl 1 rfl) ?_
      refine lv_iload_n hx hb dL_act_167 rfl (lv_at hl 4 rfl) ?_
      refine lv_bipush (v := nI 6) hx hb dL_act_168 (by decide) ?_
      refine rg_cisd (As := [.int y, .int (nI 6)]) (rest := [.int (nI ((lo (x >>> ((nI 4) &&& 31)) 9))), .ref (ad 0)]) X hl.1 h (c_L_low l J z ad G y 6 (by omega) (by omega)) mw_381 mw_382 mw_101 mw_383 pdL_low ⟨Nat.le_of_ble_eq_true rfl, Nat.le_of_ble_eq_true rfl⟩ ⟨Nat.le_of_ble_eq_true rfl, Nat.le_of_ble_eq_true rfl⟩ rfl (Nat.le_of_ble_eq_true rfl) dL_act_170 (fun H locs h => ?_)
      have hlo_170 := lo_lt (v := y) (m := 6) (by decide)
      refine rg_civ (As := [.int (nI ((lo (x >>> ((nI 4) &&& 31)) 9))), .int (nI ((lo y 6)))]) (rest := []) X hl.1 h (k_X7_second l J z ad G n hv.2.1 hv.2.2.1 hv.1 r hv.2.2.2.2 (nI ((lo (x >>> ((nI 4) &&& 31)) 9))) (nI ((lo y 6)))) mw_428 mw_429 mw_430 mw_2 mw_431 pdX7_second (by decide) (xo_0 J ad _) rfl rfl ⟨Nat.le_of_ble_eq_true rfl, Nat.le_of_ble_eq_true rfl⟩ ⟨Nat.le_of_ble_eq_true rfl, Nat.le_of_ble_eq_true rfl⟩ rfl (Nat.le_of_ble_eq_true rfl) dL_act_173 (fun r31 G31 H locs q31 h => ?_)
      obtain ⟨ea_173, G31_, hp_173, hv_173, ht_173, har_173⟩ := Hv_act hv ((scR_hi hI.1.1 (nI ((lo (x >>> ((nI 4) &&& 31)) 9))) (nI ((lo y 6)))).cn hv.2.2.2.1) q31
      have h := HG.ph h hz hp_173
      refine lv_as (y := scA r (nI ((lo (x >>> ((nI 4) &&& 31)) 9))) (nI ((lo y 6)))) ea_173 ?_
      have eF : acF r x y = (scA r (nI ((lo (x >>> ((nI 4) &&& 31)) 9))) (nI ((lo y 6))), scR r (nI ((lo (x >>> ((nI 4) &&& 31)) 9))) (nI ((lo y 6)))) := by unfold acF; rw [if_neg (by omega), if_neg (by omega), if_neg (by omega), if_pos (by omega)]
      exact hret (scA r (nI ((lo (x >>> ((nI 4) &&& 31)) 9))) (nI ((lo y 6)))) G31_ _ _ 176 _ (⟨by rw [eF], by rw [eF]; exact hv_173, ht_173, har_173⟩) h dL_act_176
    · refine lv_as (y := nI 9) (congrArg nI e38) ?_
      refine lv_tableIn (off := 127) (tgt := 165) hx hb dL_act_38 (by decide) (by decide) rfl (by decide) ?_
      refine lv_aload_n hx hb dL_act_165 rfl (lv_at hl 2 rfl) ?_
      refine lv_iload_n hx hb dL_act_166 rfl (lv_at hl 1 rfl) ?_
      refine lv_iload_n hx hb dL_act_167 rfl (lv_at hl 4 rfl) ?_
      refine lv_bipush (v := nI 6) hx hb dL_act_168 (by decide) ?_
      refine rg_cisd (As := [.int y, .int (nI 6)]) (rest := [.int (nI ((lo (x >>> ((nI 4) &&& 31)) 9))), .ref (ad 0)]) X hl.1 h (c_L_low l J z ad G y 6 (by omega) (by omega)) mw_381 mw_382 mw_101 mw_383 pdL_low ⟨Nat.le_of_ble_eq_true rfl, Nat.le_of_ble_eq_true rfl⟩ ⟨Nat.le_of_ble_eq_true rfl, Nat.le_of_ble_eq_true rfl⟩ rfl (Nat.le_of_ble_eq_true rfl) dL_act_170 (fun H locs h => ?_)
      have hlo_170 := lo_lt (v := y) (m := 6) (by decide)
      refine rg_civ (As := [.int (nI ((lo (x >>> ((nI 4) &&& 31)) 9))), .int (nI ((lo y 6)))]) (rest := []) X hl.1 h (k_X7_second l J z ad G n hv.2.1 hv.2.2.1 hv.1 r hv.2.2.2.2 (nI ((lo (x >>> ((nI 4) &&& 31)) 9))) (nI ((lo y 6)))) mw_428 mw_429 mw_430 mw_2 mw_431 pdX7_second (by decide) (xo_0 J ad _) rfl rfl ⟨Nat.le_of_ble_eq_true rfl, Nat.le_of_ble_eq_true rfl⟩ ⟨Nat.le_of_ble_eq_true rfl, Nat.le_of_ble_eq_true rfl⟩ rfl (Nat.le_of_ble_eq_true rfl) dL_act_173 (fun r32 G32 H locs q32 h => ?_)
      obtain ⟨ea_173, G32_, hp_173, hv_173, ht_173, har_173⟩ := Hv_act hv ((scR_hi hI.1.1 (nI ((lo (x >>> ((nI 4) &&& 31)) 9))) (nI ((lo y 6)))).cn hv.2.2.2.1) q32
      have h := HG.ph h hz hp_173
      refine lv_as (y := scA r (nI ((lo (x >>> ((nI 4) &&& 31)) 9))) (nI ((lo y 6)))) ea_173 ?_
      have eF : acF r x y = (scA r (nI ((lo (x >>> ((nI 4) &&& 31)) 9))) (nI ((lo y 6))), scR r (nI ((lo (x >>> ((nI 4) &&& 31)) 9))) (nI ((lo y 6)))) := by unfold acF; rw [if_neg (by omega), if_neg (by omega), if_neg (by omega), if_pos (by omega)]
      exact hret (scA r (nI ((lo (x >>> ((nI 4) &&& 31)) 9))) (nI ((lo y 6)))) G32_ _ _ 176 _ (⟨by rw [eF], by rw [eF]; exact hv_173, ht_173, har_173⟩) h dL_act_176
    · refine lv_as (y := nI 10) (congrArg nI e38) ?_
      refine lv_tableIn (off := 139) (tgt := 177) hx hb dL_act_38 (by decide) (by decide) rfl (by decide) ?_
      refine lv_iload_n hx hb dL_act_177 rfl (lv_at hl 4 rfl) ?_
      refine lv_iconst (v := nI 2) hx hb dL_act_178 (by decide) ?_
      refine rg_cisd (As := [.int y, .int (nI 2)]) (rest := []) X hl.1 h (c_L_low l J z ad G y 2 (by omega) (by omega)) mw_381 mw_382 mw_101 mw_383 pdL_low ⟨Nat.le_of_ble_eq_true rfl, Nat.le_of_ble_eq_true rfl⟩ ⟨Nat.le_of_ble_eq_true rfl, Nat.le_of_ble_eq_true rfl⟩ rfl (Nat.le_of_ble_eq_true rfl) dL_act_179 (fun H locs h => ?_)
      have hlo_179 := lo_lt (v := y) (m := 2) (by decide)
      refine lv_if_ne (tgt := 201) hx hb dL_act_182 (by decide) (fun c_182 => ?_) (fun c_182 => ?_)
      · rw [nz_eq (by omega)] at c_182
        refine lv_aload_n hx hb dL_act_201 rfl (lv_at hl 2 rfl) ?_
        refine lv_iconst (v := nI 1) hx hb dL_act_202 (by decide) ?_
        refine lv_iconst (v := nI 1) hx hb dL_act_203 (by decide) ?_
        refine lv_iload_n hx hb dL_act_204 rfl (lv_at hl 4 rfl) ?_
        refine lv_iconst (v := nI 1) hx hb dL_act_205 (by decide) ?_
        refine lv_ishr hx hb dL_act_206 ?_
        refine lv_bipush (v := nI 8) hx hb dL_act_207 (by decide) ?_
        refine rg_cisd (As := [.int (y >>> ((nI 1) &&& 31)), .int (nI 8)]) (rest := [.int (nI 1), .int (nI 1), .ref (ad 0)]) X hl.1 h (c_L_low l J z ad G (y >>> ((nI 1) &&& 31)) 8 (by omega) (by omega)) mw_381 mw_382 mw_101 mw_383 pdL_low ⟨Nat.le_of_ble_eq_true rfl, Nat.le_of_ble_eq_true rfl⟩ ⟨Nat.le_of_ble_eq_true rfl, Nat.le_of_ble_eq_true rfl⟩ rfl (Nat.le_of_ble_eq_true rfl) dL_act_209 (fun H locs h => ?_)
        have hlo_209 := lo_lt (v := y >>> ((nI 1) &&& 31)) (m := 8) (by decide)
        refine lv_iadd hx hb dL_act_212 ?_
        refine lv_as (y := nI ((lo (y >>> ((nI 1) &&& 31)) 8) + 1)) (nI_addc (by omega)) ?_
        refine rg_civ (As := [.int (nI 1), .int (nI ((lo (y >>> ((nI 1) &&& 31)) 8) + 1))]) (rest := []) X hl.1 h (k_X7_set l J z ad G n hv.2.1 hv.2.2.1 hv.1 r hv.2.2.2.2 (nI 1) (nI ((lo (y >>> ((nI 1) &&& 31)) 8) + 1))) mw_438 mw_439 mw_440 mw_2 mw_441 pdX7_set (by decide) (xo_0 J ad _) rfl rfl ⟨Nat.le_of_ble_eq_true rfl, Nat.le_of_ble_eq_true rfl⟩ ⟨Nat.le_of_ble_eq_true rfl, Nat.le_of_ble_eq_true rfl⟩ rfl (Nat.le_of_ble_eq_true rfl) dL_act_213 (fun r33 G33 H locs q33 h => ?_)
        obtain ⟨ea_213, G33_, hp_213, hv_213, ht_213, har_213⟩ := Hv_act hv ((stR_hi hI.1.1 (nI 1) (nI ((lo (y >>> ((nI 1) &&& 31)) 8) + 1))).cn hv.2.2.2.1) q33
        have h := HG.ph h hz hp_213
        refine lv_as (y := stA r (nI 1) (nI ((lo (y >>> ((nI 1) &&& 31)) 8) + 1))) ea_213 ?_
        have eF : acF r x y = (stA r (nI 1) (nI ((lo (y >>> ((nI 1) &&& 31)) 8) + 1)), stR r (nI 1) (nI ((lo (y >>> ((nI 1) &&& 31)) 8) + 1))) := by unfold acF; rw [if_neg (by omega), if_neg (by omega), if_neg (by omega), if_neg (by omega), if_pos e38, if_neg c_182]
        exact hret (stA r (nI 1) (nI ((lo (y >>> ((nI 1) &&& 31)) 8) + 1))) G33_ _ _ 216 _ (⟨by rw [eF], by rw [eF]; exact hv_213, ht_213, har_213⟩) h dL_act_216
      · rw [nz_eq (by omega)] at c_182
        refine lv_aload_n hx hb dL_act_185 rfl (lv_at hl 2 rfl) ?_
        refine lv_iconst (v := nI 0) hx hb dL_act_186 (by decide) ?_
        refine lv_iload_n hx hb dL_act_187 rfl (lv_at hl 4 rfl) ?_
        refine lv_iconst (v := nI 1) hx hb dL_act_188 (by decide) ?_
        refine lv_ishr hx hb dL_act_189 ?_
        refine lv_bipush (v := nI 12) hx hb dL_act_190 (by decide) ?_
        refine rg_cisd (As := [.int (y >>> ((nI 1) &&& 31)), .int (nI 12)]) (rest := [.int (nI 0), .ref (ad 0)]) X hl.1 h (c_L_low l J z ad G (y >>> ((nI 1) &&& 31)) 12 (by omega) (by omega)) mw_381 mw_382 mw_101 mw_383 pdL_low ⟨Nat.le_of_ble_eq_true rfl, Nat.le_of_ble_eq_true rfl⟩ ⟨Nat.le_of_ble_eq_true rfl, Nat.le_of_ble_eq_true rfl⟩ rfl (Nat.le_of_ble_eq_true rfl) dL_act_192 (fun H locs h => ?_)
        have hlo_192 := lo_lt (v := y >>> ((nI 1) &&& 31)) (m := 12) (by decide)
        refine rg_civ (As := [.int (nI 0), .int (nI ((lo (y >>> ((nI 1) &&& 31)) 12)))]) (rest := []) X hl.1 h (k_X7_set l J z ad G n hv.2.1 hv.2.2.1 hv.1 r hv.2.2.2.2 (nI 0) (nI ((lo (y >>> ((nI 1) &&& 31)) 12)))) mw_438 mw_439 mw_440 mw_2 mw_441 pdX7_set (by decide) (xo_0 J ad _) rfl rfl ⟨Nat.le_of_ble_eq_true rfl, Nat.le_of_ble_eq_true rfl⟩ ⟨Nat.le_of_ble_eq_true rfl, Nat.le_of_ble_eq_true rfl⟩ rfl (Nat.le_of_ble_eq_true rfl) dL_act_195 (fun r34 G34 H locs q34 h => ?_)
        obtain ⟨ea_195, G34_, hp_195, hv_195, ht_195, har_195⟩ := Hv_act hv ((stR_hi hI.1.1 (nI 0) (nI ((lo (y >>> ((nI 1) &&& 31)) 12)))).cn hv.2.2.2.1) q34
        have h := HG.ph h hz hp_195
        refine lv_as (y := stA r (nI 0) (nI ((lo (y >>> ((nI 1) &&& 31)) 12)))) ea_195 ?_
        refine lv_goto (tgt := 216) hx hb dL_act_198 (by decide) ?_
        have eF : acF r x y = (stA r (nI 0) (nI ((lo (y >>> ((nI 1) &&& 31)) 12))), stR r (nI 0) (nI ((lo (y >>> ((nI 1) &&& 31)) 12)))) := by unfold acF; rw [if_neg (by omega), if_neg (by omega), if_neg (by omega), if_neg (by omega), if_pos e38, if_pos c_182]
        exact hret (stA r (nI 0) (nI ((lo (y >>> ((nI 1) &&& 31)) 12)))) G34_ _ _ 216 _ (⟨by rw [eF], by rw [eF]; exact hv_195, ht_195, har_195⟩) h dL_act_216
    · refine lv_tableOut (tgt := 217) hx hb dL_act_38 (sw_out (n := 11) (by decide) (fun q => by obtain ⟨d, d1, d2⟩ := q; have := (nI_eq (by omega) (by omega)).mp d2; omega)) (by decide) ?_
      refine lv_aload_n hx hb dL_act_217 rfl (lv_at hl 2 rfl) ?_
      refine lv_iconst (v := nI 1) hx hb dL_act_218 (by decide) ?_
      refine lv_iload_n hx hb dL_act_219 rfl (lv_at hl 4 rfl) ?_
      refine lv_iload_n hx hb dL_act_220 rfl (lv_at hl 4 rfl) ?_
      refine lv_bipush (v := nI 8) hx hb dL_act_221 (by decide) ?_
      refine lv_ishr hx hb dL_act_223 ?_
      refine lv_iconst (v := nI 5) hx hb dL_act_224 (by decide) ?_
      refine rg_cisd (As := [.int (y >>> ((nI 8) &&& 31)), .int (nI 5)]) (rest := [.int y, .int (nI 1), .ref (ad 0)]) X hl.1 h (c_L_low l J z ad G (y >>> ((nI 8) &&& 31)) 5 (by omega) (by omega)) mw_381 mw_382 mw_101 mw_383 pdL_low ⟨Nat.le_of_ble_eq_true rfl, Nat.le_of_ble_eq_true rfl⟩ ⟨Nat.le_of_ble_eq_true rfl, Nat.le_of_ble_eq_true rfl⟩ rfl (Nat.le_of_ble_eq_true rfl) dL_act_225 (fun H locs h => ?_)
      have hlo_225 := lo_lt (v := y >>> ((nI 8) &&& 31)) (m := 5) (by decide)
      refine lv_if_ne (tgt := 236) hx hb dL_act_228 (by decide) (fun c_228 => ?_) (fun c_228 => ?_)
      · rw [nz_eq (by omega)] at c_228
        refine lv_iconst (v := nI 5) hx hb dL_act_236 (by decide) ?_
        refine rg_cisd (As := [.int y, .int (nI 5)]) (rest := [.int (nI 1), .ref (ad 0)]) X hl.1 h (c_L_low l J z ad G y 5 (by omega) (by omega)) mw_381 mw_382 mw_101 mw_383 pdL_low ⟨Nat.le_of_ble_eq_true rfl, Nat.le_of_ble_eq_true rfl⟩ ⟨Nat.le_of_ble_eq_true rfl, Nat.le_of_ble_eq_true rfl⟩ rfl (Nat.le_of_ble_eq_true rfl) dL_act_237 (fun H locs h => ?_)
        have hlo_237 := lo_lt (v := y) (m := 5) (by decide)
        have eN : lo y 5 = acN y := (if_neg c_228).symm
        refine lv_as (y := nI (acN y)) (congrArg nI eN) ?_
        have hN := acN_lt y
        refine lv_iadd hx hb dL_act_240 ?_
        refine lv_as (y := nI ((acN y) + 1)) (nI_addc (by omega)) ?_
        refine rg_civ (As := [.int (nI ((acN y) + 1))]) (rest := []) X hl.1 h (k_X7_pass l J z ad G n hv.2.1 hv.2.2.1 hv.1 r hv.2.2.2.2 (nI ((acN y) + 1))) mw_331 mw_332 mw_333 mw_2 mw_334 pdX7_pass (by decide) (xo_0 J ad _) rfl rfl ⟨Nat.le_of_ble_eq_true rfl, Nat.le_of_ble_eq_true rfl⟩ ⟨Nat.le_of_ble_eq_true rfl, Nat.le_of_ble_eq_true rfl⟩ rfl (Nat.le_of_ble_eq_true rfl) dL_act_241 (fun r35 G35 H locs q35 h => ?_)
        obtain ⟨ea_241, G35_, hp_241, hv_241, ht_241, har_241⟩ := Hv_act hv ((edR_hi hI.1.1 (nI ((acN y) + 1))).cn hv.2.2.2.1) q35
        have h := HG.ph h hz hp_241
        refine lv_as (y := edA r (nI ((acN y) + 1))) ea_241 ?_
        have eF : acF r x y = (edA r (nI ((acN y) + 1)), edR r (nI ((acN y) + 1))) := by unfold acF; rw [if_neg (by omega), if_neg (by omega), if_neg (by omega), if_neg (by omega), if_neg (by omega)]
        exact hret (edA r (nI ((acN y) + 1))) G35_ _ _ 244 _ (⟨by rw [eF], by rw [eF]; exact hv_241, ht_241, har_241⟩) h dL_act_244
      · rw [nz_eq (by omega)] at c_228
        refine lv_bipush (v := nI 30) hx hb dL_act_231 (by decide) ?_
        refine lv_goto (tgt := 237) hx hb dL_act_233 (by decide) ?_
        refine rg_cisd (As := [.int y, .int (nI 30)]) (rest := [.int (nI 1), .ref (ad 0)]) X hl.1 h (c_L_low l J z ad G y 30 (by omega) (by omega)) mw_381 mw_382 mw_101 mw_383 pdL_low ⟨Nat.le_of_ble_eq_true rfl, Nat.le_of_ble_eq_true rfl⟩ ⟨Nat.le_of_ble_eq_true rfl, Nat.le_of_ble_eq_true rfl⟩ rfl (Nat.le_of_ble_eq_true rfl) dL_act_237 (fun H locs h => ?_)
        have hlo_237 := lo_lt (v := y) (m := 30) (by decide)
        have eN : lo y 30 = acN y := (if_pos c_228).symm
        refine lv_as (y := nI (acN y)) (congrArg nI eN) ?_
        have hN := acN_lt y
        refine lv_iadd hx hb dL_act_240 ?_
        refine lv_as (y := nI ((acN y) + 1)) (nI_addc (by omega)) ?_
        refine rg_civ (As := [.int (nI ((acN y) + 1))]) (rest := []) X hl.1 h (k_X7_pass l J z ad G n hv.2.1 hv.2.2.1 hv.1 r hv.2.2.2.2 (nI ((acN y) + 1))) mw_331 mw_332 mw_333 mw_2 mw_334 pdX7_pass (by decide) (xo_0 J ad _) rfl rfl ⟨Nat.le_of_ble_eq_true rfl, Nat.le_of_ble_eq_true rfl⟩ ⟨Nat.le_of_ble_eq_true rfl, Nat.le_of_ble_eq_true rfl⟩ rfl (Nat.le_of_ble_eq_true rfl) dL_act_241 (fun r36 G36 H locs q36 h => ?_)
        obtain ⟨ea_241, G36_, hp_241, hv_241, ht_241, har_241⟩ := Hv_act hv ((edR_hi hI.1.1 (nI ((acN y) + 1))).cn hv.2.2.2.1) q36
        have h := HG.ph h hz hp_241
        refine lv_as (y := edA r (nI ((acN y) + 1))) ea_241 ?_
        have eF : acF r x y = (edA r (nI ((acN y) + 1)), edR r (nI ((acN y) + 1))) := by unfold acF; rw [if_neg (by omega), if_neg (by omega), if_neg (by omega), if_neg (by omega), if_neg (by omega)]
        exact hret (edA r (nI ((acN y) + 1))) G36_ _ _ 244 _ (⟨by rw [eF], by rw [eF]; exact hv_241, ht_241, har_241⟩) h dL_act_244
