/-! THE CLASS: what petitions and refusals tell; the reason of a refusal -/
theorem opI_eq {o : Option Nat} {k : Nat} (h : ∀ j, o = some j → j < 2 ^ 31) (hk : k < 2 ^ 31) : opI o = nI k ↔ o = some k := by
  cases o with
  | none =>
    refine iff_of_false (fun q => ?_) (fun q => by cases q)
    have q2 : (-5 : Int32).toInt = (nI k).toInt := congrArg Int32.toInt q
    rw [nI_toInt hk] at q2
    have : (-5 : Int32).toInt = -5 := by decide
    omega
  | some j =>
    constructor
    · intro q
      replace q : nI j = nI k := q
      rw [nI_eq (h j rfl) hk] at q
      rw [q]
    · intro q
      cases q
      rfl
theorem oldI_ru {r : Nat → Int32} {c : Nat} : ∀ {n k : Nat}, oldI r c n = some k → rulO r c (k % 20) = some (k / 20) := by
  intro n
  induction n with
  | zero => intro k h; cases h
  | succ n ih =>
    intro k h
    by_cases g : oldS r c n (oldI r c n)
    · have e : oldI r c (n + 1) = some n := cif_t g
      rw [e] at h
      cases h
      exact g.1
    · have e : oldI r c (n + 1) = oldI r c n := cif_f g
      rw [e] at h
      exact ih h
theorem RepL_se {G : GG} {b : Nat} {r : Nat → Int32} (h : RepL G b r) {c k : Nat} (hk : k < 140) (hr : rulO r c (k % 20) = some (k / 20)) : G (b + 10) k = r (3 * k + 194) := by
  have := rul_LW hr
  rw [show 60 * (k / 20) + 3 * (k % 20) + 192 = 3 * k + 192 by omega] at this
  rcases h k hk with ⟨q, -⟩ | ⟨-, -, -, -, -, q⟩
  · exact absurd q this
  · exact q
def mkI (r : Nat → Int32) (n : Nat) : Int32 := itr (fun q a => a ||| (nI 1 <<< (nI (pd r q) &&& 31))) (nI 0) n
def gsI (r : Nat → Int32) (x g k : Int32) (n : Nat) : Int32 := itr (fun i a => if (r (4 * i + 144) = x ∧ r (4 * i + 145) = g ∧ r (4 * i + 146) = k) ∧ a < r (4 * i + 147) then r (4 * i + 147) else a) (nI 0) n
theorem gs_le {r : Nat → Int32} {x g k : Int32} (hp : ∀ i, i < on r → 0 < r (4 * i + 147)) {v : Int32} (hv : 0 < v) : v ≤ gsI r x g k (on r) ↔ v ≤ refw r x g k := by
  have key : ∀ n, n ≤ on r → (itr (fun i a => if (r (4 * i + 144) = x ∧ r (4 * i + 145) = g ∧ r (4 * i + 146) = k) ∧ a < r (4 * i + 147) then r (4 * i + 147) else a) (-5) n = (-5) ∧ gsI r x g k n = 0) ∨ (itr (fun i a => if (r (4 * i + 144) = x ∧ r (4 * i + 145) = g ∧ r (4 * i + 146) = k) ∧ a < r (4 * i + 147) then r (4 * i + 147) else a) (-5) n = gsI r x g k n ∧ 0 < gsI r x g k n) := by
    intro n
    induction n with
    | zero => exact fun _ => Or.inl ⟨rfl, rfl⟩
    | succ n ih =>
      intro hn
      have hpn := hp n (by omega)
      unfold gsI at ih ⊢
      generalize hA : itr (fun i a => if (r (4 * i + 144) = x ∧ r (4 * i + 145) = g ∧ r (4 * i + 146) = k) ∧ a < r (4 * i + 147) then r (4 * i + 147) else a) (-5) n = A at ih
      generalize hB : itr (fun i a => if (r (4 * i + 144) = x ∧ r (4 * i + 145) = g ∧ r (4 * i + 146) = k) ∧ a < r (4 * i + 147) then r (4 * i + 147) else a) (nI 0) n = B at ih
      have eA : itr (fun i a => if (r (4 * i + 144) = x ∧ r (4 * i + 145) = g ∧ r (4 * i + 146) = k) ∧ a < r (4 * i + 147) then r (4 * i + 147) else a) (-5) (n + 1) = if (r (4 * n + 144) = x ∧ r (4 * n + 145) = g ∧ r (4 * n + 146) = k) ∧ A < r (4 * n + 147) then r (4 * n + 147) else A := by rw [← hA]; rfl
      have eB : itr (fun i a => if (r (4 * i + 144) = x ∧ r (4 * i + 145) = g ∧ r (4 * i + 146) = k) ∧ a < r (4 * i + 147) then r (4 * i + 147) else a) (nI 0) (n + 1) = if (r (4 * n + 144) = x ∧ r (4 * n + 145) = g ∧ r (4 * n + 146) = k) ∧ B < r (4 * n + 147) then r (4 * n + 147) else B := by rw [← hB]; rfl
      rw [eA, eB]
      have m5 : (-5 : Int32) < r (4 * n + 147) := by
        rw [i32_lt] at hpn ⊢
        have e1 : (-5 : Int32).toInt = -5 := by decide
        have e2 : (0 : Int32).toInt = 0 := by decide
        omega
      by_cases hm : r (4 * n + 144) = x ∧ r (4 * n + 145) = g ∧ r (4 * n + 146) = k
      · rcases ih (by omega) with ⟨a, c⟩ | ⟨a, c⟩
        · rw [a, c, if_pos ⟨hm, m5⟩, if_pos ⟨hm, hpn⟩]
          exact Or.inr ⟨rfl, hpn⟩
        · rw [a]
          refine Or.inr ⟨rfl, ?_⟩
          split
          · exact hpn
          · exact c
      · rw [if_neg (fun q => hm q.1), if_neg (fun q => hm q.1)]
        exact ih (by omega)
  unfold refw
  rcases key (on r) (Nat.le_refl _) with ⟨a, c⟩ | ⟨a, c⟩
  · rw [a, c]
    have e1 : (-5 : Int32).toInt = -5 := by decide
    have e2 : (0 : Int32).toInt = 0 := by decide
    rw [i32_lt, e2] at hv
    rw [i32_le, i32_le, e1, e2]
    omega
  · rw [a]
theorem and1 (x : Int32) : x &&& nI 1 = 0 ∨ x &&& nI 1 = nI 1 := by
  have e : ∀ y : BitVec 32, y &&& 1#32 = 0#32 ∨ y &&& 1#32 = 1#32 := by
    intro y
    have h : (y &&& 1#32).toNat = y.toNat % 2 := by
      rw [BitVec.toNat_and]
      exact Nat.and_one_is_mod _
    rcases (show y.toNat % 2 = 0 ∨ y.toNat % 2 = 1 by omega) with h0 | h0
    · exact Or.inl (BitVec.eq_of_toNat_eq (by rw [h, h0]; rfl))
    · exact Or.inr (BitVec.eq_of_toNat_eq (by rw [h, h0]; rfl))
  rcases e x.toBitVec with h | h
  · exact Or.inl (Int32.toBitVec_inj.mp h)
  · exact Or.inr (Int32.toBitVec_inj.mp h)
/-- the reason, by what the class asks -/
theorem refu_cl {G : GG} {b : Nat} {r : Nat → Int32} (hW : WR r) (hL : RepL G b r) (hQ : RepR G b r) {q : Nat} (hq : q < mn r) {v : Int32} (hv : 0 < v) : refu r q v = if v < r 0 then nI 1 else if v ≤ gsI r (nI (pc r q)) (nI (pg r q)) (nI (pk r q)) (on r) then nI 2 else if pk r q = 2 then (if G (b + 9) (20 * (pc r q) + (pg r q)) = 0 then nI 4 else if wgt r (nI (pc r q)) < nI 2 * v then nI 0 else nI 5) else if pc r q ≠ 6 ∧ G (b + 8) ((pg r q) + 120) ≠ nI (pk r q) ∧ v < G (b + 9) ((pg r q) + 120) then nI 3 else if G (b + 8) (20 * (pc r q) + (pg r q)) = nI (pk r q) ∧ v ≤ G (b + 9) (20 * (pc r q) + (pg r q)) then nI 4 else nI 0 := by
  obtain ⟨v1, v2, v3, v4, v5, v6, v7, v8⟩ := hW.2.2.2.1 q hq
  have ho := RepL_st hL v4 v6
  have hh := RepL_st hL (Nat.le_refl 6) v6
  rw [show 60 * 6 + 3 * (pg r q) + 192 = 3 * (pg r q) + 552 by omega, show 60 * 6 + 3 * (pg r q) + 193 = 3 * (pg r q) + 553 by omega, show 60 * 6 + 3 * (pg r q) + 194 = 3 * (pg r q) + 554 by omega, show (pg r q) + 20 * 6 = (pg r q) + 120 by omega] at hh
  rw [show (pg r q) + 20 * (pc r q) = 20 * (pc r q) + (pg r q) by omega] at ho
  have z0 : nI 0 = (0 : Int32) := rfl
  unfold refu
  by_cases a1 : v < r 0
  · rw [if_pos a1, if_pos a1]
  rw [if_neg a1, if_neg a1]
  have hg := gs_le (x := nI (pc r q)) (g := nI (pg r q)) (k := nI (pk r q)) (fun i hi => (hQ.2 i hi).2.2.2.2) hv
  by_cases a2 : v ≤ refw r (nI (pc r q)) (nI (pg r q)) (nI (pk r q))
  · rw [if_pos a2, if_pos (hg.mpr a2)]
  rw [if_neg a2, if_neg (fun x => a2 (hg.mp x))]
  by_cases a3 : pk r q = 2
  · rw [if_neg (fun x => x.2.1 a3), if_pos a3]
    rcases ho with ⟨o1, o2⟩ | ⟨o1, o2, o3, o4, o5, o6⟩
    · rw [if_pos (Or.inl ⟨a3, o1⟩), if_pos (show G (b + 9) (20 * (pc r q) + (pg r q)) = 0 from o2)]
    · rw [if_neg (fun x => x.elim (fun y => o1 y.2) (fun y => y.1 a3)), if_neg (fun x => i32_p o5 (o4.symm.trans x))]
      by_cases a5 : nI 2 * v ≤ wgt r (nI (pc r q))
      · rw [if_pos ⟨a3, a5⟩, if_neg (Int32.not_lt.mpr a5)]
      · rw [if_neg (fun x => a5 x.2), if_pos (Int32.not_le.mp a5)]
  · have nz : ∀ x : Int32, x = nI 0 → ¬ v < x ∧ ¬ v ≤ x := by
      intro x hx0
      have e2 : x.toInt = 0 := by rw [hx0]; decide
      have e3 : (0 : Int32).toInt = 0 := by decide
      have hv2 := hv
      rw [i32_lt, e3] at hv2
      constructor
      · intro h
        rw [i32_lt] at h
        omega
      · intro h
        rw [i32_le] at h
        omega
    have c3 : (pc r q ≠ 6 ∧ pk r q ≠ 2 ∧ r (3 * (pg r q) + 552) ≠ (-5) ∧ r (3 * (pg r q) + 552) ≠ nI (pk r q) ∧ v < r (3 * (pg r q) + 553)) ↔ (pc r q ≠ 6 ∧ G (b + 8) ((pg r q) + 120) ≠ nI (pk r q) ∧ v < G (b + 9) ((pg r q) + 120)) := by
      rcases hh with ⟨o1, o2⟩ | ⟨o1, o2, o3, o4, o5, o6⟩
      · exact iff_of_false (fun x => x.2.2.1 o1) (fun x => (nz _ o2).1 x.2.2)
      · rw [o2, o4]
        exact ⟨fun x => ⟨x.1, x.2.2.2⟩, fun x => ⟨x.1, a3, o1, x.2⟩⟩
    have c4 : ((pk r q = 2 ∧ r (60 * (pc r q) + 3 * (pg r q) + 192) = (-5)) ∨ (pk r q ≠ 2 ∧ r (60 * (pc r q) + 3 * (pg r q) + 192) = nI (pk r q) ∧ v ≤ r (60 * (pc r q) + 3 * (pg r q) + 193))) ↔ (G (b + 8) (20 * (pc r q) + (pg r q)) = nI (pk r q) ∧ v ≤ G (b + 9) (20 * (pc r q) + (pg r q))) := by
      rcases ho with ⟨o1, o2⟩ | ⟨o1, o2, o3, o4, o5, o6⟩
      · refine iff_of_false (fun x => x.elim (fun y => a3 y.1) (fun y => ?_)) (fun x => (nz _ o2).2 x.2)
        have := y.2.1
        rw [o1] at this
        exact nI_n5 (by omega) this.symm
      · rw [o2, o4]
        exact ⟨fun x => x.elim (fun y => absurd y.1 a3) (fun y => y.2), fun x => Or.inr ⟨a3, x⟩⟩
    rw [if_neg a3]
    by_cases b3 : pc r q ≠ 6 ∧ G (b + 8) ((pg r q) + 120) ≠ nI (pk r q) ∧ v < G (b + 9) ((pg r q) + 120)
    · rw [if_pos (c3.mpr b3), if_pos b3]
    · rw [if_neg (fun x => b3 (c3.mp x)), if_neg b3]
      by_cases b4 : G (b + 8) (20 * (pc r q) + (pg r q)) = nI (pk r q) ∧ v ≤ G (b + 9) (20 * (pc r q) + (pg r q))
      · rw [if_pos (c4.mpr b4), if_pos b4]
      · rw [if_neg (fun x => b4 (c4.mp x)), if_neg b4, if_neg (fun x => a3 x.1)]
set_option maxHeartbeats 4000000 in
set_option maxRecDepth 100000 in
theorem c_X1_oldestSpot (l : Launch) (J : JJ) (z : ZZ) (ad : Nat → Nat) (G : GG) (b : Nat) (hB : IsB b) (r : Nat → Int32) (hR : Rep G b r) (x : Nat) (hx6 : x < 6) : MI l J z ad yX1_oldestSpot cX1_oldestSpot 5 .int 2 [.ref (ad (b + 7)), .int (nI x)] G (fun ans uG => ans = (opI (oldI r x 140)) ∧ uG = (G)) := by
  refine MI.go (by decide) (Nat.le_of_ble_eq_true rfl) ?_
  intro pr e s m args below meth c ls Q X h hl hret
  have hx := X.1
  have hb := X.2.1
  have hown := X.2.2.2.1
  have hts := X.2.2.2.2
  have hl : lv_has ls 5 [(0, .ref (ad (b + 7))), (1, .int (nI x))] := hl
  have hR0 := hR
  obtain ⟨hI, hS, hL, hP, hQ, hV, hBt⟩ := hR
  have hW := hI.1
  obtain ⟨⟨w1, w2⟩, ⟨w3, w4⟩, ⟨w5, w6⟩, w7, w8⟩ := hI.1
  have k1 : G (b + 1) 0 = nI (kn r) := hS.1.trans w1
  have k2 : G (b + 11) 0 = nI (mn r) := hP.1.trans w3
  have k3 : G (b + 18) 0 = nI (on r) := hQ.1.trans w5
  refine lv_bipush (v := (-5)) hx hb dX1_oldestSpot_0 (by decide) ?_
  refine lv_istore_n (lv' := [(2, .int ((-5))), (0, .ref (ad (b + 7))), (1, .int (nI x))]) hx hb dX1_oldestSpot_2 rfl hl (by decide) rfl (fun ls hl => ?_)
  refine lv_iconst (v := nI 0) hx hb dX1_oldestSpot_3 (by decide) ?_
  refine lv_istore_n (lv' := [(3, .int (nI 0)), (2, .int ((-5))), (0, .ref (ad (b + 7))), (1, .int (nI x))]) hx hb dX1_oldestSpot_4 rfl hl (by decide) rfl (fun ls hl => ?_)
  have LP_5 : ∀ (k_5 i_5 : Nat), 140 + 1 ≤ i_5 + k_5 → i_5 ≤ 140 → ∀ (H : Heap) (locs : List Loc) (ls : Array Slot), HG J z ad s G H locs → lv_has ls 5 [(0, .ref (ad (b + 7))), (1, .int (nI x)), (2, .int (opI (oldI r x i_5))), (3, .int (nI i_5))] → W pr l e (rmD 2 0 0) s m args below meth c H locs 0 0 Q (F0 m 5 ls []) := by
    intro k_5
    induction k_5 with
    | zero =>
      intro i_5 g1 g2
      exact absurd g1 (by omega)
    | succ k_5 ih_5 =>
      intro i_5 g1_5 g2_5  H locs ls h hl
      refine lv_iload_n hx hb dX1_oldestSpot_5 rfl (lv_at hl 3 rfl) ?_
      refine lv_sipush (v := nI 140) hx hb dX1_oldestSpot_6 (by decide) ?_
      refine lv_icmp_ge (tgt := 69) hx hb dX1_oldestSpot_9 (by decide) (fun c_9 => ?_) (fun c_9 => ?_)
      · rw [nI_leI (by omega) (by omega)] at c_9
        refine lv_iload_n hx hb dX1_oldestSpot_69 rfl (lv_at hl 2 rfl) ?_
        exact hret (opI (oldI r x i_5)) G _ _ 70 _ (⟨by rw [show i_5 = 140 by omega], rfl⟩) h dX1_oldestSpot_70
      · rw [nI_leI (by omega) (by omega)] at c_9
        refine lv_aload_n hx hb dX1_oldestSpot_12 rfl (lv_at hl 0 rfl) ?_
        refine lv_iload_n hx hb dX1_oldestSpot_13 rfl (lv_at hl 1 rfl) ?_
        refine lv_iload_n hx hb dX1_oldestSpot_14 rfl (lv_at hl 3 rfl) ?_
        refine lv_bipush (v := nI 20) hx hb dX1_oldestSpot_15 (by decide) ?_
        refine lv_irem hx hb dX1_oldestSpot_17 (by decide) ?_
        refine lv_as (y := nI ((i_5 % 20))) (pk_rem (by omega) (by omega) (by omega)) ?_
        refine rg_civd (As := [.int (nI x), .int (nI ((i_5 % 20)))]) (rest := []) X hl.1 h (c_X1_rulingPlace l J z ad G b hB r hR0 x (i_5 % 20) (by omega) (by omega)) mw_145 mw_146 mw_147 mw_34 mw_148 pdX1_rulingPlace (hB.lt (by decide)) (so_7 hB J ad _) rfl rfl ⟨Nat.le_of_ble_eq_true rfl, Nat.le_of_ble_eq_true rfl⟩ ⟨Nat.le_of_ble_eq_true rfl, Nat.le_of_ble_eq_true rfl⟩ rfl (Nat.le_of_ble_eq_true rfl) dX1_oldestSpot_18 (fun H locs h => ?_)
        refine lv_iload_n hx hb dX1_oldestSpot_21 rfl (lv_at hl 3 rfl) ?_
        refine lv_bipush (v := nI 20) hx hb dX1_oldestSpot_22 (by decide) ?_
        refine lv_idiv hx hb dX1_oldestSpot_24 (by decide) ?_
        refine lv_as (y := nI ((i_5 / 20))) (pk_div (by omega) (by omega) (by omega)) ?_
        refine lv_icmp_ne (tgt := 32) hx hb dX1_oldestSpot_25 (by decide) (fun c_25 => ?_) (fun c_25 => ?_)
        · have hru : ¬ rulO r x (i_5 % 20) = some (i_5 / 20) := fun q => c_25 (congrArg opI q)
          refine lv_iconst (v := nI 0) hx hb dX1_oldestSpot_32 (by decide) ?_
          refine lv_istore (lv' := [(4, .int (nI 0)), (0, .ref (ad (b + 7))), (1, .int (nI x)), (2, .int (opI (oldI r x i_5))), (3, .int (nI i_5))]) hx hb dX1_oldestSpot_33 hl (by decide) rfl (fun ls hl => ?_)
          refine lv_iload hx hb dX1_oldestSpot_35 (lv_at hl 0 rfl) ?_
          refine lv_if_eq (tgt := 63) hx hb dX1_oldestSpot_37 (by decide) (fun c_37 => ?_) (fun c_37 => absurd (by decide) c_37)
          have hl : lv_has ls 5 [(4, .int (nI 0)), (0, .ref (ad (b + 7))), (1, .int (nI x)), (2, .int (opI (oldI r x (i_5 + 1)))), (3, .int (nI i_5))] := by
            rw [show opI (oldI r x (i_5 + 1)) = opI (oldI r x i_5) from congrArg opI (show oldI r x (i_5 + 1) = oldI r x i_5 from cif_f (fun q => hru q.1))]
            exact hl
          refine lv_iinc (v := nI (i_5 + 1)) (lv' := [(3, .int (nI (i_5 + 1))), (4, .int (nI 0)), (0, .ref (ad (b + 7))), (1, .int (nI x)), (2, .int (opI (oldI r x (i_5 + 1))))]) hx hb dX1_oldestSpot_63 hl (k := 4) rfl (nI_addc (b := 1) (by omega)) (by decide) rfl (fun ls hl => ?_)
          refine lv_goto (tgt := 5) hx hb dX1_oldestSpot_66 (by decide) ?_
          exact ih_5 (i_5 + 1) (by omega) (by omega) _ _ _ h (lv_sub hl [2, 3, 4, 0] rfl)
        · have hru := (opI_eq (fun k hk => by have := rulO_lt hk; omega) (by omega)).mp c_25
          have hse := RepL_se hL (by omega) hru
          refine lv_iconst (v := nI 1) hx hb dX1_oldestSpot_28 (by decide) ?_
          refine lv_goto (tgt := 33) hx hb dX1_oldestSpot_29 (by decide) ?_
          refine lv_istore (lv' := [(4, .int (nI 1)), (0, .ref (ad (b + 7))), (1, .int (nI x)), (2, .int (opI (oldI r x i_5))), (3, .int (nI i_5))]) hx hb dX1_oldestSpot_33 hl (by decide) rfl (fun ls hl => ?_)
          refine lv_iload hx hb dX1_oldestSpot_35 (lv_at hl 0 rfl) ?_
          refine lv_if_eq (tgt := 63) hx hb dX1_oldestSpot_37 (by decide) (fun c_37 => absurd c_37 (by decide)) (fun c_37 => ?_)
          refine lv_iload_n hx hb dX1_oldestSpot_40 rfl (lv_at hl 3 rfl) ?_
          refine lv_bipush (v := (-5)) hx hb dX1_oldestSpot_41 (by decide) ?_
          refine lv_icmp_eq (tgt := 61) hx hb dX1_oldestSpot_43 (by decide) (fun c_43 => ?_) (fun c_43 => ?_)
          · rw [opI_n (fun k hk => by have := oldI_lt hk; omega)] at c_43
            refine lv_iload_n hx hb dX1_oldestSpot_61 rfl (lv_at hl 4 rfl) ?_
            refine lv_istore_n (lv' := [(2, .int (nI i_5)), (4, .int (nI 1)), (0, .ref (ad (b + 7))), (1, .int (nI x)), (3, .int (nI i_5))]) hx hb dX1_oldestSpot_62 rfl hl (by decide) rfl (fun ls hl => ?_)
            have hl : lv_has ls 5 [(2, .int (opI (oldI r x (i_5 + 1)))), (4, .int (nI 1)), (0, .ref (ad (b + 7))), (1, .int (nI x)), (3, .int (nI i_5))] := by
              rw [show opI (oldI r x (i_5 + 1)) = nI i_5 from congrArg opI (show oldI r x (i_5 + 1) = some i_5 from cif_t ⟨hru, Or.inl c_43⟩)]
              exact hl
            refine lv_iinc (v := nI (i_5 + 1)) (lv' := [(3, .int (nI (i_5 + 1))), (2, .int (opI (oldI r x (i_5 + 1)))), (4, .int (nI 1)), (0, .ref (ad (b + 7))), (1, .int (nI x))]) hx hb dX1_oldestSpot_63 hl (k := 4) rfl (nI_addc (b := 1) (by omega)) (by decide) rfl (fun ls hl => ?_)
            refine lv_goto (tgt := 5) hx hb dX1_oldestSpot_66 (by decide) ?_
            exact ih_5 (i_5 + 1) (by omega) (by omega) _ _ _ h (lv_sub hl [3, 4, 1, 0] rfl)
          · rw [opI_n (fun k hk => by have := oldI_lt hk; omega)] at c_43
            obtain ⟨j2, hk⟩ := Option.ne_none_iff_exists'.mp c_43
            have hk6 := oldI_lt hk
            have hse2 := RepL_se hL (by omega) (oldI_ru hk)
            rw [hk] at hl
            have hl : lv_has ls 5 [(4, .int (nI 1)), (0, .ref (ad (b + 7))), (1, .int (nI x)), (2, .int (nI j2)), (3, .int (nI i_5))] := hl
            refine lv_aload_n hx hb dX1_oldestSpot_46 rfl (lv_at hl 1 rfl) ?_
            refine fg_X1_18 hB X h dX1_oldestSpot_47 ?_
            refine lv_iload_n hx hb dX1_oldestSpot_50 rfl (lv_at hl 4 rfl) ?_
            refine rg_ild X h (b + 10) (hB.lt (by decide)) (sa_10 hB J ad) (i_5) rfl (by omega) (by decide) dX1_oldestSpot_51 ?_
            refine lv_aload_n hx hb dX1_oldestSpot_52 rfl (lv_at hl 1 rfl) ?_
            refine fg_X1_18 hB X h dX1_oldestSpot_53 ?_
            refine lv_iload_n hx hb dX1_oldestSpot_56 rfl (lv_at hl 3 rfl) ?_
            refine rg_ild X h (b + 10) (hB.lt (by decide)) (sa_10 hB J ad) (j2) rfl (by omega) (by decide) dX1_oldestSpot_57 ?_
            refine lv_icmp_ge (tgt := 63) hx hb dX1_oldestSpot_58 (by decide) (fun c_58 => ?_) (fun c_58 => ?_)
            · rw [hse, hse2] at c_58
              have hl : lv_has ls 5 [(4, .int (nI 1)), (0, .ref (ad (b + 7))), (1, .int (nI x)), (2, .int (opI (oldI r x (i_5 + 1)))), (3, .int (nI i_5))] := by
                rw [show opI (oldI r x (i_5 + 1)) = nI j2 from congrArg opI (show oldI r x (i_5 + 1) = some j2 from (cif_f (fun q => by obtain ⟨-, q⟩ := q; rcases q with q | ⟨j3, q1, q2⟩; cases (hk.symm.trans q); cases (hk.symm.trans q1); exact Int32.not_lt.mpr c_58 q2)).trans hk)]
                exact hl
              refine lv_iinc (v := nI (i_5 + 1)) (lv' := [(3, .int (nI (i_5 + 1))), (4, .int (nI 1)), (0, .ref (ad (b + 7))), (1, .int (nI x)), (2, .int (opI (oldI r x (i_5 + 1))))]) hx hb dX1_oldestSpot_63 hl (k := 4) rfl (nI_addc (b := 1) (by omega)) (by decide) rfl (fun ls hl => ?_)
              refine lv_goto (tgt := 5) hx hb dX1_oldestSpot_66 (by decide) ?_
              exact ih_5 (i_5 + 1) (by omega) (by omega) _ _ _ h (lv_sub hl [2, 3, 4, 0] rfl)
            · rw [hse, hse2] at c_58
              refine lv_iload_n hx hb dX1_oldestSpot_61 rfl (lv_at hl 4 rfl) ?_
              refine lv_istore_n (lv' := [(2, .int (nI i_5)), (4, .int (nI 1)), (0, .ref (ad (b + 7))), (1, .int (nI x)), (3, .int (nI i_5))]) hx hb dX1_oldestSpot_62 rfl hl (by decide) rfl (fun ls hl => ?_)
              have hl : lv_has ls 5 [(2, .int (opI (oldI r x (i_5 + 1)))), (4, .int (nI 1)), (0, .ref (ad (b + 7))), (1, .int (nI x)), (3, .int (nI i_5))] := by
                rw [show opI (oldI r x (i_5 + 1)) = nI i_5 from congrArg opI (show oldI r x (i_5 + 1) = some i_5 from cif_t ⟨hru, Or.inr ⟨j2, hk, Int32.not_le.mp c_58⟩⟩)]
                exact hl
              refine lv_iinc (v := nI (i_5 + 1)) (lv' := [(3, .int (nI (i_5 + 1))), (2, .int (opI (oldI r x (i_5 + 1)))), (4, .int (nI 1)), (0, .ref (ad (b + 7))), (1, .int (nI x))]) hx hb dX1_oldestSpot_63 hl (k := 4) rfl (nI_addc (b := 1) (by omega)) (by decide) rfl (fun ls hl => ?_)
              refine lv_goto (tgt := 5) hx hb dX1_oldestSpot_66 (by decide) ?_
              exact ih_5 (i_5 + 1) (by omega) (by omega) _ _ _ h (lv_sub hl [3, 4, 1, 0] rfl)
  exact LP_5 (140 + 1) 0 (by omega) (by omega) _ _ _ h (lv_sub hl [2, 3, 1, 0] rfl)
set_option maxHeartbeats 4000000 in
set_option maxRecDepth 100000 in
theorem c_X3_madeBy (l : Launch) (J : JJ) (z : ZZ) (ad : Nat → Nat) (G : GG) (b : Nat) (hB : IsB b) (r : Nat → Int32) (hR : Rep G b r) (D : Nat) (hD : D < kn r) : MI l J z ad yX3_madeBy cX3_madeBy 3 .int 0 [.ref (ad (b + 11)), .int (nI D)] G (fun ans uG => ans = (r (6 * D + 14)) ∧ uG = (G)) := by
  refine MI.go (by decide) (Nat.le_of_ble_eq_true rfl) ?_
  intro pr e s m args below meth c ls Q X h hl hret
  have hx := X.1
  have hb := X.2.1
  have hown := X.2.2.2.1
  have hts := X.2.2.2.2
  have hl : lv_has ls 3 [(0, .ref (ad (b + 11))), (1, .int (nI D))] := hl
  have hR0 := hR
  obtain ⟨hI, hS, hL, hP, hQ, hV, hBt⟩ := hR
  have hW := hI.1
  obtain ⟨⟨w1, w2⟩, ⟨w3, w4⟩, ⟨w5, w6⟩, w7, w8⟩ := hI.1
  have k1 : G (b + 1) 0 = nI (kn r) := hS.1.trans w1
  have k2 : G (b + 11) 0 = nI (mn r) := hP.1.trans w3
  have k3 : G (b + 18) 0 = nI (on r) := hQ.1.trans w5
  refine lv_iconst (v := nI 0) hx hb dX3_madeBy_0 (by decide) ?_
  refine lv_istore_n (lv' := [(2, .int (nI 0)), (0, .ref (ad (b + 11))), (1, .int (nI D))]) hx hb dX3_madeBy_1 rfl hl (by decide) rfl (fun ls hl => ?_)
  have LP_2 : ∀ (k_2 i_2 : Nat), (mn r) + 1 ≤ i_2 + k_2 → i_2 ≤ (mn r) → ∀ (hn : ∀ j, j < i_2 → pd r j ≠ D) (H : Heap) (locs : List Loc) (ls : Array Slot), HG J z ad s G H locs → lv_has ls 3 [(0, .ref (ad (b + 11))), (1, .int (nI D)), (2, .int (nI i_2))] → W pr l e (rmD 0 0 0) s m args below meth c H locs 0 0 Q (F0 m 2 ls []) := by
    intro k_2
    induction k_2 with
    | zero =>
      intro i_2 g1 g2
      exact absurd g1 (by omega)
    | succ k_2 ih_2 =>
      intro i_2 g1_2 g2_2 hn H locs ls h hl
      refine lv_iload_n hx hb dX3_madeBy_2 rfl (lv_at hl 2 rfl) ?_
      refine lv_aload_n hx hb dX3_madeBy_3 rfl (lv_at hl 0 rfl) ?_
      refine fg_X3_30 hB X h dX3_madeBy_4 ?_
      refine lv_as (y := nI ((mn r))) (k2) ?_
      refine lv_icmp_ge (tgt := 28) hx hb dX3_madeBy_7 (by decide) (fun c_7 => ?_) (fun c_7 => ?_)
      · rw [nI_leI (by omega) (by omega)] at c_7
        refine lv_bipush (v := (-5)) hx hb dX3_madeBy_28 (by decide) ?_
        exact hret (-5) G _ _ 30 _ (⟨by rcases hI.2.2.1 D hD with q | ⟨q, q1, q2, q3⟩; exact q.symm; exact absurd q3 (hn q (by omega)), rfl⟩) h dX3_madeBy_30
      · rw [nI_leI (by omega) (by omega)] at c_7
        have hpk := (w7 i_2 (by omega)).2.1
        refine lv_aload_n hx hb dX3_madeBy_10 rfl (lv_at hl 0 rfl) ?_
        refine fg_X3_9 hB X h dX3_madeBy_11 ?_
        refine lv_iload_n hx hb dX3_madeBy_14 rfl (lv_at hl 2 rfl) ?_
        refine rg_ild X h (b + 12) (hB.lt (by decide)) (sa_12 hB J ad) (i_2) rfl (by omega) (by decide) dX3_madeBy_15 ?_
        refine lv_as (y := nI ((pd r i_2))) ((hP.2 i_2 (by omega)).1.trans (w7 i_2 (by omega)).1) ?_
        refine lv_iload_n hx hb dX3_madeBy_16 rfl (lv_at hl 1 rfl) ?_
        refine lv_icmp_ne (tgt := 22) hx hb dX3_madeBy_17 (by decide) (fun c_17 => ?_) (fun c_17 => ?_)
        · rw [nI_eq (by omega) (by omega)] at c_17
          refine lv_iinc (v := nI (i_2 + 1)) (lv' := [(2, .int (nI (i_2 + 1))), (0, .ref (ad (b + 11))), (1, .int (nI D))]) hx hb dX3_madeBy_22 hl (k := 2) rfl (nI_addc (b := 1) (by omega)) (by decide) rfl (fun ls hl => ?_)
          refine lv_goto (tgt := 2) hx hb dX3_madeBy_25 (by decide) ?_
          exact ih_2 (i_2 + 1) (by omega) (by omega) (fun j hj => by rcases (show j < i_2 ∨ j = i_2 by omega) with e | e; exact hn j e; rw [e]; exact c_17) _ _ _ h (lv_sub hl [1, 2, 0] rfl)
        · rw [nI_eq (by omega) (by omega)] at c_17
          refine lv_iload_n hx hb dX3_madeBy_20 rfl (lv_at hl 2 rfl) ?_
          exact hret (nI i_2) G _ _ 21 _ (⟨by rw [← c_17]; exact (hI.2.1 i_2 (by omega)).symm, rfl⟩) h dX3_madeBy_21
  exact LP_2 ((mn r) + 1) 0 (by omega) (by omega) (fun j hj => by omega) _ _ _ h (lv_sub hl [1, 2, 0] rfl)
set_option maxHeartbeats 4000000 in
set_option maxRecDepth 100000 in
theorem c_X3_makers (l : Launch) (J : JJ) (z : ZZ) (ad : Nat → Nat) (G : GG) (b : Nat) (hB : IsB b) (r : Nat → Int32) (hR : Rep G b r)  : MI l J z ad yX3_makers cX3_makers 3 .int 0 [.ref (ad (b + 11))] G (fun ans uG => ans = (mkI r (mn r)) ∧ uG = (G)) := by
  refine MI.go (by decide) (Nat.le_of_ble_eq_true rfl) ?_
  intro pr e s m args below meth c ls Q X h hl hret
  have hx := X.1
  have hb := X.2.1
  have hown := X.2.2.2.1
  have hts := X.2.2.2.2
  have hl : lv_has ls 3 [(0, .ref (ad (b + 11)))] := hl
  have hR0 := hR
  obtain ⟨hI, hS, hL, hP, hQ, hV, hBt⟩ := hR
  have hW := hI.1
  obtain ⟨⟨w1, w2⟩, ⟨w3, w4⟩, ⟨w5, w6⟩, w7, w8⟩ := hI.1
  have k1 : G (b + 1) 0 = nI (kn r) := hS.1.trans w1
  have k2 : G (b + 11) 0 = nI (mn r) := hP.1.trans w3
  have k3 : G (b + 18) 0 = nI (on r) := hQ.1.trans w5
  refine lv_iconst (v := nI 0) hx hb dX3_makers_0 (by decide) ?_
  refine lv_istore_n (lv' := [(1, .int (nI 0)), (0, .ref (ad (b + 11)))]) hx hb dX3_makers_1 rfl hl (by decide) rfl (fun ls hl => ?_)
  refine lv_iconst (v := nI 0) hx hb dX3_makers_2 (by decide) ?_
  refine lv_istore_n (lv' := [(2, .int (nI 0)), (1, .int (nI 0)), (0, .ref (ad (b + 11)))]) hx hb dX3_makers_3 rfl hl (by decide) rfl (fun ls hl => ?_)
  have LP_4 : ∀ (k_4 i_4 : Nat), (mn r) + 1 ≤ i_4 + k_4 → i_4 ≤ (mn r) → ∀ (H : Heap) (locs : List Loc) (ls : Array Slot), HG J z ad s G H locs → lv_has ls 3 [(0, .ref (ad (b + 11))), (1, .int (mkI r i_4)), (2, .int (nI i_4))] → W pr l e (rmD 0 0 0) s m args below meth c H locs 0 0 Q (F0 m 4 ls []) := by
    intro k_4
    induction k_4 with
    | zero =>
      intro i_4 g1 g2
      exact absurd g1 (by omega)
    | succ k_4 ih_4 =>
      intro i_4 g1_4 g2_4  H locs ls h hl
      refine lv_iload_n hx hb dX3_makers_4 rfl (lv_at hl 2 rfl) ?_
      refine lv_aload_n hx hb dX3_makers_5 rfl (lv_at hl 0 rfl) ?_
      refine fg_X3_30 hB X h dX3_makers_6 ?_
      refine lv_as (y := nI ((mn r))) (k2) ?_
      refine lv_icmp_ge (tgt := 29) hx hb dX3_makers_9 (by decide) (fun c_9 => ?_) (fun c_9 => ?_)
      · rw [nI_leI (by omega) (by omega)] at c_9
        refine lv_iload_n hx hb dX3_makers_29 rfl (lv_at hl 1 rfl) ?_
        exact hret (mkI r i_4) G _ _ 30 _ (⟨by rw [show i_4 = mn r by omega], rfl⟩) h dX3_makers_30
      · rw [nI_leI (by omega) (by omega)] at c_9
        refine lv_iload_n hx hb dX3_makers_12 rfl (lv_at hl 1 rfl) ?_
        refine lv_iconst (v := nI 1) hx hb dX3_makers_13 (by decide) ?_
        refine lv_aload_n hx hb dX3_makers_14 rfl (lv_at hl 0 rfl) ?_
        refine fg_X3_9 hB X h dX3_makers_15 ?_
        refine lv_iload_n hx hb dX3_makers_18 rfl (lv_at hl 2 rfl) ?_
        refine rg_ild X h (b + 12) (hB.lt (by decide)) (sa_12 hB J ad) (i_4) rfl (by omega) (by decide) dX3_makers_19 ?_
        refine lv_as (y := nI (pd r i_4)) ((hP.2 i_4 (by omega)).1.trans (w7 i_4 (by omega)).1) ?_
        refine lv_ishl hx hb dX3_makers_20 ?_
        refine lv_ior hx hb dX3_makers_21 ?_
        refine lv_istore_n (lv' := [(1, .int ((mkI r i_4) ||| ((nI 1) <<< ((nI (pd r i_4)) &&& 31)))), (0, .ref (ad (b + 11))), (2, .int (nI i_4))]) hx hb dX3_makers_22 rfl hl (by decide) rfl (fun ls hl => ?_)
        refine lv_iinc (v := nI (i_4 + 1)) (lv' := [(2, .int (nI (i_4 + 1))), (1, .int ((mkI r i_4) ||| ((nI 1) <<< ((nI (pd r i_4)) &&& 31)))), (0, .ref (ad (b + 11)))]) hx hb dX3_makers_23 hl (k := 2) rfl (nI_addc (b := 1) (by omega)) (by decide) rfl (fun ls hl => ?_)
        refine lv_goto (tgt := 4) hx hb dX3_makers_26 (by decide) ?_
        exact ih_4 (i_4 + 1) (by omega) (by omega) _ _ _ h (lv_sub hl [2, 1, 0] rfl)
  exact LP_4 ((mn r) + 1) 0 (by omega) (by omega) _ _ _ h (lv_sub hl [2, 1, 0] rfl)
set_option maxHeartbeats 4000000 in
set_option maxRecDepth 100000 in
theorem c_X3_secondedBy (l : Launch) (J : JJ) (z : ZZ) (ad : Nat → Nat) (G : GG) (b : Nat) (hB : IsB b) (r : Nat → Int32) (hR : Rep G b r) (d : Int32) : MI l J z ad yX3_secondedBy cX3_secondedBy 4 .int 0 [.ref (ad (b + 11)), .int d] G (fun ans uG => ans = (sc2 r d) ∧ uG = (G)) := by
  refine MI.go (by decide) (Nat.le_of_ble_eq_true rfl) ?_
  intro pr e s m args below meth c ls Q X h hl hret
  have hx := X.1
  have hb := X.2.1
  have hown := X.2.2.2.1
  have hts := X.2.2.2.2
  have hl : lv_has ls 4 [(0, .ref (ad (b + 11))), (1, .int d)] := hl
  have hR0 := hR
  obtain ⟨hI, hS, hL, hP, hQ, hV, hBt⟩ := hR
  have hW := hI.1
  obtain ⟨⟨w1, w2⟩, ⟨w3, w4⟩, ⟨w5, w6⟩, w7, w8⟩ := hI.1
  have k1 : G (b + 1) 0 = nI (kn r) := hS.1.trans w1
  have k2 : G (b + 11) 0 = nI (mn r) := hP.1.trans w3
  have k3 : G (b + 18) 0 = nI (on r) := hQ.1.trans w5
  refine lv_iconst (v := nI 0) hx hb dX3_secondedBy_0 (by decide) ?_
  refine lv_istore_n (lv' := [(2, .int (nI 0)), (0, .ref (ad (b + 11))), (1, .int d)]) hx hb dX3_secondedBy_1 rfl hl (by decide) rfl (fun ls hl => ?_)
  refine lv_iconst (v := nI 0) hx hb dX3_secondedBy_2 (by decide) ?_
  refine lv_istore_n (lv' := [(3, .int (nI 0)), (2, .int (nI 0)), (0, .ref (ad (b + 11))), (1, .int d)]) hx hb dX3_secondedBy_3 rfl hl (by decide) rfl (fun ls hl => ?_)
  have LP_4 : ∀ (k_4 i_4 : Nat), (mn r) + 1 ≤ i_4 + k_4 → i_4 ≤ (mn r) → ∀ (H : Heap) (locs : List Loc) (ls : Array Slot), HG J z ad s G H locs → lv_has ls 4 [(0, .ref (ad (b + 11))), (1, .int d), (2, .int (itr (fun q a => a ||| (((r (5 * q + 88) >>> (d &&& 31)) &&& nI 1) <<< (nI q &&& 31))) (nI 0) i_4)), (3, .int (nI i_4))] → W pr l e (rmD 0 0 0) s m args below meth c H locs 0 0 Q (F0 m 4 ls []) := by
    intro k_4
    induction k_4 with
    | zero =>
      intro i_4 g1 g2
      exact absurd g1 (by omega)
    | succ k_4 ih_4 =>
      intro i_4 g1_4 g2_4  H locs ls h hl
      refine lv_iload_n hx hb dX3_secondedBy_4 rfl (lv_at hl 3 rfl) ?_
      refine lv_aload_n hx hb dX3_secondedBy_5 rfl (lv_at hl 0 rfl) ?_
      refine fg_X3_30 hB X h dX3_secondedBy_6 ?_
      refine lv_as (y := nI ((mn r))) (k2) ?_
      refine lv_icmp_ge (tgt := 37) hx hb dX3_secondedBy_9 (by decide) (fun c_9 => ?_) (fun c_9 => ?_)
      · rw [nI_leI (by omega) (by omega)] at c_9
        refine lv_iload_n hx hb dX3_secondedBy_37 rfl (lv_at hl 2 rfl) ?_
        exact hret (itr (fun q a => a ||| (((r (5 * q + 88) >>> (d &&& 31)) &&& nI 1) <<< (nI q &&& 31))) (nI 0) i_4) G _ _ 38 _ (⟨by rw [show i_4 = mn r by omega]; rfl, rfl⟩) h dX3_secondedBy_38
      · rw [nI_leI (by omega) (by omega)] at c_9
        refine lv_aload_n hx hb dX3_secondedBy_12 rfl (lv_at hl 0 rfl) ?_
        refine fg_X3_27 hB X h dX3_secondedBy_13 ?_
        refine lv_iload_n hx hb dX3_secondedBy_16 rfl (lv_at hl 3 rfl) ?_
        refine rg_ild X h (b + 17) (hB.lt (by decide)) (sa_17 hB J ad) (i_4) rfl (by omega) (by decide) dX3_secondedBy_17 ?_
        refine lv_as (y := r (5 * i_4 + 88)) ((hP.2 i_4 (by omega)).2.2.2.2.2.1) ?_
        refine lv_iload_n hx hb dX3_secondedBy_18 rfl (lv_at hl 1 rfl) ?_
        refine lv_ishr hx hb dX3_secondedBy_19 ?_
        refine lv_iconst (v := nI 1) hx hb dX3_secondedBy_20 (by decide) ?_
        refine lv_iand hx hb dX3_secondedBy_21 ?_
        refine lv_if_eq (tgt := 31) hx hb dX3_secondedBy_22 (by decide) (fun c_22 => ?_) (fun c_22 => ?_)
        · rw [show itr (fun q a => a ||| (((r (5 * q + 88) >>> (d &&& 31)) &&& nI 1) <<< (nI q &&& 31))) (nI 0) i_4 = itr (fun q a => a ||| (((r (5 * q + 88) >>> (d &&& 31)) &&& nI 1) <<< (nI q &&& 31))) (nI 0) (i_4 + 1) from by show _ = _ ||| (_ <<< _); rw [c_22]; simp] at hl
          refine lv_iinc (v := nI (i_4 + 1)) (lv' := [(3, .int (nI (i_4 + 1))), (0, .ref (ad (b + 11))), (1, .int d), (2, .int (itr (fun q a => a ||| (((r (5 * q + 88) >>> (d &&& 31)) &&& nI 1) <<< (nI q &&& 31))) (nI 0) (i_4 + 1)))]) hx hb dX3_secondedBy_31 hl (k := 3) rfl (nI_addc (b := 1) (by omega)) (by decide) rfl (fun ls hl => ?_)
          refine lv_goto (tgt := 4) hx hb dX3_secondedBy_34 (by decide) ?_
          exact ih_4 (i_4 + 1) (by omega) (by omega) _ _ _ h (lv_sub hl [1, 2, 3, 0] rfl)
        · refine lv_iload_n hx hb dX3_secondedBy_25 rfl (lv_at hl 2 rfl) ?_
          refine lv_iconst (v := nI 1) hx hb dX3_secondedBy_26 (by decide) ?_
          refine lv_iload_n hx hb dX3_secondedBy_27 rfl (lv_at hl 3 rfl) ?_
          refine lv_ishl hx hb dX3_secondedBy_28 ?_
          refine lv_ior hx hb dX3_secondedBy_29 ?_
          refine lv_istore_n (lv' := [(2, .int ((itr (fun q a => a ||| (((r (5 * q + 88) >>> (d &&& 31)) &&& nI 1) <<< (nI q &&& 31))) (nI 0) i_4) ||| ((nI 1) <<< ((nI i_4) &&& 31)))), (0, .ref (ad (b + 11))), (1, .int d), (3, .int (nI i_4))]) hx hb dX3_secondedBy_30 rfl hl (by decide) rfl (fun ls hl => ?_)
          rw [show (itr (fun q a => a ||| (((r (5 * q + 88) >>> (d &&& 31)) &&& nI 1) <<< (nI q &&& 31))) (nI 0) i_4) ||| ((nI 1) <<< ((nI i_4) &&& 31)) = itr (fun q a => a ||| (((r (5 * q + 88) >>> (d &&& 31)) &&& nI 1) <<< (nI q &&& 31))) (nI 0) (i_4 + 1) from by show _ = _ ||| (_ <<< _); rw [(and1 _).resolve_left c_22]] at hl
          refine lv_iinc (v := nI (i_4 + 1)) (lv' := [(3, .int (nI (i_4 + 1))), (2, .int (itr (fun q a => a ||| (((r (5 * q + 88) >>> (d &&& 31)) &&& nI 1) <<< (nI q &&& 31))) (nI 0) (i_4 + 1))), (0, .ref (ad (b + 11))), (1, .int d)]) hx hb dX3_secondedBy_31 hl (k := 3) rfl (nI_addc (b := 1) (by omega)) (by decide) rfl (fun ls hl => ?_)
          refine lv_goto (tgt := 4) hx hb dX3_secondedBy_34 (by decide) ?_
          exact ih_4 (i_4 + 1) (by omega) (by omega) _ _ _ h (lv_sub hl [2, 3, 1, 0] rfl)
  exact LP_4 ((mn r) + 1) 0 (by omega) (by omega) _ _ _ h (lv_sub hl [2, 3, 1, 0] rfl)
set_option maxHeartbeats 4000000 in
set_option maxRecDepth 100000 in
theorem c_X3_rankOf (l : Launch) (J : JJ) (z : ZZ) (ad : Nat → Nat) (G : GG) (b : Nat) (hB : IsB b) (r : Nat → Int32) (hR : Rep G b r) (q : Nat) (hq : q < mn r) : MI l J z ad yX3_rankOf cX3_rankOf 6 .int 0 [.ref (ad (b + 11)), .int (nI q)] G (fun ans uG => ans = (nI (rnk (supp r) (mn r) q)) ∧ uG = (G)) := by
  refine MI.go (by decide) (Nat.le_of_ble_eq_true rfl) ?_
  intro pr e s m args below meth c ls Q X h hl hret
  have hx := X.1
  have hb := X.2.1
  have hown := X.2.2.2.1
  have hts := X.2.2.2.2
  have hl : lv_has ls 6 [(0, .ref (ad (b + 11))), (1, .int (nI q))] := hl
  have hR0 := hR
  obtain ⟨hI, hS, hL, hP, hQ, hV, hBt⟩ := hR
  have hW := hI.1
  obtain ⟨⟨w1, w2⟩, ⟨w3, w4⟩, ⟨w5, w6⟩, w7, w8⟩ := hI.1
  have k1 : G (b + 1) 0 = nI (kn r) := hS.1.trans w1
  have k2 : G (b + 11) 0 = nI (mn r) := hP.1.trans w3
  have k3 : G (b + 18) 0 = nI (on r) := hQ.1.trans w5
  have hcl := cnt_le (fun o => bef (supp r) o q)
  refine lv_iconst (v := nI 0) hx hb dX3_rankOf_0 (by decide) ?_
  refine lv_istore_n (lv' := [(2, .int (nI 0)), (0, .ref (ad (b + 11))), (1, .int (nI q))]) hx hb dX3_rankOf_1 rfl hl (by decide) rfl (fun ls hl => ?_)
  refine lv_iconst (v := nI 0) hx hb dX3_rankOf_2 (by decide) ?_
  refine lv_istore_n (lv' := [(3, .int (nI 0)), (2, .int (nI 0)), (0, .ref (ad (b + 11))), (1, .int (nI q))]) hx hb dX3_rankOf_3 rfl hl (by decide) rfl (fun ls hl => ?_)
  have LP_4 : ∀ (k_4 i_4 : Nat), (mn r) + 1 ≤ i_4 + k_4 → i_4 ≤ (mn r) → ∀ (H : Heap) (locs : List Loc) (ls : Array Slot), HG J z ad s G H locs → lv_has ls 6 [(0, .ref (ad (b + 11))), (1, .int (nI q)), (2, .int (nI ((cnt (fun o => bef (supp r) o q) i_4)))), (3, .int (nI i_4))] → W pr l e (rmD 0 0 0) s m args below meth c H locs 0 0 Q (F0 m 4 ls []) := by
    intro k_4
    induction k_4 with
    | zero =>
      intro i_4 g1 g2
      exact absurd g1 (by omega)
    | succ k_4 ih_4 =>
      intro i_4 g1_4 g2_4  H locs ls h hl
      refine lv_iload_n hx hb dX3_rankOf_4 rfl (lv_at hl 3 rfl) ?_
      refine lv_aload_n hx hb dX3_rankOf_5 rfl (lv_at hl 0 rfl) ?_
      refine fg_X3_30 hB X h dX3_rankOf_6 ?_
      refine lv_as (y := nI ((mn r))) (k2) ?_
      refine lv_icmp_ge (tgt := 80) hx hb dX3_rankOf_9 (by decide) (fun c_9 => ?_) (fun c_9 => ?_)
      · rw [nI_leI (by omega) (by omega)] at c_9
        refine lv_iload_n hx hb dX3_rankOf_80 rfl (lv_at hl 2 rfl) ?_
        exact hret (nI ((cnt (fun o => bef (supp r) o q) i_4))) G _ _ 81 _ (⟨by rw [show i_4 = mn r by omega]; rfl, rfl⟩) h dX3_rankOf_81
      · rw [nI_leI (by omega) (by omega)] at c_9
        have hcl2 := hcl i_4
        refine lv_aload_n hx hb dX3_rankOf_12 rfl (lv_at hl 0 rfl) ?_
        refine fg_X3_24 hB X h dX3_rankOf_13 ?_
        refine lv_iload_n hx hb dX3_rankOf_16 rfl (lv_at hl 3 rfl) ?_
        refine rg_ild X h (b + 16) (hB.lt (by decide)) (sa_16 hB J ad) (i_4) rfl (by omega) (by decide) dX3_rankOf_17 ?_
        refine lv_as (y := supp r i_4) ((hP.2 i_4 (by omega)).2.2.2.2.1) ?_
        refine lv_aload_n hx hb dX3_rankOf_18 rfl (lv_at hl 0 rfl) ?_
        refine fg_X3_24 hB X h dX3_rankOf_19 ?_
        refine lv_iload_n hx hb dX3_rankOf_22 rfl (lv_at hl 1 rfl) ?_
        refine rg_ild X h (b + 16) (hB.lt (by decide)) (sa_16 hB J ad) (q) rfl (by omega) (by decide) dX3_rankOf_23 ?_
        refine lv_as (y := supp r q) ((hP.2 q hq).2.2.2.2.1) ?_
        refine lv_icmp_le (tgt := 31) hx hb dX3_rankOf_24 (by decide) (fun c_24 => ?_) (fun c_24 => ?_)
        · refine lv_iconst (v := nI 0) hx hb dX3_rankOf_31 (by decide) ?_
          refine lv_istore (lv' := [(4, .int (nI 0)), (0, .ref (ad (b + 11))), (1, .int (nI q)), (2, .int (nI ((cnt (fun o => bef (supp r) o q) i_4)))), (3, .int (nI i_4))]) hx hb dX3_rankOf_32 hl (by decide) rfl (fun ls hl => ?_)
          refine lv_aload_n hx hb dX3_rankOf_34 rfl (lv_at hl 1 rfl) ?_
          refine fg_X3_24 hB X h dX3_rankOf_35 ?_
          refine lv_iload_n hx hb dX3_rankOf_38 rfl (lv_at hl 4 rfl) ?_
          refine rg_ild X h (b + 16) (hB.lt (by decide)) (sa_16 hB J ad) (i_4) rfl (by omega) (by decide) dX3_rankOf_39 ?_
          refine lv_as (y := supp r i_4) ((hP.2 i_4 (by omega)).2.2.2.2.1) ?_
          refine lv_aload_n hx hb dX3_rankOf_40 rfl (lv_at hl 1 rfl) ?_
          refine fg_X3_24 hB X h dX3_rankOf_41 ?_
          refine lv_iload_n hx hb dX3_rankOf_44 rfl (lv_at hl 2 rfl) ?_
          refine rg_ild X h (b + 16) (hB.lt (by decide)) (sa_16 hB J ad) (q) rfl (by omega) (by decide) dX3_rankOf_45 ?_
          refine lv_as (y := supp r q) ((hP.2 q hq).2.2.2.2.1) ?_
          refine lv_icmp_ne (tgt := 58) hx hb dX3_rankOf_46 (by decide) (fun c_46 => ?_) (fun c_46 => ?_)
          · refine lv_iconst (v := nI 0) hx hb dX3_rankOf_58 (by decide) ?_
            refine lv_istore (lv' := [(5, .int (nI 0)), (4, .int (nI 0)), (0, .ref (ad (b + 11))), (1, .int (nI q)), (2, .int (nI ((cnt (fun o => bef (supp r) o q) i_4)))), (3, .int (nI i_4))]) hx hb dX3_rankOf_59 hl (by decide) rfl (fun ls hl => ?_)
            refine lv_iload hx hb dX3_rankOf_61 (lv_at hl 1 rfl) ?_
            refine lv_if_ne (tgt := 71) hx hb dX3_rankOf_63 (by decide) (fun c_63 => absurd (by decide) c_63) (fun c_63 => ?_)
            refine lv_iload hx hb dX3_rankOf_66 (lv_at hl 0 rfl) ?_
            refine lv_if_eq (tgt := 74) hx hb dX3_rankOf_68 (by decide) (fun c_68 => ?_) (fun c_68 => absurd (by decide) c_68)
            rw [show (cnt (fun o => bef (supp r) o q) i_4) = cnt (fun o => bef (supp r) o q) (i_4 + 1) from (cnt_f (P := fun o => bef (supp r) o q) (fun q => by rcases q with q | ⟨q1, q2⟩; exact Int32.not_lt.mpr c_24 q; first | exact c_46 q1 | omega)).symm] at hl
            refine lv_iinc (v := nI (i_4 + 1)) (lv' := [(3, .int (nI (i_4 + 1))), (5, .int (nI 0)), (4, .int (nI 0)), (0, .ref (ad (b + 11))), (1, .int (nI q)), (2, .int (nI ((cnt (fun o => bef (supp r) o q) (i_4 + 1)))))]) hx hb dX3_rankOf_74 hl (k := 5) rfl (nI_addc (b := 1) (by omega)) (by decide) rfl (fun ls hl => ?_)
            refine lv_goto (tgt := 4) hx hb dX3_rankOf_77 (by decide) ?_
            exact ih_4 (i_4 + 1) (by omega) (by omega) _ _ _ h (lv_sub hl [3, 4, 5, 0] rfl)
          · refine lv_iload_n hx hb dX3_rankOf_49 rfl (lv_at hl 4 rfl) ?_
            refine lv_iload_n hx hb dX3_rankOf_50 rfl (lv_at hl 2 rfl) ?_
            refine lv_icmp_ge (tgt := 58) hx hb dX3_rankOf_51 (by decide) (fun c_51 => ?_) (fun c_51 => ?_)
            · rw [nI_leI (by omega) (by omega)] at c_51
              refine lv_iconst (v := nI 0) hx hb dX3_rankOf_58 (by decide) ?_
              refine lv_istore (lv' := [(5, .int (nI 0)), (4, .int (nI 0)), (0, .ref (ad (b + 11))), (1, .int (nI q)), (2, .int (nI ((cnt (fun o => bef (supp r) o q) i_4)))), (3, .int (nI i_4))]) hx hb dX3_rankOf_59 hl (by decide) rfl (fun ls hl => ?_)
              refine lv_iload hx hb dX3_rankOf_61 (lv_at hl 1 rfl) ?_
              refine lv_if_ne (tgt := 71) hx hb dX3_rankOf_63 (by decide) (fun c_63 => absurd (by decide) c_63) (fun c_63 => ?_)
              refine lv_iload hx hb dX3_rankOf_66 (lv_at hl 0 rfl) ?_
              refine lv_if_eq (tgt := 74) hx hb dX3_rankOf_68 (by decide) (fun c_68 => ?_) (fun c_68 => absurd (by decide) c_68)
              rw [show (cnt (fun o => bef (supp r) o q) i_4) = cnt (fun o => bef (supp r) o q) (i_4 + 1) from (cnt_f (P := fun o => bef (supp r) o q) (fun q => by rcases q with q | ⟨q1, q2⟩; exact Int32.not_lt.mpr c_24 q; first | exact c_46 q1 | omega)).symm] at hl
              refine lv_iinc (v := nI (i_4 + 1)) (lv' := [(3, .int (nI (i_4 + 1))), (5, .int (nI 0)), (4, .int (nI 0)), (0, .ref (ad (b + 11))), (1, .int (nI q)), (2, .int (nI ((cnt (fun o => bef (supp r) o q) (i_4 + 1)))))]) hx hb dX3_rankOf_74 hl (k := 5) rfl (nI_addc (b := 1) (by omega)) (by decide) rfl (fun ls hl => ?_)
              refine lv_goto (tgt := 4) hx hb dX3_rankOf_77 (by decide) ?_
              exact ih_4 (i_4 + 1) (by omega) (by omega) _ _ _ h (lv_sub hl [3, 4, 5, 0] rfl)
            · rw [nI_leI (by omega) (by omega)] at c_51
              refine lv_iconst (v := nI 1) hx hb dX3_rankOf_54 (by decide) ?_
              refine lv_goto (tgt := 59) hx hb dX3_rankOf_55 (by decide) ?_
              refine lv_istore (lv' := [(5, .int (nI 1)), (4, .int (nI 0)), (0, .ref (ad (b + 11))), (1, .int (nI q)), (2, .int (nI ((cnt (fun o => bef (supp r) o q) i_4)))), (3, .int (nI i_4))]) hx hb dX3_rankOf_59 hl (by decide) rfl (fun ls hl => ?_)
              refine lv_iload hx hb dX3_rankOf_61 (lv_at hl 1 rfl) ?_
              refine lv_if_ne (tgt := 71) hx hb dX3_rankOf_63 (by decide) (fun c_63 => absurd (by decide) c_63) (fun c_63 => ?_)
              refine lv_iload hx hb dX3_rankOf_66 (lv_at hl 0 rfl) ?_
              refine lv_if_eq (tgt := 74) hx hb dX3_rankOf_68 (by decide) (fun c_68 => absurd c_68 (by decide)) (fun c_68 => ?_)
              refine lv_iinc (v := nI ((cnt (fun o => bef (supp r) o q) i_4) + 1)) (lv' := [(2, .int (nI ((cnt (fun o => bef (supp r) o q) i_4) + 1))), (5, .int (nI 1)), (4, .int (nI 0)), (0, .ref (ad (b + 11))), (1, .int (nI q)), (3, .int (nI i_4))]) hx hb dX3_rankOf_71 hl (k := 4) rfl (nI_addc (b := 1) (by omega)) (by decide) rfl (fun ls hl => ?_)
              rw [show (cnt (fun o => bef (supp r) o q) i_4) + 1 = cnt (fun o => bef (supp r) o q) (i_4 + 1) from (cnt_t (P := fun o => bef (supp r) o q) (by first | exact Or.inl (Int32.not_le.mp c_24) | exact Or.inr ⟨c_46, c_51⟩ | exact Or.inr ⟨c_46, Nat.not_le.mp c_51⟩)).symm] at hl
              refine lv_iinc (v := nI (i_4 + 1)) (lv' := [(3, .int (nI (i_4 + 1))), (2, .int (nI ((cnt (fun o => bef (supp r) o q) (i_4 + 1))))), (5, .int (nI 1)), (4, .int (nI 0)), (0, .ref (ad (b + 11))), (1, .int (nI q))]) hx hb dX3_rankOf_74 hl (k := 5) rfl (nI_addc (b := 1) (by omega)) (by decide) rfl (fun ls hl => ?_)
              refine lv_goto (tgt := 4) hx hb dX3_rankOf_77 (by decide) ?_
              exact ih_4 (i_4 + 1) (by omega) (by omega) _ _ _ h (lv_sub hl [4, 5, 1, 0] rfl)
        · refine lv_iconst (v := nI 1) hx hb dX3_rankOf_27 (by decide) ?_
          refine lv_goto (tgt := 32) hx hb dX3_rankOf_28 (by decide) ?_
          refine lv_istore (lv' := [(4, .int (nI 1)), (0, .ref (ad (b + 11))), (1, .int (nI q)), (2, .int (nI ((cnt (fun o => bef (supp r) o q) i_4)))), (3, .int (nI i_4))]) hx hb dX3_rankOf_32 hl (by decide) rfl (fun ls hl => ?_)
          refine lv_aload_n hx hb dX3_rankOf_34 rfl (lv_at hl 1 rfl) ?_
          refine fg_X3_24 hB X h dX3_rankOf_35 ?_
          refine lv_iload_n hx hb dX3_rankOf_38 rfl (lv_at hl 4 rfl) ?_
          refine rg_ild X h (b + 16) (hB.lt (by decide)) (sa_16 hB J ad) (i_4) rfl (by omega) (by decide) dX3_rankOf_39 ?_
          refine lv_as (y := supp r i_4) ((hP.2 i_4 (by omega)).2.2.2.2.1) ?_
          refine lv_aload_n hx hb dX3_rankOf_40 rfl (lv_at hl 1 rfl) ?_
          refine fg_X3_24 hB X h dX3_rankOf_41 ?_
          refine lv_iload_n hx hb dX3_rankOf_44 rfl (lv_at hl 2 rfl) ?_
          refine rg_ild X h (b + 16) (hB.lt (by decide)) (sa_16 hB J ad) (q) rfl (by omega) (by decide) dX3_rankOf_45 ?_
          refine lv_as (y := supp r q) ((hP.2 q hq).2.2.2.2.1) ?_
          refine lv_icmp_ne (tgt := 58) hx hb dX3_rankOf_46 (by decide) (fun c_46 => ?_) (fun c_46 => ?_)
          · refine lv_iconst (v := nI 0) hx hb dX3_rankOf_58 (by decide) ?_
            refine lv_istore (lv' := [(5, .int (nI 0)), (4, .int (nI 1)), (0, .ref (ad (b + 11))), (1, .int (nI q)), (2, .int (nI ((cnt (fun o => bef (supp r) o q) i_4)))), (3, .int (nI i_4))]) hx hb dX3_rankOf_59 hl (by decide) rfl (fun ls hl => ?_)
            refine lv_iload hx hb dX3_rankOf_61 (lv_at hl 1 rfl) ?_
            refine lv_if_ne (tgt := 71) hx hb dX3_rankOf_63 (by decide) (fun c_63 => ?_) (fun c_63 => absurd c_63 (by decide))
            refine lv_iinc (v := nI ((cnt (fun o => bef (supp r) o q) i_4) + 1)) (lv' := [(2, .int (nI ((cnt (fun o => bef (supp r) o q) i_4) + 1))), (5, .int (nI 0)), (4, .int (nI 1)), (0, .ref (ad (b + 11))), (1, .int (nI q)), (3, .int (nI i_4))]) hx hb dX3_rankOf_71 hl (k := 4) rfl (nI_addc (b := 1) (by omega)) (by decide) rfl (fun ls hl => ?_)
            rw [show (cnt (fun o => bef (supp r) o q) i_4) + 1 = cnt (fun o => bef (supp r) o q) (i_4 + 1) from (cnt_t (P := fun o => bef (supp r) o q) (by first | exact Or.inl (Int32.not_le.mp c_24) | exact Or.inr ⟨c_46, c_51⟩ | exact Or.inr ⟨c_46, Nat.not_le.mp c_51⟩)).symm] at hl
            refine lv_iinc (v := nI (i_4 + 1)) (lv' := [(3, .int (nI (i_4 + 1))), (2, .int (nI ((cnt (fun o => bef (supp r) o q) (i_4 + 1))))), (5, .int (nI 0)), (4, .int (nI 1)), (0, .ref (ad (b + 11))), (1, .int (nI q))]) hx hb dX3_rankOf_74 hl (k := 5) rfl (nI_addc (b := 1) (by omega)) (by decide) rfl (fun ls hl => ?_)
            refine lv_goto (tgt := 4) hx hb dX3_rankOf_77 (by decide) ?_
            exact ih_4 (i_4 + 1) (by omega) (by omega) _ _ _ h (lv_sub hl [4, 5, 1, 0] rfl)
          · refine lv_iload_n hx hb dX3_rankOf_49 rfl (lv_at hl 4 rfl) ?_
            refine lv_iload_n hx hb dX3_rankOf_50 rfl (lv_at hl 2 rfl) ?_
            refine lv_icmp_ge (tgt := 58) hx hb dX3_rankOf_51 (by decide) (fun c_51 => ?_) (fun c_51 => ?_)
            · rw [nI_leI (by omega) (by omega)] at c_51
              refine lv_iconst (v := nI 0) hx hb dX3_rankOf_58 (by decide) ?_
              refine lv_istore (lv' := [(5, .int (nI 0)), (4, .int (nI 1)), (0, .ref (ad (b + 11))), (1, .int (nI q)), (2, .int (nI ((cnt (fun o => bef (supp r) o q) i_4)))), (3, .int (nI i_4))]) hx hb dX3_rankOf_59 hl (by decide) rfl (fun ls hl => ?_)
              refine lv_iload hx hb dX3_rankOf_61 (lv_at hl 1 rfl) ?_
              refine lv_if_ne (tgt := 71) hx hb dX3_rankOf_63 (by decide) (fun c_63 => ?_) (fun c_63 => absurd c_63 (by decide))
              refine lv_iinc (v := nI ((cnt (fun o => bef (supp r) o q) i_4) + 1)) (lv' := [(2, .int (nI ((cnt (fun o => bef (supp r) o q) i_4) + 1))), (5, .int (nI 0)), (4, .int (nI 1)), (0, .ref (ad (b + 11))), (1, .int (nI q)), (3, .int (nI i_4))]) hx hb dX3_rankOf_71 hl (k := 4) rfl (nI_addc (b := 1) (by omega)) (by decide) rfl (fun ls hl => ?_)
              rw [show (cnt (fun o => bef (supp r) o q) i_4) + 1 = cnt (fun o => bef (supp r) o q) (i_4 + 1) from (cnt_t (P := fun o => bef (supp r) o q) (by first | exact Or.inl (Int32.not_le.mp c_24) | exact Or.inr ⟨c_46, c_51⟩ | exact Or.inr ⟨c_46, Nat.not_le.mp c_51⟩)).symm] at hl
              refine lv_iinc (v := nI (i_4 + 1)) (lv' := [(3, .int (nI (i_4 + 1))), (2, .int (nI ((cnt (fun o => bef (supp r) o q) (i_4 + 1))))), (5, .int (nI 0)), (4, .int (nI 1)), (0, .ref (ad (b + 11))), (1, .int (nI q))]) hx hb dX3_rankOf_74 hl (k := 5) rfl (nI_addc (b := 1) (by omega)) (by decide) rfl (fun ls hl => ?_)
              refine lv_goto (tgt := 4) hx hb dX3_rankOf_77 (by decide) ?_
              exact ih_4 (i_4 + 1) (by omega) (by omega) _ _ _ h (lv_sub hl [4, 5, 1, 0] rfl)
            · rw [nI_leI (by omega) (by omega)] at c_51
              refine lv_iconst (v := nI 1) hx hb dX3_rankOf_54 (by decide) ?_
              refine lv_goto (tgt := 59) hx hb dX3_rankOf_55 (by decide) ?_
              refine lv_istore (lv' := [(5, .int (nI 1)), (4, .int (nI 1)), (0, .ref (ad (b + 11))), (1, .int (nI q)), (2, .int (nI ((cnt (fun o => bef (supp r) o q) i_4)))), (3, .int (nI i_4))]) hx hb dX3_rankOf_59 hl (by decide) rfl (fun ls hl => ?_)
              refine lv_iload hx hb dX3_rankOf_61 (lv_at hl 1 rfl) ?_
              refine lv_if_ne (tgt := 71) hx hb dX3_rankOf_63 (by decide) (fun c_63 => ?_) (fun c_63 => absurd c_63 (by decide))
              refine lv_iinc (v := nI ((cnt (fun o => bef (supp r) o q) i_4) + 1)) (lv' := [(2, .int (nI ((cnt (fun o => bef (supp r) o q) i_4) + 1))), (5, .int (nI 1)), (4, .int (nI 1)), (0, .ref (ad (b + 11))), (1, .int (nI q)), (3, .int (nI i_4))]) hx hb dX3_rankOf_71 hl (k := 4) rfl (nI_addc (b := 1) (by omega)) (by decide) rfl (fun ls hl => ?_)
              rw [show (cnt (fun o => bef (supp r) o q) i_4) + 1 = cnt (fun o => bef (supp r) o q) (i_4 + 1) from (cnt_t (P := fun o => bef (supp r) o q) (by first | exact Or.inl (Int32.not_le.mp c_24) | exact Or.inr ⟨c_46, c_51⟩ | exact Or.inr ⟨c_46, Nat.not_le.mp c_51⟩)).symm] at hl
              refine lv_iinc (v := nI (i_4 + 1)) (lv' := [(3, .int (nI (i_4 + 1))), (2, .int (nI ((cnt (fun o => bef (supp r) o q) (i_4 + 1))))), (5, .int (nI 1)), (4, .int (nI 1)), (0, .ref (ad (b + 11))), (1, .int (nI q))]) hx hb dX3_rankOf_74 hl (k := 5) rfl (nI_addc (b := 1) (by omega)) (by decide) rfl (fun ls hl => ?_)
              refine lv_goto (tgt := 4) hx hb dX3_rankOf_77 (by decide) ?_
              exact ih_4 (i_4 + 1) (by omega) (by omega) _ _ _ h (lv_sub hl [4, 5, 1, 0] rfl)
  exact LP_4 ((mn r) + 1) 0 (by omega) (by omega) _ _ _ h (lv_sub hl [2, 3, 1, 0] rfl)
set_option maxHeartbeats 4000000 in
set_option maxRecDepth 100000 in
theorem c_X3_atRank (l : Launch) (J : JJ) (z : ZZ) (ad : Nat → Nat) (G : GG) (b : Nat) (hB : IsB b) (r : Nat → Int32) (hR : Rep G b r) (x : Int32) : MI l J z ad yX3_atRank cX3_atRank 3 .int 1 [.ref (ad (b + 11)), .int x] G (fun ans uG => ans = (cif (isN x (mn r)) (nI (sg r (tn x))) (-5)) ∧ uG = (G)) := by
  refine MI.go (by decide) (Nat.le_of_ble_eq_true rfl) ?_
  intro pr e s m args below meth c ls Q X h hl hret
  have hx := X.1
  have hb := X.2.1
  have hown := X.2.2.2.1
  have hts := X.2.2.2.2
  have hl : lv_has ls 3 [(0, .ref (ad (b + 11))), (1, .int x)] := hl
  have hR0 := hR
  obtain ⟨hI, hS, hL, hP, hQ, hV, hBt⟩ := hR
  have hW := hI.1
  obtain ⟨⟨w1, w2⟩, ⟨w3, w4⟩, ⟨w5, w6⟩, w7, w8⟩ := hI.1
  have k1 : G (b + 1) 0 = nI (kn r) := hS.1.trans w1
  have k2 : G (b + 11) 0 = nI (mn r) := hP.1.trans w3
  have k3 : G (b + 18) 0 = nI (on r) := hQ.1.trans w5
  refine lv_iconst (v := nI 0) hx hb dX3_atRank_0 (by decide) ?_
  refine lv_istore_n (lv' := [(2, .int (nI 0)), (0, .ref (ad (b + 11))), (1, .int x)]) hx hb dX3_atRank_1 rfl hl (by decide) rfl (fun ls hl => ?_)
  have LP_2 : ∀ (k_2 i_2 : Nat), (mn r) + 1 ≤ i_2 + k_2 → i_2 ≤ (mn r) → ∀ (hn : ∀ j, j < i_2 → ¬ nI (rnk (supp r) (mn r) j) = x) (H : Heap) (locs : List Loc) (ls : Array Slot), HG J z ad s G H locs → lv_has ls 3 [(0, .ref (ad (b + 11))), (1, .int x), (2, .int (nI i_2))] → W pr l e (rmD 1 0 0) s m args below meth c H locs 0 0 Q (F0 m 2 ls []) := by
    intro k_2
    induction k_2 with
    | zero =>
      intro i_2 g1 g2
      exact absurd g1 (by omega)
    | succ k_2 ih_2 =>
      intro i_2 g1_2 g2_2 hn H locs ls h hl
      refine lv_iload_n hx hb dX3_atRank_2 rfl (lv_at hl 2 rfl) ?_
      refine lv_aload_n hx hb dX3_atRank_3 rfl (lv_at hl 0 rfl) ?_
      refine fg_X3_30 hB X h dX3_atRank_4 ?_
      refine lv_as (y := nI ((mn r))) (k2) ?_
      refine lv_icmp_ge (tgt := 27) hx hb dX3_atRank_7 (by decide) (fun c_7 => ?_) (fun c_7 => ?_)
      · rw [nI_leI (by omega) (by omega)] at c_7
        refine lv_bipush (v := (-5)) hx hb dX3_atRank_27 (by decide) ?_
        exact hret (-5) G _ _ 29 _ (⟨by rw [cif_f (fun q => by obtain ⟨k, q1, q2⟩ := q; exact hn (sg r k) (by have := (sg_ok r).1 k q1; omega) (by rw [ord_rnk (sg_ok r) q1, q2]))], rfl⟩) h dX3_atRank_29
      · rw [nI_leI (by omega) (by omega)] at c_7
        refine lv_aload_n hx hb dX3_atRank_10 rfl (lv_at hl 0 rfl) ?_
        refine lv_iload_n hx hb dX3_atRank_11 rfl (lv_at hl 2 rfl) ?_
        refine rg_civd (As := [.int (nI i_2)]) (rest := []) X hl.1 h (c_X3_rankOf l J z ad G b hB r hR0 i_2 (by omega)) mw_242 mw_243 mw_244 mw_38 mw_245 pdX3_rankOf (hB.lt (by decide)) (so_11 hB J ad _) rfl rfl ⟨Nat.le_of_ble_eq_true rfl, Nat.le_of_ble_eq_true rfl⟩ ⟨Nat.le_of_ble_eq_true rfl, Nat.le_of_ble_eq_true rfl⟩ rfl (Nat.le_of_ble_eq_true rfl) dX3_atRank_12 (fun H locs h => ?_)
        refine lv_iload_n hx hb dX3_atRank_15 rfl (lv_at hl 1 rfl) ?_
        refine lv_icmp_ne (tgt := 21) hx hb dX3_atRank_16 (by decide) (fun c_16 => ?_) (fun c_16 => ?_)
        · refine lv_iinc (v := nI (i_2 + 1)) (lv' := [(2, .int (nI (i_2 + 1))), (0, .ref (ad (b + 11))), (1, .int x)]) hx hb dX3_atRank_21 hl (k := 2) rfl (nI_addc (b := 1) (by omega)) (by decide) rfl (fun ls hl => ?_)
          refine lv_goto (tgt := 2) hx hb dX3_atRank_24 (by decide) ?_
          exact ih_2 (i_2 + 1) (by omega) (by omega) (fun j hj => by rcases (show j < i_2 ∨ j = i_2 by omega) with e | e; exact hn j e; rw [e]; exact c_16) _ _ _ h (lv_sub hl [1, 2, 0] rfl)
        · refine lv_iload_n hx hb dX3_atRank_19 rfl (lv_at hl 2 rfl) ?_
          exact hret (nI i_2) G _ _ 20 _ (⟨by have hA := (ord_at (sg_ok r) (show i_2 < mn r by omega)).mp rfl; rw [← c_16, cif_t ⟨_, hA.1, rfl⟩, tn_nI (by omega), hA.2], rfl⟩) h dX3_atRank_20
  exact LP_2 ((mn r) + 1) 0 (by omega) (by omega) (fun j hj => by omega) _ _ _ h (lv_sub hl [1, 2, 0] rfl)
set_option maxHeartbeats 4000000 in
set_option maxRecDepth 100000 in
theorem c_X4_greatestSupport (l : Launch) (J : JJ) (z : ZZ) (ad : Nat → Nat) (G : GG) (b : Nat) (hB : IsB b) (r : Nat → Int32) (hR : Rep G b r) (x g k : Int32) : MI l J z ad yX4_greatestSupport cX4_greatestSupport 7 .int 0 [.ref (ad (b + 18)), .int x, .int g, .int k] G (fun ans uG => ans = (gsI r x g k (on r)) ∧ uG = (G)) := by
  refine MI.go (by decide) (Nat.le_of_ble_eq_true rfl) ?_
  intro pr e s m args below meth c ls Q X h hl hret
  have hx := X.1
  have hb := X.2.1
  have hown := X.2.2.2.1
  have hts := X.2.2.2.2
  have hl : lv_has ls 7 [(0, .ref (ad (b + 18))), (1, .int x), (2, .int g), (3, .int k)] := hl
  have hR0 := hR
  obtain ⟨hI, hS, hL, hP, hQ, hV, hBt⟩ := hR
  have hW := hI.1
  obtain ⟨⟨w1, w2⟩, ⟨w3, w4⟩, ⟨w5, w6⟩, w7, w8⟩ := hI.1
  have k1 : G (b + 1) 0 = nI (kn r) := hS.1.trans w1
  have k2 : G (b + 11) 0 = nI (mn r) := hP.1.trans w3
  have k3 : G (b + 18) 0 = nI (on r) := hQ.1.trans w5
  refine lv_iconst (v := nI 0) hx hb dX4_greatestSupport_0 (by decide) ?_
  refine lv_istore (lv' := [(4, .int (nI 0)), (0, .ref (ad (b + 18))), (1, .int x), (2, .int g), (3, .int k)]) hx hb dX4_greatestSupport_1 hl (by decide) rfl (fun ls hl => ?_)
  refine lv_iconst (v := nI 0) hx hb dX4_greatestSupport_3 (by decide) ?_
  refine lv_istore (lv' := [(5, .int (nI 0)), (4, .int (nI 0)), (0, .ref (ad (b + 18))), (1, .int x), (2, .int g), (3, .int k)]) hx hb dX4_greatestSupport_4 hl (by decide) rfl (fun ls hl => ?_)
  have LP_6 : ∀ (k_6 i_6 : Nat), (on r) + 1 ≤ i_6 + k_6 → i_6 ≤ (on r) → ∀ (H : Heap) (locs : List Loc) (ls : Array Slot), HG J z ad s G H locs → lv_has ls 7 [(0, .ref (ad (b + 18))), (1, .int x), (2, .int g), (3, .int k), (4, .int (gsI r x g k i_6)), (5, .int (nI i_6))] → W pr l e (rmD 0 0 0) s m args below meth c H locs 0 0 Q (F0 m 6 ls []) := by
    intro k_6
    induction k_6 with
    | zero =>
      intro i_6 g1 g2
      exact absurd g1 (by omega)
    | succ k_6 ih_6 =>
      intro i_6 g1_6 g2_6  H locs ls h hl
      refine lv_iload hx hb dX4_greatestSupport_6 (lv_at hl 5 rfl) ?_
      refine lv_aload_n hx hb dX4_greatestSupport_8 rfl (lv_at hl 0 rfl) ?_
      refine fg_X4_24 hB X h dX4_greatestSupport_9 ?_
      refine lv_as (y := nI ((on r))) (k3) ?_
      refine lv_icmp_ge (tgt := 87) hx hb dX4_greatestSupport_12 (by decide) (fun c_12 => ?_) (fun c_12 => ?_)
      · rw [nI_leI (by omega) (by omega)] at c_12
        refine lv_iload hx hb dX4_greatestSupport_87 (lv_at hl 4 rfl) ?_
        exact hret (gsI r x g k i_6) G _ _ 89 _ (⟨by rw [show i_6 = on r by omega], rfl⟩) h dX4_greatestSupport_89
      · rw [nI_leI (by omega) (by omega)] at c_12
        refine lv_aload_n hx hb dX4_greatestSupport_15 rfl (lv_at hl 0 rfl) ?_
        refine fg_X4_9 hB X h dX4_greatestSupport_16 ?_
        refine lv_iload hx hb dX4_greatestSupport_19 (lv_at hl 5 rfl) ?_
        refine rg_ild X h (b + 19) (hB.lt (by decide)) (sa_19 hB J ad) (i_6) rfl (by omega) (by decide) dX4_greatestSupport_21 ?_
        refine lv_as (y := r (4 * i_6 + 144)) ((hQ.2 i_6 (by omega)).1) ?_
        refine lv_iload_n hx hb dX4_greatestSupport_22 rfl (lv_at hl 1 rfl) ?_
        refine lv_icmp_ne (tgt := 52) hx hb dX4_greatestSupport_23 (by decide) (fun c_23 => ?_) (fun c_23 => ?_)
        · refine lv_iconst (v := nI 0) hx hb dX4_greatestSupport_52 (by decide) ?_
          refine lv_istore (lv' := [(6, .int (nI 0)), (0, .ref (ad (b + 18))), (1, .int x), (2, .int g), (3, .int k), (4, .int (gsI r x g k i_6)), (5, .int (nI i_6))]) hx hb dX4_greatestSupport_53 hl (by decide) rfl (fun ls hl => ?_)
          refine lv_iload hx hb dX4_greatestSupport_55 (lv_at hl 0 rfl) ?_
          refine lv_if_eq (tgt := 81) hx hb dX4_greatestSupport_57 (by decide) (fun c_57 => ?_) (fun c_57 => absurd (by decide) c_57)
          rw [show gsI r x g k i_6 = gsI r x g k (i_6 + 1) from by show _ = ite _ _ _; rw [if_neg (fun q => by first | exact c_23 q.1.1 | exact c_34 q.1.2.1 | exact c_45 q.1.2.2 | exact Int32.not_lt.mpr c_69 q.2)]; rfl] at hl
          refine lv_iinc (v := nI (i_6 + 1)) (lv' := [(5, .int (nI (i_6 + 1))), (6, .int (nI 0)), (0, .ref (ad (b + 18))), (1, .int x), (2, .int g), (3, .int k), (4, .int (gsI r x g k (i_6 + 1)))]) hx hb dX4_greatestSupport_81 hl (k := 6) rfl (nI_addc (b := 1) (by omega)) (by decide) rfl (fun ls hl => ?_)
          refine lv_goto (tgt := 6) hx hb dX4_greatestSupport_84 (by decide) ?_
          exact ih_6 (i_6 + 1) (by omega) (by omega) _ _ _ h (lv_sub hl [2, 3, 4, 5, 6, 0] rfl)
        · refine lv_aload_n hx hb dX4_greatestSupport_26 rfl (lv_at hl 0 rfl) ?_
          refine fg_X4_15 hB X h dX4_greatestSupport_27 ?_
          refine lv_iload hx hb dX4_greatestSupport_30 (lv_at hl 5 rfl) ?_
          refine rg_ild X h (b + 20) (hB.lt (by decide)) (sa_20 hB J ad) (i_6) rfl (by omega) (by decide) dX4_greatestSupport_32 ?_
          refine lv_as (y := r (4 * i_6 + 145)) ((hQ.2 i_6 (by omega)).2.1) ?_
          refine lv_iload_n hx hb dX4_greatestSupport_33 rfl (lv_at hl 2 rfl) ?_
          refine lv_icmp_ne (tgt := 52) hx hb dX4_greatestSupport_34 (by decide) (fun c_34 => ?_) (fun c_34 => ?_)
          · refine lv_iconst (v := nI 0) hx hb dX4_greatestSupport_52 (by decide) ?_
            refine lv_istore (lv' := [(6, .int (nI 0)), (0, .ref (ad (b + 18))), (1, .int x), (2, .int g), (3, .int k), (4, .int (gsI r x g k i_6)), (5, .int (nI i_6))]) hx hb dX4_greatestSupport_53 hl (by decide) rfl (fun ls hl => ?_)
            refine lv_iload hx hb dX4_greatestSupport_55 (lv_at hl 0 rfl) ?_
            refine lv_if_eq (tgt := 81) hx hb dX4_greatestSupport_57 (by decide) (fun c_57 => ?_) (fun c_57 => absurd (by decide) c_57)
            rw [show gsI r x g k i_6 = gsI r x g k (i_6 + 1) from by show _ = ite _ _ _; rw [if_neg (fun q => by first | exact c_23 q.1.1 | exact c_34 q.1.2.1 | exact c_45 q.1.2.2 | exact Int32.not_lt.mpr c_69 q.2)]; rfl] at hl
            refine lv_iinc (v := nI (i_6 + 1)) (lv' := [(5, .int (nI (i_6 + 1))), (6, .int (nI 0)), (0, .ref (ad (b + 18))), (1, .int x), (2, .int g), (3, .int k), (4, .int (gsI r x g k (i_6 + 1)))]) hx hb dX4_greatestSupport_81 hl (k := 6) rfl (nI_addc (b := 1) (by omega)) (by decide) rfl (fun ls hl => ?_)
            refine lv_goto (tgt := 6) hx hb dX4_greatestSupport_84 (by decide) ?_
            exact ih_6 (i_6 + 1) (by omega) (by omega) _ _ _ h (lv_sub hl [2, 3, 4, 5, 6, 0] rfl)
          · refine lv_aload_n hx hb dX4_greatestSupport_37 rfl (lv_at hl 0 rfl) ?_
            refine fg_X4_18 hB X h dX4_greatestSupport_38 ?_
            refine lv_iload hx hb dX4_greatestSupport_41 (lv_at hl 5 rfl) ?_
            refine rg_ild X h (b + 21) (hB.lt (by decide)) (sa_21 hB J ad) (i_6) rfl (by omega) (by decide) dX4_greatestSupport_43 ?_
            refine lv_as (y := r (4 * i_6 + 146)) ((hQ.2 i_6 (by omega)).2.2.1) ?_
            refine lv_iload_n hx hb dX4_greatestSupport_44 rfl (lv_at hl 3 rfl) ?_
            refine lv_icmp_ne (tgt := 52) hx hb dX4_greatestSupport_45 (by decide) (fun c_45 => ?_) (fun c_45 => ?_)
            · refine lv_iconst (v := nI 0) hx hb dX4_greatestSupport_52 (by decide) ?_
              refine lv_istore (lv' := [(6, .int (nI 0)), (0, .ref (ad (b + 18))), (1, .int x), (2, .int g), (3, .int k), (4, .int (gsI r x g k i_6)), (5, .int (nI i_6))]) hx hb dX4_greatestSupport_53 hl (by decide) rfl (fun ls hl => ?_)
              refine lv_iload hx hb dX4_greatestSupport_55 (lv_at hl 0 rfl) ?_
              refine lv_if_eq (tgt := 81) hx hb dX4_greatestSupport_57 (by decide) (fun c_57 => ?_) (fun c_57 => absurd (by decide) c_57)
              rw [show gsI r x g k i_6 = gsI r x g k (i_6 + 1) from by show _ = ite _ _ _; rw [if_neg (fun q => by first | exact c_23 q.1.1 | exact c_34 q.1.2.1 | exact c_45 q.1.2.2 | exact Int32.not_lt.mpr c_69 q.2)]; rfl] at hl
              refine lv_iinc (v := nI (i_6 + 1)) (lv' := [(5, .int (nI (i_6 + 1))), (6, .int (nI 0)), (0, .ref (ad (b + 18))), (1, .int x), (2, .int g), (3, .int k), (4, .int (gsI r x g k (i_6 + 1)))]) hx hb dX4_greatestSupport_81 hl (k := 6) rfl (nI_addc (b := 1) (by omega)) (by decide) rfl (fun ls hl => ?_)
              refine lv_goto (tgt := 6) hx hb dX4_greatestSupport_84 (by decide) ?_
              exact ih_6 (i_6 + 1) (by omega) (by omega) _ _ _ h (lv_sub hl [2, 3, 4, 5, 6, 0] rfl)
            · refine lv_iconst (v := nI 1) hx hb dX4_greatestSupport_48 (by decide) ?_
              refine lv_goto (tgt := 53) hx hb dX4_greatestSupport_49 (by decide) ?_
              refine lv_istore (lv' := [(6, .int (nI 1)), (0, .ref (ad (b + 18))), (1, .int x), (2, .int g), (3, .int k), (4, .int (gsI r x g k i_6)), (5, .int (nI i_6))]) hx hb dX4_greatestSupport_53 hl (by decide) rfl (fun ls hl => ?_)
              refine lv_iload hx hb dX4_greatestSupport_55 (lv_at hl 0 rfl) ?_
              refine lv_if_eq (tgt := 81) hx hb dX4_greatestSupport_57 (by decide) (fun c_57 => absurd c_57 (by decide)) (fun c_57 => ?_)
              refine lv_aload_n hx hb dX4_greatestSupport_60 rfl (lv_at hl 1 rfl) ?_
              refine fg_X4_21 hB X h dX4_greatestSupport_61 ?_
              refine lv_iload hx hb dX4_greatestSupport_64 (lv_at hl 6 rfl) ?_
              refine rg_ild X h (b + 22) (hB.lt (by decide)) (sa_22 hB J ad) (i_6) rfl (by omega) (by decide) dX4_greatestSupport_66 ?_
              refine lv_as (y := r (4 * i_6 + 147)) ((hQ.2 i_6 (by omega)).2.2.2.1) ?_
              refine lv_iload hx hb dX4_greatestSupport_67 (lv_at hl 5 rfl) ?_
              refine lv_icmp_le (tgt := 81) hx hb dX4_greatestSupport_69 (by decide) (fun c_69 => ?_) (fun c_69 => ?_)
              · rw [show gsI r x g k i_6 = gsI r x g k (i_6 + 1) from by show _ = ite _ _ _; rw [if_neg (fun q => by first | exact c_23 q.1.1 | exact c_34 q.1.2.1 | exact c_45 q.1.2.2 | exact Int32.not_lt.mpr c_69 q.2)]; rfl] at hl
                refine lv_iinc (v := nI (i_6 + 1)) (lv' := [(5, .int (nI (i_6 + 1))), (6, .int (nI 1)), (0, .ref (ad (b + 18))), (1, .int x), (2, .int g), (3, .int k), (4, .int (gsI r x g k (i_6 + 1)))]) hx hb dX4_greatestSupport_81 hl (k := 6) rfl (nI_addc (b := 1) (by omega)) (by decide) rfl (fun ls hl => ?_)
                refine lv_goto (tgt := 6) hx hb dX4_greatestSupport_84 (by decide) ?_
                exact ih_6 (i_6 + 1) (by omega) (by omega) _ _ _ h (lv_sub hl [2, 3, 4, 5, 6, 0] rfl)
              · refine lv_aload_n hx hb dX4_greatestSupport_72 rfl (lv_at hl 1 rfl) ?_
                refine fg_X4_21 hB X h dX4_greatestSupport_73 ?_
                refine lv_iload hx hb dX4_greatestSupport_76 (lv_at hl 6 rfl) ?_
                refine rg_ild X h (b + 22) (hB.lt (by decide)) (sa_22 hB J ad) (i_6) rfl (by omega) (by decide) dX4_greatestSupport_78 ?_
                refine lv_as (y := r (4 * i_6 + 147)) ((hQ.2 i_6 (by omega)).2.2.2.1) ?_
                refine lv_istore (lv' := [(4, .int (r (4 * i_6 + 147))), (6, .int (nI 1)), (0, .ref (ad (b + 18))), (1, .int x), (2, .int g), (3, .int k), (5, .int (nI i_6))]) hx hb dX4_greatestSupport_79 hl (by decide) rfl (fun ls hl => ?_)
                rw [show r (4 * i_6 + 147) = gsI r x g k (i_6 + 1) from by show _ = ite _ _ _; rw [if_pos ⟨⟨c_23, c_34, c_45⟩, Int32.not_le.mp c_69⟩]] at hl
                refine lv_iinc (v := nI (i_6 + 1)) (lv' := [(5, .int (nI (i_6 + 1))), (4, .int (gsI r x g k (i_6 + 1))), (6, .int (nI 1)), (0, .ref (ad (b + 18))), (1, .int x), (2, .int g), (3, .int k)]) hx hb dX4_greatestSupport_81 hl (k := 6) rfl (nI_addc (b := 1) (by omega)) (by decide) rfl (fun ls hl => ?_)
                refine lv_goto (tgt := 6) hx hb dX4_greatestSupport_84 (by decide) ?_
                exact ih_6 (i_6 + 1) (by omega) (by omega) _ _ _ h (lv_sub hl [3, 4, 5, 6, 1, 0] rfl)
  exact LP_6 ((on r) + 1) 0 (by omega) (by omega) _ _ _ h (lv_sub hl [2, 3, 4, 5, 1, 0] rfl)
set_option maxHeartbeats 4000000 in
set_option maxRecDepth 100000 in
theorem c_X5_reasonToRefuse (l : Launch) (J : JJ) (z : ZZ) (ad : Nat → Nat) (G : GG) (b : Nat) (hB : IsB b) (r : Nat → Int32) (hR : Rep G b r) (q : Nat) (hq : q < mn r) (v : Int32) (hv : 0 < v) : MI l J z ad yX5_reasonToRefuse cX5_reasonToRefuse 8 .int 1 [.ref (ad b), .int (nI q), .int v] G (fun ans uG => ans = (refu r q v) ∧ uG = (G)) := by
  refine MI.go (by decide) (Nat.le_of_ble_eq_true rfl) ?_
  intro pr e s m args below meth c ls Q X h hl hret
  have hx := X.1
  have hb := X.2.1
  have hown := X.2.2.2.1
  have hts := X.2.2.2.2
  have hl : lv_has ls 8 [(0, .ref (ad b)), (1, .int (nI q)), (2, .int v)] := hl
  have hR0 := hR
  obtain ⟨hI, hS, hL, hP, hQ, hV, hBt⟩ := hR
  have hW := hI.1
  obtain ⟨⟨w1, w2⟩, ⟨w3, w4⟩, ⟨w5, w6⟩, w7, w8⟩ := hI.1
  have k1 : G (b + 1) 0 = nI (kn r) := hS.1.trans w1
  have k2 : G (b + 11) 0 = nI (mn r) := hP.1.trans w3
  have k3 : G (b + 18) 0 = nI (on r) := hQ.1.trans w5
  obtain ⟨v1, v2, v3, v4, v5, v6, v7, v8⟩ := w7 q hq
  have hre := refu_cl hW hL hQ hq hv
  refine lv_aload_n hx hb dX5_reasonToRefuse_0 rfl (lv_at hl 0 rfl) ?_
  refine fg_X5_28 hB X h dX5_reasonToRefuse_1 ?_
  refine fg_X5_149 hB X h dX5_reasonToRefuse_4 ?_
  refine lv_iload_n hx hb dX5_reasonToRefuse_7 rfl (lv_at hl 1 rfl) ?_
  refine rg_ild X h (b + 13) (hB.lt (by decide)) (sa_13 hB J ad) (q) rfl (by omega) (by decide) dX5_reasonToRefuse_8 ?_
  refine lv_as (y := nI ((pc r q))) ((hP.2 q hq).2.1.trans v3) ?_
  refine lv_istore_n (lv' := [(3, .int (nI ((pc r q)))), (0, .ref (ad b)), (1, .int (nI q)), (2, .int v)]) hx hb dX5_reasonToRefuse_9 rfl hl (by decide) rfl (fun ls hl => ?_)
  refine lv_aload_n hx hb dX5_reasonToRefuse_10 rfl (lv_at hl 1 rfl) ?_
  refine fg_X5_28 hB X h dX5_reasonToRefuse_11 ?_
  refine fg_X5_152 hB X h dX5_reasonToRefuse_14 ?_
  refine lv_iload_n hx hb dX5_reasonToRefuse_17 rfl (lv_at hl 2 rfl) ?_
  refine rg_ild X h (b + 14) (hB.lt (by decide)) (sa_14 hB J ad) (q) rfl (by omega) (by decide) dX5_reasonToRefuse_18 ?_
  refine lv_as (y := nI ((pg r q))) ((hP.2 q hq).2.2.1.trans v5) ?_
  refine lv_istore (lv' := [(4, .int (nI ((pg r q)))), (3, .int (nI ((pc r q)))), (0, .ref (ad b)), (1, .int (nI q)), (2, .int v)]) hx hb dX5_reasonToRefuse_19 hl (by decide) rfl (fun ls hl => ?_)
  refine lv_aload_n hx hb dX5_reasonToRefuse_21 rfl (lv_at hl 2 rfl) ?_
  refine fg_X5_28 hB X h dX5_reasonToRefuse_22 ?_
  refine fg_X5_155 hB X h dX5_reasonToRefuse_25 ?_
  refine lv_iload_n hx hb dX5_reasonToRefuse_28 rfl (lv_at hl 3 rfl) ?_
  refine rg_ild X h (b + 15) (hB.lt (by decide)) (sa_15 hB J ad) (q) rfl (by omega) (by decide) dX5_reasonToRefuse_29 ?_
  refine lv_as (y := nI ((pk r q))) ((hP.2 q hq).2.2.2.1.trans v7) ?_
  refine lv_istore (lv' := [(5, .int (nI ((pk r q)))), (4, .int (nI ((pg r q)))), (3, .int (nI ((pc r q)))), (0, .ref (ad b)), (1, .int (nI q)), (2, .int v)]) hx hb dX5_reasonToRefuse_30 hl (by decide) rfl (fun ls hl => ?_)
  refine lv_iload_n hx hb dX5_reasonToRefuse_32 rfl (lv_at hl 5 rfl) ?_
  refine lv_aload_n hx hb dX5_reasonToRefuse_33 rfl (lv_at hl 3 rfl) ?_
  refine fg_X5_39 hB X h dX5_reasonToRefuse_34 ?_
  refine lv_iconst (v := nI 0) hx hb dX5_reasonToRefuse_37 (by decide) ?_
  refine rg_ild X h (b + 23) (hB.lt (by decide)) (sa_23 hB J ad) (0) rfl (by omega) (by decide) dX5_reasonToRefuse_38 ?_
  refine lv_as (y := r 0) (hV.1) ?_
  refine lv_icmp_ge (tgt := 44) hx hb dX5_reasonToRefuse_39 (by decide) (fun c_39 => ?_) (fun c_39 => ?_)
  · refine lv_iload_n hx hb dX5_reasonToRefuse_44 rfl (lv_at hl 5 rfl) ?_
    refine lv_aload_n hx hb dX5_reasonToRefuse_45 rfl (lv_at hl 3 rfl) ?_
    refine fg_X5_35 hB X h dX5_reasonToRefuse_46 ?_
    refine lv_iload_n hx hb dX5_reasonToRefuse_49 rfl (lv_at hl 2 rfl) ?_
    refine lv_iload hx hb dX5_reasonToRefuse_50 (lv_at hl 1 rfl) ?_
    refine lv_iload hx hb dX5_reasonToRefuse_52 (lv_at hl 0 rfl) ?_
    refine rg_civd (As := [.int (nI ((pc r q))), .int (nI ((pg r q))), .int (nI ((pk r q)))]) (rest := [.int v]) X hl.1 h (c_X4_greatestSupport l J z ad G b hB r hR0 (nI ((pc r q))) (nI ((pg r q))) (nI ((pk r q))) ) mw_313 mw_314 mw_315 mw_42 mw_316 pdX4_greatestSupport (hB.lt (by decide)) (so_18 hB J ad _) rfl rfl ⟨Nat.le_of_ble_eq_true rfl, Nat.le_of_ble_eq_true rfl⟩ ⟨Nat.le_of_ble_eq_true rfl, Nat.le_of_ble_eq_true rfl⟩ rfl (Nat.le_of_ble_eq_true rfl) dX5_reasonToRefuse_54 (fun H locs h => ?_)
    refine lv_icmp_gt (tgt := 62) hx hb dX5_reasonToRefuse_57 (by decide) (fun c_57 => ?_) (fun c_57 => ?_)
    · refine lv_aload_n hx hb dX5_reasonToRefuse_62 rfl (lv_at hl 3 rfl) ?_
      refine fg_X5_21 hB X h dX5_reasonToRefuse_63 ?_
      refine lv_iload_n hx hb dX5_reasonToRefuse_66 rfl (lv_at hl 2 rfl) ?_
      refine lv_iload hx hb dX5_reasonToRefuse_67 (lv_at hl 1 rfl) ?_
      refine rg_civd (As := [.int (nI ((pc r q))), .int (nI ((pg r q)))]) (rest := []) X hl.1 h (c_X1_strengthOf l J z ad G b hB r hR0 (pc r q) (pg r q) (by omega) (by omega)) mw_317 mw_150 mw_151 mw_34 mw_152 pdX1_strengthOf (hB.lt (by decide)) (so_7 hB J ad _) rfl rfl ⟨Nat.le_of_ble_eq_true rfl, Nat.le_of_ble_eq_true rfl⟩ ⟨Nat.le_of_ble_eq_true rfl, Nat.le_of_ble_eq_true rfl⟩ rfl (Nat.le_of_ble_eq_true rfl) dX5_reasonToRefuse_69 (fun H locs h => ?_)
      refine lv_as (y := G (b + 9) (20 * (pc r q) + (pg r q))) (congrArg (G (b + 9)) (by omega)) ?_
      refine lv_istore (lv' := [(6, .int (G (b + 9) (20 * (pc r q) + (pg r q)))), (5, .int (nI ((pk r q)))), (4, .int (nI ((pg r q)))), (3, .int (nI ((pc r q)))), (0, .ref (ad b)), (1, .int (nI q)), (2, .int v)]) hx hb dX5_reasonToRefuse_72 hl (by decide) rfl (fun ls hl => ?_)
      refine lv_iload hx hb dX5_reasonToRefuse_74 (lv_at hl 1 rfl) ?_
      refine lv_iconst (v := nI 2) hx hb dX5_reasonToRefuse_76 (by decide) ?_
      refine lv_icmp_ne (tgt := 107) hx hb dX5_reasonToRefuse_77 (by decide) (fun c_77 => ?_) (fun c_77 => ?_)
      · rw [nI_eq (by omega) (by omega)] at c_77
        refine lv_aload_n hx hb dX5_reasonToRefuse_107 rfl (lv_at hl 4 rfl) ?_
        refine fg_X5_21 hB X h dX5_reasonToRefuse_108 ?_
        refine lv_bipush (v := nI 6) hx hb dX5_reasonToRefuse_111 (by decide) ?_
        refine lv_iload hx hb dX5_reasonToRefuse_113 (lv_at hl 2 rfl) ?_
        refine rg_civd (As := [.int (nI 6), .int (nI ((pg r q)))]) (rest := []) X hl.1 h (c_X1_stanceOf l J z ad G b hB r hR0 6 (pg r q) (by omega) (by omega)) mw_319 mw_154 mw_155 mw_34 mw_156 pdX1_stanceOf (hB.lt (by decide)) (so_7 hB J ad _) rfl rfl ⟨Nat.le_of_ble_eq_true rfl, Nat.le_of_ble_eq_true rfl⟩ ⟨Nat.le_of_ble_eq_true rfl, Nat.le_of_ble_eq_true rfl⟩ rfl (Nat.le_of_ble_eq_true rfl) dX5_reasonToRefuse_115 (fun H locs h => ?_)
        refine lv_as (y := G (b + 8) ((pg r q) + 120)) (congrArg (G (b + 8)) (by omega)) ?_
        refine lv_iload hx hb dX5_reasonToRefuse_118 (lv_at hl 1 rfl) ?_
        refine lv_icmp_eq (tgt := 127) hx hb dX5_reasonToRefuse_120 (by decide) (fun c_120 => ?_) (fun c_120 => ?_)
        · refine lv_iconst (v := nI 0) hx hb dX5_reasonToRefuse_127 (by decide) ?_
          refine lv_istore (lv' := [(7, .int (nI 0)), (6, .int (G (b + 9) (20 * (pc r q) + (pg r q)))), (5, .int (nI ((pk r q)))), (4, .int (nI ((pg r q)))), (3, .int (nI ((pc r q)))), (0, .ref (ad b)), (1, .int (nI q)), (2, .int v)]) hx hb dX5_reasonToRefuse_128 hl (by decide) rfl (fun ls hl => ?_)
          refine lv_iload_n hx hb dX5_reasonToRefuse_130 rfl (lv_at hl 4 rfl) ?_
          refine lv_bipush (v := nI 6) hx hb dX5_reasonToRefuse_131 (by decide) ?_
          refine lv_icmp_eq (tgt := 158) hx hb dX5_reasonToRefuse_133 (by decide) (fun c_133 => ?_) (fun c_133 => ?_)
          · rw [nI_eq (by omega) (by omega)] at c_133
            refine lv_aload_n hx hb dX5_reasonToRefuse_158 rfl (lv_at hl 5 rfl) ?_
            refine fg_X5_21 hB X h dX5_reasonToRefuse_159 ?_
            refine lv_iload_n hx hb dX5_reasonToRefuse_162 rfl (lv_at hl 4 rfl) ?_
            refine lv_iload hx hb dX5_reasonToRefuse_163 (lv_at hl 3 rfl) ?_
            refine rg_civd (As := [.int (nI ((pc r q))), .int (nI ((pg r q)))]) (rest := []) X hl.1 h (c_X1_stanceOf l J z ad G b hB r hR0 (pc r q) (pg r q) (by omega) (by omega)) mw_319 mw_154 mw_155 mw_34 mw_156 pdX1_stanceOf (hB.lt (by decide)) (so_7 hB J ad _) rfl rfl ⟨Nat.le_of_ble_eq_true rfl, Nat.le_of_ble_eq_true rfl⟩ ⟨Nat.le_of_ble_eq_true rfl, Nat.le_of_ble_eq_true rfl⟩ rfl (Nat.le_of_ble_eq_true rfl) dX5_reasonToRefuse_165 (fun H locs h => ?_)
            refine lv_as (y := G (b + 8) (20 * (pc r q) + (pg r q))) (congrArg (G (b + 8)) (by omega)) ?_
            refine lv_iload hx hb dX5_reasonToRefuse_168 (lv_at hl 2 rfl) ?_
            refine lv_icmp_ne (tgt := 183) hx hb dX5_reasonToRefuse_170 (by decide) (fun c_170 => ?_) (fun c_170 => ?_)
            · refine lv_iconst (v := nI 0) hx hb dX5_reasonToRefuse_183 (by decide) ?_
              exact hret (nI 0) G _ _ 184 _ (⟨by rw [hre, if_neg (Int32.not_lt.mpr c_39), if_neg (Int32.not_le.mpr c_57), if_neg c_77, if_neg (fun x => by obtain ⟨x1, x2, x3⟩ := x; first | exact x1 c_133 | exact x2 c_120 | exact Int32.not_lt.mpr c_153 x3), if_neg (fun x => by obtain ⟨x1, x2⟩ := x; first | exact c_170 x1 | exact Int32.not_le.mpr c_176 x2)], rfl⟩) h dX5_reasonToRefuse_184
            · refine lv_iload hx hb dX5_reasonToRefuse_173 (lv_at hl 1 rfl) ?_
              refine lv_iload_n hx hb dX5_reasonToRefuse_175 rfl (lv_at hl 7 rfl) ?_
              refine lv_icmp_lt (tgt := 183) hx hb dX5_reasonToRefuse_176 (by decide) (fun c_176 => ?_) (fun c_176 => ?_)
              · refine lv_iconst (v := nI 0) hx hb dX5_reasonToRefuse_183 (by decide) ?_
                exact hret (nI 0) G _ _ 184 _ (⟨by rw [hre, if_neg (Int32.not_lt.mpr c_39), if_neg (Int32.not_le.mpr c_57), if_neg c_77, if_neg (fun x => by obtain ⟨x1, x2, x3⟩ := x; first | exact x1 c_133 | exact x2 c_120 | exact Int32.not_lt.mpr c_153 x3), if_neg (fun x => by obtain ⟨x1, x2⟩ := x; first | exact c_170 x1 | exact Int32.not_le.mpr c_176 x2)], rfl⟩) h dX5_reasonToRefuse_184
              · refine lv_iconst (v := nI 4) hx hb dX5_reasonToRefuse_179 (by decide) ?_
                refine lv_goto (tgt := 184) hx hb dX5_reasonToRefuse_180 (by decide) ?_
                exact hret (nI 4) G _ _ 184 _ (⟨by rw [hre, if_neg (Int32.not_lt.mpr c_39), if_neg (Int32.not_le.mpr c_57), if_neg c_77, if_neg (fun x => by obtain ⟨x1, x2, x3⟩ := x; first | exact x1 c_133 | exact x2 c_120 | exact Int32.not_lt.mpr c_153 x3), if_pos ⟨c_170, Int32.not_lt.mp c_176⟩], rfl⟩) h dX5_reasonToRefuse_184
          · rw [nI_eq (by omega) (by omega)] at c_133
            refine lv_iload hx hb dX5_reasonToRefuse_136 (lv_at hl 0 rfl) ?_
            refine lv_if_eq (tgt := 158) hx hb dX5_reasonToRefuse_138 (by decide) (fun c_138 => ?_) (fun c_138 => absurd (by decide) c_138)
            refine lv_aload_n hx hb dX5_reasonToRefuse_158 rfl (lv_at hl 5 rfl) ?_
            refine fg_X5_21 hB X h dX5_reasonToRefuse_159 ?_
            refine lv_iload_n hx hb dX5_reasonToRefuse_162 rfl (lv_at hl 4 rfl) ?_
            refine lv_iload hx hb dX5_reasonToRefuse_163 (lv_at hl 3 rfl) ?_
            refine rg_civd (As := [.int (nI ((pc r q))), .int (nI ((pg r q)))]) (rest := []) X hl.1 h (c_X1_stanceOf l J z ad G b hB r hR0 (pc r q) (pg r q) (by omega) (by omega)) mw_319 mw_154 mw_155 mw_34 mw_156 pdX1_stanceOf (hB.lt (by decide)) (so_7 hB J ad _) rfl rfl ⟨Nat.le_of_ble_eq_true rfl, Nat.le_of_ble_eq_true rfl⟩ ⟨Nat.le_of_ble_eq_true rfl, Nat.le_of_ble_eq_true rfl⟩ rfl (Nat.le_of_ble_eq_true rfl) dX5_reasonToRefuse_165 (fun H locs h => ?_)
            refine lv_as (y := G (b + 8) (20 * (pc r q) + (pg r q))) (congrArg (G (b + 8)) (by omega)) ?_
            refine lv_iload hx hb dX5_reasonToRefuse_168 (lv_at hl 2 rfl) ?_
            refine lv_icmp_ne (tgt := 183) hx hb dX5_reasonToRefuse_170 (by decide) (fun c_170 => ?_) (fun c_170 => ?_)
            · refine lv_iconst (v := nI 0) hx hb dX5_reasonToRefuse_183 (by decide) ?_
              exact hret (nI 0) G _ _ 184 _ (⟨by rw [hre, if_neg (Int32.not_lt.mpr c_39), if_neg (Int32.not_le.mpr c_57), if_neg c_77, if_neg (fun x => by obtain ⟨x1, x2, x3⟩ := x; first | exact x1 c_133 | exact x2 c_120 | exact Int32.not_lt.mpr c_153 x3), if_neg (fun x => by obtain ⟨x1, x2⟩ := x; first | exact c_170 x1 | exact Int32.not_le.mpr c_176 x2)], rfl⟩) h dX5_reasonToRefuse_184
            · refine lv_iload hx hb dX5_reasonToRefuse_173 (lv_at hl 1 rfl) ?_
              refine lv_iload_n hx hb dX5_reasonToRefuse_175 rfl (lv_at hl 7 rfl) ?_
              refine lv_icmp_lt (tgt := 183) hx hb dX5_reasonToRefuse_176 (by decide) (fun c_176 => ?_) (fun c_176 => ?_)
              · refine lv_iconst (v := nI 0) hx hb dX5_reasonToRefuse_183 (by decide) ?_
                exact hret (nI 0) G _ _ 184 _ (⟨by rw [hre, if_neg (Int32.not_lt.mpr c_39), if_neg (Int32.not_le.mpr c_57), if_neg c_77, if_neg (fun x => by obtain ⟨x1, x2, x3⟩ := x; first | exact x1 c_133 | exact x2 c_120 | exact Int32.not_lt.mpr c_153 x3), if_neg (fun x => by obtain ⟨x1, x2⟩ := x; first | exact c_170 x1 | exact Int32.not_le.mpr c_176 x2)], rfl⟩) h dX5_reasonToRefuse_184
              · refine lv_iconst (v := nI 4) hx hb dX5_reasonToRefuse_179 (by decide) ?_
                refine lv_goto (tgt := 184) hx hb dX5_reasonToRefuse_180 (by decide) ?_
                exact hret (nI 4) G _ _ 184 _ (⟨by rw [hre, if_neg (Int32.not_lt.mpr c_39), if_neg (Int32.not_le.mpr c_57), if_neg c_77, if_neg (fun x => by obtain ⟨x1, x2, x3⟩ := x; first | exact x1 c_133 | exact x2 c_120 | exact Int32.not_lt.mpr c_153 x3), if_pos ⟨c_170, Int32.not_lt.mp c_176⟩], rfl⟩) h dX5_reasonToRefuse_184
        · refine lv_iconst (v := nI 1) hx hb dX5_reasonToRefuse_123 (by decide) ?_
          refine lv_goto (tgt := 128) hx hb dX5_reasonToRefuse_124 (by decide) ?_
          refine lv_istore (lv' := [(7, .int (nI 1)), (6, .int (G (b + 9) (20 * (pc r q) + (pg r q)))), (5, .int (nI ((pk r q)))), (4, .int (nI ((pg r q)))), (3, .int (nI ((pc r q)))), (0, .ref (ad b)), (1, .int (nI q)), (2, .int v)]) hx hb dX5_reasonToRefuse_128 hl (by decide) rfl (fun ls hl => ?_)
          refine lv_iload_n hx hb dX5_reasonToRefuse_130 rfl (lv_at hl 4 rfl) ?_
          refine lv_bipush (v := nI 6) hx hb dX5_reasonToRefuse_131 (by decide) ?_
          refine lv_icmp_eq (tgt := 158) hx hb dX5_reasonToRefuse_133 (by decide) (fun c_133 => ?_) (fun c_133 => ?_)
          · rw [nI_eq (by omega) (by omega)] at c_133
            refine lv_aload_n hx hb dX5_reasonToRefuse_158 rfl (lv_at hl 5 rfl) ?_
            refine fg_X5_21 hB X h dX5_reasonToRefuse_159 ?_
            refine lv_iload_n hx hb dX5_reasonToRefuse_162 rfl (lv_at hl 4 rfl) ?_
            refine lv_iload hx hb dX5_reasonToRefuse_163 (lv_at hl 3 rfl) ?_
            refine rg_civd (As := [.int (nI ((pc r q))), .int (nI ((pg r q)))]) (rest := []) X hl.1 h (c_X1_stanceOf l J z ad G b hB r hR0 (pc r q) (pg r q) (by omega) (by omega)) mw_319 mw_154 mw_155 mw_34 mw_156 pdX1_stanceOf (hB.lt (by decide)) (so_7 hB J ad _) rfl rfl ⟨Nat.le_of_ble_eq_true rfl, Nat.le_of_ble_eq_true rfl⟩ ⟨Nat.le_of_ble_eq_true rfl, Nat.le_of_ble_eq_true rfl⟩ rfl (Nat.le_of_ble_eq_true rfl) dX5_reasonToRefuse_165 (fun H locs h => ?_)
            refine lv_as (y := G (b + 8) (20 * (pc r q) + (pg r q))) (congrArg (G (b + 8)) (by omega)) ?_
            refine lv_iload hx hb dX5_reasonToRefuse_168 (lv_at hl 2 rfl) ?_
            refine lv_icmp_ne (tgt := 183) hx hb dX5_reasonToRefuse_170 (by decide) (fun c_170 => ?_) (fun c_170 => ?_)
            · refine lv_iconst (v := nI 0) hx hb dX5_reasonToRefuse_183 (by decide) ?_
              exact hret (nI 0) G _ _ 184 _ (⟨by rw [hre, if_neg (Int32.not_lt.mpr c_39), if_neg (Int32.not_le.mpr c_57), if_neg c_77, if_neg (fun x => by obtain ⟨x1, x2, x3⟩ := x; first | exact x1 c_133 | exact x2 c_120 | exact Int32.not_lt.mpr c_153 x3), if_neg (fun x => by obtain ⟨x1, x2⟩ := x; first | exact c_170 x1 | exact Int32.not_le.mpr c_176 x2)], rfl⟩) h dX5_reasonToRefuse_184
            · refine lv_iload hx hb dX5_reasonToRefuse_173 (lv_at hl 1 rfl) ?_
              refine lv_iload_n hx hb dX5_reasonToRefuse_175 rfl (lv_at hl 7 rfl) ?_
              refine lv_icmp_lt (tgt := 183) hx hb dX5_reasonToRefuse_176 (by decide) (fun c_176 => ?_) (fun c_176 => ?_)
              · refine lv_iconst (v := nI 0) hx hb dX5_reasonToRefuse_183 (by decide) ?_
                exact hret (nI 0) G _ _ 184 _ (⟨by rw [hre, if_neg (Int32.not_lt.mpr c_39), if_neg (Int32.not_le.mpr c_57), if_neg c_77, if_neg (fun x => by obtain ⟨x1, x2, x3⟩ := x; first | exact x1 c_133 | exact x2 c_120 | exact Int32.not_lt.mpr c_153 x3), if_neg (fun x => by obtain ⟨x1, x2⟩ := x; first | exact c_170 x1 | exact Int32.not_le.mpr c_176 x2)], rfl⟩) h dX5_reasonToRefuse_184
              · refine lv_iconst (v := nI 4) hx hb dX5_reasonToRefuse_179 (by decide) ?_
                refine lv_goto (tgt := 184) hx hb dX5_reasonToRefuse_180 (by decide) ?_
                exact hret (nI 4) G _ _ 184 _ (⟨by rw [hre, if_neg (Int32.not_lt.mpr c_39), if_neg (Int32.not_le.mpr c_57), if_neg c_77, if_neg (fun x => by obtain ⟨x1, x2, x3⟩ := x; first | exact x1 c_133 | exact x2 c_120 | exact Int32.not_lt.mpr c_153 x3), if_pos ⟨c_170, Int32.not_lt.mp c_176⟩], rfl⟩) h dX5_reasonToRefuse_184
          · rw [nI_eq (by omega) (by omega)] at c_133
            refine lv_iload hx hb dX5_reasonToRefuse_136 (lv_at hl 0 rfl) ?_
            refine lv_if_eq (tgt := 158) hx hb dX5_reasonToRefuse_138 (by decide) (fun c_138 => absurd c_138 (by decide)) (fun c_138 => ?_)
            refine lv_aload_n hx hb dX5_reasonToRefuse_141 rfl (lv_at hl 5 rfl) ?_
            refine fg_X5_21 hB X h dX5_reasonToRefuse_142 ?_
            refine lv_bipush (v := nI 6) hx hb dX5_reasonToRefuse_145 (by decide) ?_
            refine lv_iload hx hb dX5_reasonToRefuse_147 (lv_at hl 3 rfl) ?_
            refine rg_civd (As := [.int (nI 6), .int (nI ((pg r q)))]) (rest := []) X hl.1 h (c_X1_strengthOf l J z ad G b hB r hR0 6 (pg r q) (by omega) (by omega)) mw_317 mw_150 mw_151 mw_34 mw_152 pdX1_strengthOf (hB.lt (by decide)) (so_7 hB J ad _) rfl rfl ⟨Nat.le_of_ble_eq_true rfl, Nat.le_of_ble_eq_true rfl⟩ ⟨Nat.le_of_ble_eq_true rfl, Nat.le_of_ble_eq_true rfl⟩ rfl (Nat.le_of_ble_eq_true rfl) dX5_reasonToRefuse_149 (fun H locs h => ?_)
            refine lv_as (y := G (b + 9) ((pg r q) + 120)) (congrArg (G (b + 9)) (by omega)) ?_
            refine lv_iload_n hx hb dX5_reasonToRefuse_152 rfl (lv_at hl 7 rfl) ?_
            refine lv_icmp_le (tgt := 158) hx hb dX5_reasonToRefuse_153 (by decide) (fun c_153 => ?_) (fun c_153 => ?_)
            · refine lv_aload_n hx hb dX5_reasonToRefuse_158 rfl (lv_at hl 5 rfl) ?_
              refine fg_X5_21 hB X h dX5_reasonToRefuse_159 ?_
              refine lv_iload_n hx hb dX5_reasonToRefuse_162 rfl (lv_at hl 4 rfl) ?_
              refine lv_iload hx hb dX5_reasonToRefuse_163 (lv_at hl 3 rfl) ?_
              refine rg_civd (As := [.int (nI ((pc r q))), .int (nI ((pg r q)))]) (rest := []) X hl.1 h (c_X1_stanceOf l J z ad G b hB r hR0 (pc r q) (pg r q) (by omega) (by omega)) mw_319 mw_154 mw_155 mw_34 mw_156 pdX1_stanceOf (hB.lt (by decide)) (so_7 hB J ad _) rfl rfl ⟨Nat.le_of_ble_eq_true rfl, Nat.le_of_ble_eq_true rfl⟩ ⟨Nat.le_of_ble_eq_true rfl, Nat.le_of_ble_eq_true rfl⟩ rfl (Nat.le_of_ble_eq_true rfl) dX5_reasonToRefuse_165 (fun H locs h => ?_)
              refine lv_as (y := G (b + 8) (20 * (pc r q) + (pg r q))) (congrArg (G (b + 8)) (by omega)) ?_
              refine lv_iload hx hb dX5_reasonToRefuse_168 (lv_at hl 2 rfl) ?_
              refine lv_icmp_ne (tgt := 183) hx hb dX5_reasonToRefuse_170 (by decide) (fun c_170 => ?_) (fun c_170 => ?_)
              · refine lv_iconst (v := nI 0) hx hb dX5_reasonToRefuse_183 (by decide) ?_
                exact hret (nI 0) G _ _ 184 _ (⟨by rw [hre, if_neg (Int32.not_lt.mpr c_39), if_neg (Int32.not_le.mpr c_57), if_neg c_77, if_neg (fun x => by obtain ⟨x1, x2, x3⟩ := x; first | exact x1 c_133 | exact x2 c_120 | exact Int32.not_lt.mpr c_153 x3), if_neg (fun x => by obtain ⟨x1, x2⟩ := x; first | exact c_170 x1 | exact Int32.not_le.mpr c_176 x2)], rfl⟩) h dX5_reasonToRefuse_184
              · refine lv_iload hx hb dX5_reasonToRefuse_173 (lv_at hl 1 rfl) ?_
                refine lv_iload_n hx hb dX5_reasonToRefuse_175 rfl (lv_at hl 7 rfl) ?_
                refine lv_icmp_lt (tgt := 183) hx hb dX5_reasonToRefuse_176 (by decide) (fun c_176 => ?_) (fun c_176 => ?_)
                · refine lv_iconst (v := nI 0) hx hb dX5_reasonToRefuse_183 (by decide) ?_
                  exact hret (nI 0) G _ _ 184 _ (⟨by rw [hre, if_neg (Int32.not_lt.mpr c_39), if_neg (Int32.not_le.mpr c_57), if_neg c_77, if_neg (fun x => by obtain ⟨x1, x2, x3⟩ := x; first | exact x1 c_133 | exact x2 c_120 | exact Int32.not_lt.mpr c_153 x3), if_neg (fun x => by obtain ⟨x1, x2⟩ := x; first | exact c_170 x1 | exact Int32.not_le.mpr c_176 x2)], rfl⟩) h dX5_reasonToRefuse_184
                · refine lv_iconst (v := nI 4) hx hb dX5_reasonToRefuse_179 (by decide) ?_
                  refine lv_goto (tgt := 184) hx hb dX5_reasonToRefuse_180 (by decide) ?_
                  exact hret (nI 4) G _ _ 184 _ (⟨by rw [hre, if_neg (Int32.not_lt.mpr c_39), if_neg (Int32.not_le.mpr c_57), if_neg c_77, if_neg (fun x => by obtain ⟨x1, x2, x3⟩ := x; first | exact x1 c_133 | exact x2 c_120 | exact Int32.not_lt.mpr c_153 x3), if_pos ⟨c_170, Int32.not_lt.mp c_176⟩], rfl⟩) h dX5_reasonToRefuse_184
            · refine lv_iconst (v := nI 3) hx hb dX5_reasonToRefuse_156 (by decide) ?_
              exact hret (nI 3) G _ _ 157 _ (⟨by rw [hre, if_neg (Int32.not_lt.mpr c_39), if_neg (Int32.not_le.mpr c_57), if_neg c_77, if_pos ⟨c_133, c_120, Int32.not_le.mp c_153⟩], rfl⟩) h dX5_reasonToRefuse_157
      · rw [nI_eq (by omega) (by omega)] at c_77
        refine lv_iload hx hb dX5_reasonToRefuse_80 (lv_at hl 0 rfl) ?_
        refine lv_if_ne (tgt := 87) hx hb dX5_reasonToRefuse_82 (by decide) (fun c_82 => ?_) (fun c_82 => ?_)
        · refine lv_iconst (v := nI 2) hx hb dX5_reasonToRefuse_87 (by decide) ?_
          refine lv_iload_n hx hb dX5_reasonToRefuse_88 rfl (lv_at hl 6 rfl) ?_
          refine lv_imul hx hb dX5_reasonToRefuse_89 ?_
          refine lv_aload_n hx hb dX5_reasonToRefuse_90 rfl (lv_at hl 4 rfl) ?_
          refine fg_X5_12 hB X h dX5_reasonToRefuse_91 ?_
          refine lv_iload_n hx hb dX5_reasonToRefuse_94 rfl (lv_at hl 3 rfl) ?_
          refine rg_civd (As := [.int (nI ((pc r q)))]) (rest := [.int ((nI 2) * v)]) X hl.1 h (c_X6_weightAt l J z ad G b hB r hR0 (nI ((pc r q))) ) mw_318 mw_169 mw_170 mw_30 mw_171 pdX6_weightAt (hB.lt (by decide)) (so_1 hB J ad _) rfl rfl ⟨Nat.le_of_ble_eq_true rfl, Nat.le_of_ble_eq_true rfl⟩ ⟨Nat.le_of_ble_eq_true rfl, Nat.le_of_ble_eq_true rfl⟩ rfl (Nat.le_of_ble_eq_true rfl) dX5_reasonToRefuse_95 (fun H locs h => ?_)
          refine lv_icmp_le (tgt := 105) hx hb dX5_reasonToRefuse_98 (by decide) (fun c_98 => ?_) (fun c_98 => ?_)
          · refine lv_iconst (v := nI 5) hx hb dX5_reasonToRefuse_105 (by decide) ?_
            exact hret (nI 5) G _ _ 106 _ (⟨by rw [hre, if_neg (Int32.not_lt.mpr c_39), if_neg (Int32.not_le.mpr c_57), if_pos c_77, if_neg c_82, if_neg (Int32.not_lt.mpr c_98)], rfl⟩) h dX5_reasonToRefuse_106
          · refine lv_iconst (v := nI 0) hx hb dX5_reasonToRefuse_101 (by decide) ?_
            refine lv_goto (tgt := 106) hx hb dX5_reasonToRefuse_102 (by decide) ?_
            exact hret (nI 0) G _ _ 106 _ (⟨by rw [hre, if_neg (Int32.not_lt.mpr c_39), if_neg (Int32.not_le.mpr c_57), if_pos c_77, if_neg c_82, if_pos (Int32.not_le.mp c_98)], rfl⟩) h dX5_reasonToRefuse_106
        · refine lv_iconst (v := nI 4) hx hb dX5_reasonToRefuse_85 (by decide) ?_
          exact hret (nI 4) G _ _ 86 _ (⟨by rw [hre, if_neg (Int32.not_lt.mpr c_39), if_neg (Int32.not_le.mpr c_57), if_pos c_77, if_pos c_82], rfl⟩) h dX5_reasonToRefuse_86
    · refine lv_iconst (v := nI 2) hx hb dX5_reasonToRefuse_60 (by decide) ?_
      exact hret (nI 2) G _ _ 61 _ (⟨by rw [hre, if_neg (Int32.not_lt.mpr c_39), if_pos (Int32.not_lt.mp c_57)], rfl⟩) h dX5_reasonToRefuse_61
  · refine lv_iconst (v := nI 1) hx hb dX5_reasonToRefuse_42 (by decide) ?_
    exact hret (nI 1) G _ _ 43 _ (⟨by rw [hre, if_pos (Int32.not_le.mp c_39)], rfl⟩) h dX5_reasonToRefuse_43
