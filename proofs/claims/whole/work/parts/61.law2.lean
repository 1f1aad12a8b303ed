/-! THE CLAIM OUT OF ONE WALK OF THE LAW'S BODY. Your part is whole_start (and what it stands on); all else here is the same for every law, but numbers. -/
def R_law : String := "HiveBylawsLaw"
def lw_P (b : Addr) (xs : List Int32) (args : Array Value) (s : State) : Prop := args = #[.ref b] ∧ s.IntsAt b xs ∧ xs.length ≤ 2560 ∧ (Jvm.Cond.and given_1 narrow_1).before args s = true
def lw_Q (_ : Array Value) (s : State) (o : Outcome) (t : State) : Prop := o = .returned (some (.int 1)) ∧ Framed s o t [] 600000 7302250
def lw_Z (below : List Frame) (a : Array Value) (s : State) : State → Prop := fun t => ∃ o, t.status = .running ∧ Ended t below o ∧ lw_Q a s o t
/-- the law's own end, with 1 on the stack, nothing written that was there before, its room as the claim has it -/
theorem lw_ret {p : Program} {l : Launch} {e : Env} {s : State} {m : MethodId} {below : List Frame} {meth : Method} {c : Code} {b : Nat} (hx : p.tables.exec = Jvm.exec) (hb : c.code = code) (hr : meth.sig.returnType = ret) (hlocks : meth.locks = false) {pc : Nat} {H : Heap} {ls : Array Slot} (hdg : decode code pc = .ok (.ireturn, 1)) : W p l e room_1 s m #[Value.ref b] below meth c H [] 600000 7302250 (lw_Z below #[Value.ref b] s) (F0 m pc ls [.int 1]) := by
  intro T hT X
  obtain ⟨fs, hret, hrun, hended, hW, hframe⟩ := X.leave (v := some (.int 1)) (hlocks := hlocks) (fun h => by rw [hr] at h; cases h)
  have hmeth' : T.vm.method? m = some meth := X.method'
  refine ⟨T.setFrames fs, ?_, .returned (some (.int 1)), hrun, hended, rfl, ⟨_, rfl⟩, hW, hframe⟩
  jvm_step X.here [X.here.top, hx, hb, hdg, hmeth', hr, ret, narrow_b1]
  (try refine ⟨rfl, ?_⟩); (try refine ⟨rfl, ?_⟩)
  first | (intro acts; rw [hret _ acts rfl rfl rfl]) | rw [hret _ _ rfl rfl rfl]
  exact Steps.refl _
/-- what holds at the law's entry: the machine, the code, the tables' words (any of lw_tbl by 'hts w (by decide +kernel)'), the script of L ints xs at the cell b, what the Statement gives of the start (any of its parts by flat_of_before) -/
def lw_At (p : Program) (s : State) (m : MethodId) (meth : Method) (c : Code) (b L : Nat) (xs : Nat → Int32) : Prop :=
  p.tables.exec = Jvm.exec ∧ c.code = code ∧ meth.sig.returnType = ret ∧ c.maxLocals = 4 ∧ s.vm.findClass R_law = some m.cls ∧ (∀ w ∈ lw_tbl, w.before #[Value.ref b] s = true) ∧ va_X b L xs s s.heap ∧ b < s.heap.size ∧ meth.locks = false ∧ (Jvm.Cond.and given_1 narrow_1).before #[Value.ref b] s = true
-- ===== YOUR PART BEGINS =====
theorem lw_in1 {w : Cond} (h9 : w ∈ tables_1_1) : w ∈ lw_tbl := List.mem_append_right _ (show w ∈ tables_1_1 ++ (tables_1_2 ++ (tables_1_3 ++ tables_1_4)) from List.mem_append_left _ h9)
theorem lw_in2 {w : Cond} (h9 : w ∈ tables_1_2) : w ∈ lw_tbl := List.mem_append_right _ (show w ∈ tables_1_1 ++ (tables_1_2 ++ (tables_1_3 ++ tables_1_4)) from List.mem_append_right _ (List.mem_append_left _ h9))
theorem lw_in3 {w : Cond} (h9 : w ∈ tables_1_3) : w ∈ lw_tbl := List.mem_append_right _ (show w ∈ tables_1_1 ++ (tables_1_2 ++ (tables_1_3 ++ tables_1_4)) from List.mem_append_right _ (List.mem_append_right _ (List.mem_append_left _ h9)))
theorem lw_in4 {w : Cond} (h9 : w ∈ tables_1_4) : w ∈ lw_tbl := List.mem_append_right _ (show w ∈ tables_1_1 ++ (tables_1_2 ++ (tables_1_3 ++ tables_1_4)) from List.mem_append_right _ (List.mem_append_right _ (List.mem_append_right _ h9)))
def lw_fe : FE := fun _ _ => .inl (0, 0, .inl (fun _ => 0))
theorem lw_kinds {s : State} {args : Array Value} (hts : ∀ w ∈ ws0, w.before args s = true) (hAO : va_AO RX5 s) : ∃ J : JJ, va_K J.1 vwCl (tysJ J) s := by
  obtain ⟨c0, i0, h0⟩ := u_known (C := RX0) (T := TX0) (N := 3) (n := 3) hts in0_X0 (hts _ mw_20)
  obtain ⟨c1, i1, h1⟩ := u_known (C := RX1) (T := TX1) (N := 3) (n := 3) hts in0_X1 (hts _ mw_36)
  obtain ⟨c2, i2, h2⟩ := u_known (C := RX2) (T := TX2) (N := 9) (n := 9) hts in0_X2 (hts _ mw_24)
  obtain ⟨c3, i3, h3⟩ := u_known (C := RX3) (T := TX3) (N := 7) (n := 7) hts in0_X3 (hts _ mw_40)
  obtain ⟨c4, i4, h4⟩ := u_known (C := RX4) (T := TX4) (N := 5) (n := 5) hts in0_X4 (hts _ mw_44)
  obtain ⟨c5, i5, h5⟩ := u_known (C := RX5) (T := TX5) (N := 10) (n := 10) hts in0_X5 (hts _ mw_13)
  obtain ⟨c6, i6, h6⟩ := u_known (C := RX6) (T := TX6) (N := 6) (n := 6) hts in0_X6 (hts _ mw_32)
  obtain ⟨c7, i7, h7⟩ := u_known (C := RX7) (T := TX7) (N := 9) (n := 9) hts in0_X7 (hts _ mw_1)
  obtain ⟨c8, i8, h8⟩ := u_known (C := RX8) (T := TX8) (N := 15) (n := 15) hts in0_X8 (hts _ mw_4)
  obtain ⟨cI, kI, compI, f1, f2, f3⟩ := Cond.arrayClass_spec (hts _ mw_47)
  obtain ⟨cC, kC, compC, g1, g2, g3⟩ := Cond.arrayClass_spec (hts _ mw_95)
  obtain ⟨compQ, cQ, kQ, q1, q2, q3, q4, q5⟩ := Cond.arrayOver_spec hAO
  refine ⟨((fun k => if k = 0 then c0 else if k = 1 then c1 else if k = 2 then c2 else if k = 3 then c3 else if k = 4 then c4 else if k = 5 then c5 else if k = 6 then c6 else if k = 7 then c7 else c8, fun k => if k = 0 then i0 else if k = 1 then i1 else if k = 2 then i2 else if k = 3 then i3 else if k = 4 then i4 else if k = 5 then i5 else if k = 6 then i6 else if k = 7 then i7 else i8), cI, cC, cQ), fun k q hq => ?_, fun k q hq => ?_⟩
  · match k, hq with
    | 0, hq => cases hq; exact h0
    | 1, hq => cases hq; exact h1
    | 2, hq => cases hq; exact h2
    | 3, hq => cases hq; exact h3
    | 4, hq => cases hq; exact h4
    | 5, hq => cases hq; exact h5
    | 6, hq => cases hq; exact h6
    | 7, hq => cases hq; exact h7
    | 8, hq => cases hq; exact h8
    | k + 9, hq => simp [vwCl] at hq
  · match k, hq with
    | 0, hq => cases hq; exact ⟨fun n z => ⟨fun k h => (by cases h), kI, f2, compI, f3⟩, f1⟩
    | 1, hq => cases hq; exact ⟨fun n z => ⟨fun k h => (by cases h), kC, g2, compC, g3⟩, g1⟩
    | 2, hq => cases hq; exact ⟨fun n z => ⟨fun k h => (by cases h), kQ, q3, compQ, q4⟩, kQ, compQ, q3, q4, q1, q5⟩
    | k + 3, hq => simp at hq
set_option maxHeartbeats 4000000 in
set_option maxRecDepth 100000 in
theorem law_loop {p : Program} {e : Env} {s : State} {m : MethodId} {below : List Frame} {meth : Method} {c : Code} (l : Launch) {b L : Nat} {xs : Nat → Int32} (hL : L ≤ 2560) (C0 : lw_At p s m meth c b L xs) (J : JJ) (ad : Nat → Nat) (cells slots : Nat) (hc1 : cells ≤ 600000) (hc2 : slots ≤ 7302250) : ∀ (f i : Nat), L + 1 ≤ i + f → i ≤ 2600 → ∀ (G : GG) (H : Heap) (locs : List Loc) (ls : Array Slot), Cls G G → HG J s.heap.size ad s G H locs → lv_has ls 4 [(3, .int (nI i)), (2, .ref (ad 210)), (1, .ref (ad 0)), (0, .ref b)] → W p l e room_1 s m #[Value.ref b] below meth c H locs cells slots (lw_Z below #[Value.ref b] s) (F0 m 18 ls []) := by
  obtain ⟨hx, hb, hr, hml, hown, hts, hX, hbl, hlocks, hgv⟩ := id C0
  have X : Cx p c code s m RL #[Value.ref b] 4 := ⟨hx, hb, hml, hown, fun w hw => hts w (ws0_tbl w hw)⟩
  have hbA : ¬ (fun q : Nat => s.heap.size ≤ q) b := Nat.not_le.mpr hbl
  intro f
  induction f with
  | zero =>
    intro i g1 g2 G H locs ls hC h hl
    refine lv_iload_n hx hb dL_law_18 rfl (lv_at hl 0 rfl) ?_
    refine lv_aload_n hx hb dL_law_19 rfl (lv_at hl 3 rfl) ?_
    refine va_slen hx hb hX hbl hbA h.2.2.2.1 dL_law_20 ?_
    refine lv_iconst (v := nI 5) hx hb dL_law_21 (by decide) ?_
    refine lv_isub hx hb dL_law_22 ?_
    refine lv_icmp_gt (tgt := 764) hx hb dL_law_23 (by decide) (fun c_23 => ?_) (fun c_23 => absurd ((sub5_lt hL (by omega)).mpr (by omega)) c_23)
    refine lv_iconst (v := 1) hx hb dL_law_764 (by decide) ?_
    refine W.widen (k := 600000) (n := 7302250) hc1 hc2 ?_
    exact va_forget h.2.2.2.1.2.2 (lw_ret hx hb hr hlocks dL_law_765)
  | succ f ih =>
    intro i g1 g2 G H locs ls hC h hl
    refine lv_iload_n hx hb dL_law_18 rfl (lv_at hl 0 rfl) ?_
    refine lv_aload_n hx hb dL_law_19 rfl (lv_at hl 3 rfl) ?_
    refine va_slen hx hb hX hbl hbA h.2.2.2.1 dL_law_20 ?_
    refine lv_iconst (v := nI 5) hx hb dL_law_21 (by decide) ?_
    refine lv_isub hx hb dL_law_22 ?_
    refine lv_icmp_gt (tgt := 764) hx hb dL_law_23 (by decide) (fun c_23 => ?_) (fun c_23 => ?_)
    · refine lv_iconst (v := 1) hx hb dL_law_764 (by decide) ?_
      refine W.widen (k := 600000) (n := 7302250) hc1 hc2 ?_
      exact va_forget h.2.2.2.1.2.2 (lw_ret hx hb hr hlocks dL_law_765)
    · have hi5 : i + 5 ≤ L := by
        have : ¬ L < i + 5 := fun q => c_23 ((sub5_lt hL (by omega)).mpr q)
        omega
      have K : ∀ (G : GG) (H : Heap) (locs : List Loc) (ls : Array Slot), Cls G G → HG J s.heap.size ad s G H locs → lv_has ls 4 [(3, .int (nI i)), (2, .ref (ad 210)), (1, .ref (ad 0)), (0, .ref b)] → W p l e room_1 s m #[Value.ref b] below meth c H locs cells slots (lw_Z below #[Value.ref b] s) (F0 m 758 ls []) := by
        intro G H locs ls hC h hl
        refine lv_iinc (v := nI (i + 5)) (lv' := [(3, .int (nI (i + 5))), (2, .ref (ad 210)), (1, .ref (ad 0)), (0, .ref b)]) hx hb dL_law_758 hl (k := 0) rfl (nI_addc (a := i) (b := 5) rfl) (by decide) rfl (fun ls hl => ?_)
        refine lv_goto (tgt := 18) hx hb dL_law_761 (by decide) ?_
        exact ih (i + 5) (by omega) (by omega) G _ _ _ hC h hl
      refine lv_aload_n hx hb dL_law_26 rfl (lv_at hl 3 rfl) ?_
      refine lv_iload_n hx hb dL_law_27 rfl (lv_at hl 0 rfl) ?_
      refine va_sld hx hb hX hbl hbA h.2.2.2.1 (vp_in_nI (by omega) (by omega)) dL_law_28 ?_
      refine lv_as (y := xs i) (congrArg xs (nI_clamp (by omega))) ?_
      refine lv_bipush (v := nI 31) hx hb dL_law_29 (by decide) ?_
      refine lv_iand hx hb dL_law_31 ?_
      rcases Classical.em (isN (xs i &&& nI 31) 24) with c_32 | c_32
      · obtain ⟨w, hw, e_32⟩ := c_32
        rcases (show w = 0 ∨ w = 1 ∨ w = 2 ∨ w = 3 ∨ w = 4 ∨ w = 5 ∨ w = 6 ∨ w = 7 ∨ w = 8 ∨ w = 9 ∨ w = 10 ∨ w = 11 ∨ w = 12 ∨ w = 13 ∨ w = 14 ∨ w = 15 ∨ w = 16 ∨ w = 17 ∨ w = 18 ∨ w = 19 ∨ w = 20 ∨ w = 21 ∨ w = 22 ∨ w = 23 by omega) with rfl | rfl | rfl | rfl | rfl | rfl | rfl | rfl | rfl | rfl | rfl | rfl | rfl | rfl | rfl | rfl | rfl | rfl | rfl | rfl | rfl | rfl | rfl | rfl
        · refine lv_as (y := nI 0) e_32 ?_
          refine lv_tableIn (off := 112) (tgt := 144) hx hb dL_law_32 (by decide) (by decide) rfl (by decide) ?_
          refine lv_aload_n hx hb dL_law_144 rfl (lv_at hl 2 rfl) ?_
          refine lv_aload_n hx hb dL_law_145 rfl (lv_at hl 3 rfl) ?_
          refine lv_iload_n hx hb dL_law_146 rfl (lv_at hl 0 rfl) ?_
          refine lv_iconst (v := nI 1) hx hb dL_law_147 (by decide) ?_
          refine lv_iadd hx hb dL_law_148 ?_
          refine lv_as (y := nI (i + 1)) (nI_addc rfl) ?_
          refine va_sld hx hb hX hbl hbA h.2.2.2.1 (vp_in_nI (by omega) (by omega)) dL_law_149 ?_
          refine lv_as (y := xs (i + 1)) (congrArg xs (nI_clamp (by omega))) ?_
          refine lv_aload_n hx hb dL_law_150 rfl (lv_at hl 3 rfl) ?_
          refine lv_iload_n hx hb dL_law_151 rfl (lv_at hl 0 rfl) ?_
          refine lv_iconst (v := nI 2) hx hb dL_law_152 (by decide) ?_
          refine lv_iadd hx hb dL_law_153 ?_
          refine lv_as (y := nI (i + 2)) (nI_addc rfl) ?_
          refine va_sld hx hb hX hbl hbA h.2.2.2.1 (vp_in_nI (by omega) (by omega)) dL_law_154 ?_
          refine lv_as (y := xs (i + 2)) (congrArg xs (nI_clamp (by omega))) ?_
          obtain ⟨A, V, P1, hM1, hP1, hM2⟩ := pb_come l J s.heap.size ad G hC (xs (i + 1)) (xs (i + 2))
          refine rg_civ (As := [.int (xs (i + 1)), .int (xs (i + 2))]) (rest := []) X hl.1 h hM1 mw_112 mw_113 mw_114 mw_2 mw_115 pdX7_come (by decide) (xo_0 J ad _) rfl rfl ⟨Nat.le_of_ble_eq_true rfl, Nat.le_of_ble_eq_true rfl⟩ ⟨hc1, hc2⟩ rfl (Nat.le_of_ble_eq_true rfl) dL_law_155 (fun r1 G1 H locs q h => ?_)
          obtain ⟨ea, hs1, hV⟩ := hP1 r1 G1 q
          obtain ⟨P2, hM3, hP2⟩ := hM2 G1 hs1 hV
          refine lv_aload_n hx hb dL_law_158 rfl (lv_at hl 1 rfl) ?_
          refine lv_aload_n hx hb dL_law_159 rfl (lv_at hl 3 rfl) ?_
          refine lv_iload_n hx hb dL_law_160 rfl (lv_at hl 0 rfl) ?_
          refine lv_iconst (v := nI 1) hx hb dL_law_161 (by decide) ?_
          refine lv_iadd hx hb dL_law_162 ?_
          refine lv_as (y := nI (i + 1)) (nI_addc rfl) ?_
          refine va_sld hx hb hX hbl hbA h.2.2.2.1 (vp_in_nI (by omega) (by omega)) dL_law_163 ?_
          refine lv_as (y := xs (i + 1)) (congrArg xs (nI_clamp (by omega))) ?_
          refine lv_aload_n hx hb dL_law_164 rfl (lv_at hl 3 rfl) ?_
          refine lv_iload_n hx hb dL_law_165 rfl (lv_at hl 0 rfl) ?_
          refine lv_iconst (v := nI 2) hx hb dL_law_166 (by decide) ?_
          refine lv_iadd hx hb dL_law_167 ?_
          refine lv_as (y := nI (i + 2)) (nI_addc rfl) ?_
          refine va_sld hx hb hX hbl hbA h.2.2.2.1 (vp_in_nI (by omega) (by omega)) dL_law_168 ?_
          refine lv_as (y := xs (i + 2)) (congrArg xs (nI_clamp (by omega))) ?_
          refine rg_civ (As := [.int (xs (i + 1)), .int (xs (i + 2))]) (rest := [.int r1]) X hl.1 h hM3 mw_172 mw_173 mw_174 mw_5 mw_175 pdX8_come (by decide) (xo_210 J ad _) rfl rfl ⟨Nat.le_of_ble_eq_true rfl, Nat.le_of_ble_eq_true rfl⟩ ⟨hc1, hc2⟩ rfl (Nat.le_of_ble_eq_true rfl) dL_law_169 (fun r2 G2 H locs q h => ?_)
          obtain ⟨eb, hC2⟩ := hP2 r2 G2 q
          refine lv_icmp_eq (tgt := 758) hx hb dL_law_172 (by decide) (fun c_9 => ?_) (fun c_9 => absurd (ea.trans eb.symm) c_9)
          exact K G2 _ _ _ hC2 h hl
        · refine lv_as (y := nI 1) e_32 ?_
          refine lv_tableIn (off := 145) (tgt := 177) hx hb dL_law_32 (by decide) (by decide) rfl (by decide) ?_
          refine lv_aload_n hx hb dL_law_177 rfl (lv_at hl 2 rfl) ?_
          refine lv_aload_n hx hb dL_law_178 rfl (lv_at hl 3 rfl) ?_
          refine lv_iload_n hx hb dL_law_179 rfl (lv_at hl 0 rfl) ?_
          refine lv_iconst (v := nI 1) hx hb dL_law_180 (by decide) ?_
          refine lv_iadd hx hb dL_law_181 ?_
          refine lv_as (y := nI (i + 1)) (nI_addc rfl) ?_
          refine va_sld hx hb hX hbl hbA h.2.2.2.1 (vp_in_nI (by omega) (by omega)) dL_law_182 ?_
          refine lv_as (y := xs (i + 1)) (congrArg xs (nI_clamp (by omega))) ?_
          refine lv_aload_n hx hb dL_law_183 rfl (lv_at hl 3 rfl) ?_
          refine lv_iload_n hx hb dL_law_184 rfl (lv_at hl 0 rfl) ?_
          refine lv_iconst (v := nI 2) hx hb dL_law_185 (by decide) ?_
          refine lv_iadd hx hb dL_law_186 ?_
          refine lv_as (y := nI (i + 2)) (nI_addc rfl) ?_
          refine va_sld hx hb hX hbl hbA h.2.2.2.1 (vp_in_nI (by omega) (by omega)) dL_law_187 ?_
          refine lv_as (y := xs (i + 2)) (congrArg xs (nI_clamp (by omega))) ?_
          obtain ⟨A, V, P1, hM1, hP1, hM2⟩ := pb_move l J s.heap.size ad G hC (xs (i + 1)) (xs (i + 2))
          refine rg_civ (As := [.int (xs (i + 1)), .int (xs (i + 2))]) (rest := []) X hl.1 h hM1 mw_202 mw_203 mw_204 mw_2 mw_205 pdX7_move (by decide) (xo_0 J ad _) rfl rfl ⟨Nat.le_of_ble_eq_true rfl, Nat.le_of_ble_eq_true rfl⟩ ⟨hc1, hc2⟩ rfl (Nat.le_of_ble_eq_true rfl) dL_law_188 (fun r1 G1 H locs q h => ?_)
          obtain ⟨ea, hs1, hV⟩ := hP1 r1 G1 q
          obtain ⟨P2, hM3, hP2⟩ := hM2 G1 hs1 hV
          refine lv_aload_n hx hb dL_law_191 rfl (lv_at hl 1 rfl) ?_
          refine lv_aload_n hx hb dL_law_192 rfl (lv_at hl 3 rfl) ?_
          refine lv_iload_n hx hb dL_law_193 rfl (lv_at hl 0 rfl) ?_
          refine lv_iconst (v := nI 1) hx hb dL_law_194 (by decide) ?_
          refine lv_iadd hx hb dL_law_195 ?_
          refine lv_as (y := nI (i + 1)) (nI_addc rfl) ?_
          refine va_sld hx hb hX hbl hbA h.2.2.2.1 (vp_in_nI (by omega) (by omega)) dL_law_196 ?_
          refine lv_as (y := xs (i + 1)) (congrArg xs (nI_clamp (by omega))) ?_
          refine lv_aload_n hx hb dL_law_197 rfl (lv_at hl 3 rfl) ?_
          refine lv_iload_n hx hb dL_law_198 rfl (lv_at hl 0 rfl) ?_
          refine lv_iconst (v := nI 2) hx hb dL_law_199 (by decide) ?_
          refine lv_iadd hx hb dL_law_200 ?_
          refine lv_as (y := nI (i + 2)) (nI_addc rfl) ?_
          refine va_sld hx hb hX hbl hbA h.2.2.2.1 (vp_in_nI (by omega) (by omega)) dL_law_201 ?_
          refine lv_as (y := xs (i + 2)) (congrArg xs (nI_clamp (by omega))) ?_
          refine rg_civ (As := [.int (xs (i + 1)), .int (xs (i + 2))]) (rest := [.int r1]) X hl.1 h hM3 mw_215 mw_216 mw_217 mw_5 mw_218 pdX8_move (by decide) (xo_210 J ad _) rfl rfl ⟨Nat.le_of_ble_eq_true rfl, Nat.le_of_ble_eq_true rfl⟩ ⟨hc1, hc2⟩ rfl (Nat.le_of_ble_eq_true rfl) dL_law_202 (fun r2 G2 H locs q h => ?_)
          obtain ⟨eb, hC2⟩ := hP2 r2 G2 q
          refine lv_icmp_eq (tgt := 758) hx hb dL_law_205 (by decide) (fun c_9 => ?_) (fun c_9 => absurd (ea.trans eb.symm) c_9)
          exact K G2 _ _ _ hC2 h hl
        · refine lv_as (y := nI 2) e_32 ?_
          refine lv_tableIn (off := 178) (tgt := 210) hx hb dL_law_32 (by decide) (by decide) rfl (by decide) ?_
          refine lv_aload_n hx hb dL_law_210 rfl (lv_at hl 2 rfl) ?_
          refine lv_aload_n hx hb dL_law_211 rfl (lv_at hl 3 rfl) ?_
          refine lv_iload_n hx hb dL_law_212 rfl (lv_at hl 0 rfl) ?_
          refine lv_iconst (v := nI 1) hx hb dL_law_213 (by decide) ?_
          refine lv_iadd hx hb dL_law_214 ?_
          refine lv_as (y := nI (i + 1)) (nI_addc rfl) ?_
          refine va_sld hx hb hX hbl hbA h.2.2.2.1 (vp_in_nI (by omega) (by omega)) dL_law_215 ?_
          refine lv_as (y := xs (i + 1)) (congrArg xs (nI_clamp (by omega))) ?_
          refine lv_aload_n hx hb dL_law_216 rfl (lv_at hl 3 rfl) ?_
          refine lv_iload_n hx hb dL_law_217 rfl (lv_at hl 0 rfl) ?_
          refine lv_iconst (v := nI 2) hx hb dL_law_218 (by decide) ?_
          refine lv_iadd hx hb dL_law_219 ?_
          refine lv_as (y := nI (i + 2)) (nI_addc rfl) ?_
          refine va_sld hx hb hX hbl hbA h.2.2.2.1 (vp_in_nI (by omega) (by omega)) dL_law_220 ?_
          refine lv_as (y := xs (i + 2)) (congrArg xs (nI_clamp (by omega))) ?_
          refine lv_aload_n hx hb dL_law_221 rfl (lv_at hl 3 rfl) ?_
          refine lv_iload_n hx hb dL_law_222 rfl (lv_at hl 0 rfl) ?_
          refine lv_iconst (v := nI 3) hx hb dL_law_223 (by decide) ?_
          refine lv_iadd hx hb dL_law_224 ?_
          refine lv_as (y := nI (i + 3)) (nI_addc rfl) ?_
          refine va_sld hx hb hX hbl hbA h.2.2.2.1 (vp_in_nI (by omega) (by omega)) dL_law_225 ?_
          refine lv_as (y := xs (i + 3)) (congrArg xs (nI_clamp (by omega))) ?_
          refine lv_aload_n hx hb dL_law_226 rfl (lv_at hl 3 rfl) ?_
          refine lv_iload_n hx hb dL_law_227 rfl (lv_at hl 0 rfl) ?_
          refine lv_iconst (v := nI 4) hx hb dL_law_228 (by decide) ?_
          refine lv_iadd hx hb dL_law_229 ?_
          refine lv_as (y := nI (i + 4)) (nI_addc rfl) ?_
          refine va_sld hx hb hX hbl hbA h.2.2.2.1 (vp_in_nI (by omega) (by omega)) dL_law_230 ?_
          refine lv_as (y := xs (i + 4)) (congrArg xs (nI_clamp (by omega))) ?_
          obtain ⟨A, V, P1, hM1, hP1, hM2⟩ := pb_petition l J s.heap.size ad G hC (xs (i + 1)) (xs (i + 2)) (xs (i + 3)) (xs (i + 4))
          refine rg_civ (As := [.int (xs (i + 1)), .int (xs (i + 2)), .int (xs (i + 3)), .int (xs (i + 4))]) (rest := []) X hl.1 h hM1 mw_227 mw_228 mw_229 mw_2 mw_230 pdX7_petition (by decide) (xo_0 J ad _) rfl rfl ⟨Nat.le_of_ble_eq_true rfl, Nat.le_of_ble_eq_true rfl⟩ ⟨hc1, hc2⟩ rfl (Nat.le_of_ble_eq_true rfl) dL_law_231 (fun r1 G1 H locs q h => ?_)
          obtain ⟨ea, hs1, hV⟩ := hP1 r1 G1 q
          obtain ⟨P2, hM3, hP2⟩ := hM2 G1 hs1 hV
          refine lv_aload_n hx hb dL_law_234 rfl (lv_at hl 1 rfl) ?_
          refine lv_aload_n hx hb dL_law_235 rfl (lv_at hl 3 rfl) ?_
          refine lv_iload_n hx hb dL_law_236 rfl (lv_at hl 0 rfl) ?_
          refine lv_iconst (v := nI 1) hx hb dL_law_237 (by decide) ?_
          refine lv_iadd hx hb dL_law_238 ?_
          refine lv_as (y := nI (i + 1)) (nI_addc rfl) ?_
          refine va_sld hx hb hX hbl hbA h.2.2.2.1 (vp_in_nI (by omega) (by omega)) dL_law_239 ?_
          refine lv_as (y := xs (i + 1)) (congrArg xs (nI_clamp (by omega))) ?_
          refine lv_aload_n hx hb dL_law_240 rfl (lv_at hl 3 rfl) ?_
          refine lv_iload_n hx hb dL_law_241 rfl (lv_at hl 0 rfl) ?_
          refine lv_iconst (v := nI 2) hx hb dL_law_242 (by decide) ?_
          refine lv_iadd hx hb dL_law_243 ?_
          refine lv_as (y := nI (i + 2)) (nI_addc rfl) ?_
          refine va_sld hx hb hX hbl hbA h.2.2.2.1 (vp_in_nI (by omega) (by omega)) dL_law_244 ?_
          refine lv_as (y := xs (i + 2)) (congrArg xs (nI_clamp (by omega))) ?_
          refine lv_aload_n hx hb dL_law_245 rfl (lv_at hl 3 rfl) ?_
          refine lv_iload_n hx hb dL_law_246 rfl (lv_at hl 0 rfl) ?_
          refine lv_iconst (v := nI 3) hx hb dL_law_247 (by decide) ?_
          refine lv_iadd hx hb dL_law_248 ?_
          refine lv_as (y := nI (i + 3)) (nI_addc rfl) ?_
          refine va_sld hx hb hX hbl hbA h.2.2.2.1 (vp_in_nI (by omega) (by omega)) dL_law_249 ?_
          refine lv_as (y := xs (i + 3)) (congrArg xs (nI_clamp (by omega))) ?_
          refine lv_aload_n hx hb dL_law_250 rfl (lv_at hl 3 rfl) ?_
          refine lv_iload_n hx hb dL_law_251 rfl (lv_at hl 0 rfl) ?_
          refine lv_iconst (v := nI 4) hx hb dL_law_252 (by decide) ?_
          refine lv_iadd hx hb dL_law_253 ?_
          refine lv_as (y := nI (i + 4)) (nI_addc rfl) ?_
          refine va_sld hx hb hX hbl hbA h.2.2.2.1 (vp_in_nI (by omega) (by omega)) dL_law_254 ?_
          refine lv_as (y := xs (i + 4)) (congrArg xs (nI_clamp (by omega))) ?_
          refine rg_civ (As := [.int (xs (i + 1)), .int (xs (i + 2)), .int (xs (i + 3)), .int (xs (i + 4))]) (rest := [.int r1]) X hl.1 h hM3 mw_250 mw_251 mw_252 mw_5 mw_253 pdX8_petition (by decide) (xo_210 J ad _) rfl rfl ⟨Nat.le_of_ble_eq_true rfl, Nat.le_of_ble_eq_true rfl⟩ ⟨hc1, hc2⟩ rfl (Nat.le_of_ble_eq_true rfl) dL_law_255 (fun r2 G2 H locs q h => ?_)
          obtain ⟨eb, hC2⟩ := hP2 r2 G2 q
          refine lv_icmp_eq (tgt := 758) hx hb dL_law_258 (by decide) (fun c_9 => ?_) (fun c_9 => absurd (ea.trans eb.symm) c_9)
          exact K G2 _ _ _ hC2 h hl
        · refine lv_as (y := nI 3) e_32 ?_
          refine lv_tableIn (off := 231) (tgt := 263) hx hb dL_law_32 (by decide) (by decide) rfl (by decide) ?_
          refine lv_aload_n hx hb dL_law_263 rfl (lv_at hl 2 rfl) ?_
          refine lv_aload_n hx hb dL_law_264 rfl (lv_at hl 3 rfl) ?_
          refine lv_iload_n hx hb dL_law_265 rfl (lv_at hl 0 rfl) ?_
          refine lv_iconst (v := nI 1) hx hb dL_law_266 (by decide) ?_
          refine lv_iadd hx hb dL_law_267 ?_
          refine lv_as (y := nI (i + 1)) (nI_addc rfl) ?_
          refine va_sld hx hb hX hbl hbA h.2.2.2.1 (vp_in_nI (by omega) (by omega)) dL_law_268 ?_
          refine lv_as (y := xs (i + 1)) (congrArg xs (nI_clamp (by omega))) ?_
          refine lv_aload_n hx hb dL_law_269 rfl (lv_at hl 3 rfl) ?_
          refine lv_iload_n hx hb dL_law_270 rfl (lv_at hl 0 rfl) ?_
          refine lv_iconst (v := nI 2) hx hb dL_law_271 (by decide) ?_
          refine lv_iadd hx hb dL_law_272 ?_
          refine lv_as (y := nI (i + 2)) (nI_addc rfl) ?_
          refine va_sld hx hb hX hbl hbA h.2.2.2.1 (vp_in_nI (by omega) (by omega)) dL_law_273 ?_
          refine lv_as (y := xs (i + 2)) (congrArg xs (nI_clamp (by omega))) ?_
          obtain ⟨A, V, P1, hM1, hP1, hM2⟩ := pb_second l J s.heap.size ad G hC (xs (i + 1)) (xs (i + 2))
          refine rg_civ (As := [.int (xs (i + 1)), .int (xs (i + 2))]) (rest := []) X hl.1 h hM1 mw_264 mw_265 mw_266 mw_2 mw_267 pdX7_second (by decide) (xo_0 J ad _) rfl rfl ⟨Nat.le_of_ble_eq_true rfl, Nat.le_of_ble_eq_true rfl⟩ ⟨hc1, hc2⟩ rfl (Nat.le_of_ble_eq_true rfl) dL_law_274 (fun r1 G1 H locs q h => ?_)
          obtain ⟨ea, hs1, hV⟩ := hP1 r1 G1 q
          obtain ⟨P2, hM3, hP2⟩ := hM2 G1 hs1 hV
          refine lv_aload_n hx hb dL_law_277 rfl (lv_at hl 1 rfl) ?_
          refine lv_aload_n hx hb dL_law_278 rfl (lv_at hl 3 rfl) ?_
          refine lv_iload_n hx hb dL_law_279 rfl (lv_at hl 0 rfl) ?_
          refine lv_iconst (v := nI 1) hx hb dL_law_280 (by decide) ?_
          refine lv_iadd hx hb dL_law_281 ?_
          refine lv_as (y := nI (i + 1)) (nI_addc rfl) ?_
          refine va_sld hx hb hX hbl hbA h.2.2.2.1 (vp_in_nI (by omega) (by omega)) dL_law_282 ?_
          refine lv_as (y := xs (i + 1)) (congrArg xs (nI_clamp (by omega))) ?_
          refine lv_aload_n hx hb dL_law_283 rfl (lv_at hl 3 rfl) ?_
          refine lv_iload_n hx hb dL_law_284 rfl (lv_at hl 0 rfl) ?_
          refine lv_iconst (v := nI 2) hx hb dL_law_285 (by decide) ?_
          refine lv_iadd hx hb dL_law_286 ?_
          refine lv_as (y := nI (i + 2)) (nI_addc rfl) ?_
          refine va_sld hx hb hX hbl hbA h.2.2.2.1 (vp_in_nI (by omega) (by omega)) dL_law_287 ?_
          refine lv_as (y := xs (i + 2)) (congrArg xs (nI_clamp (by omega))) ?_
          refine rg_civ (As := [.int (xs (i + 1)), .int (xs (i + 2))]) (rest := [.int r1]) X hl.1 h hM3 mw_279 mw_280 mw_281 mw_5 mw_282 pdX8_second (by decide) (xo_210 J ad _) rfl rfl ⟨Nat.le_of_ble_eq_true rfl, Nat.le_of_ble_eq_true rfl⟩ ⟨hc1, hc2⟩ rfl (Nat.le_of_ble_eq_true rfl) dL_law_288 (fun r2 G2 H locs q h => ?_)
          obtain ⟨eb, hC2⟩ := hP2 r2 G2 q
          refine lv_icmp_eq (tgt := 758) hx hb dL_law_291 (by decide) (fun c_9 => ?_) (fun c_9 => absurd (ea.trans eb.symm) c_9)
          exact K G2 _ _ _ hC2 h hl
        · refine lv_as (y := nI 4) e_32 ?_
          refine lv_tableIn (off := 264) (tgt := 296) hx hb dL_law_32 (by decide) (by decide) rfl (by decide) ?_
          refine lv_aload_n hx hb dL_law_296 rfl (lv_at hl 2 rfl) ?_
          refine lv_aload_n hx hb dL_law_297 rfl (lv_at hl 3 rfl) ?_
          refine lv_iload_n hx hb dL_law_298 rfl (lv_at hl 0 rfl) ?_
          refine lv_iconst (v := nI 1) hx hb dL_law_299 (by decide) ?_
          refine lv_iadd hx hb dL_law_300 ?_
          refine lv_as (y := nI (i + 1)) (nI_addc rfl) ?_
          refine va_sld hx hb hX hbl hbA h.2.2.2.1 (vp_in_nI (by omega) (by omega)) dL_law_301 ?_
          refine lv_as (y := xs (i + 1)) (congrArg xs (nI_clamp (by omega))) ?_
          obtain ⟨A, V, P1, hM1, hP1, hM2⟩ := pb_pass l J s.heap.size ad G hC (xs (i + 1))
          refine rg_civ (As := [.int (xs (i + 1))]) (rest := []) X hl.1 h hM1 mw_295 mw_296 mw_297 mw_2 mw_298 pdX7_pass (by decide) (xo_0 J ad _) rfl rfl ⟨Nat.le_of_ble_eq_true rfl, Nat.le_of_ble_eq_true rfl⟩ ⟨hc1, hc2⟩ rfl (Nat.le_of_ble_eq_true rfl) dL_law_302 (fun r1 G1 H locs q h => ?_)
          obtain ⟨ea, hs1, hV⟩ := hP1 r1 G1 q
          obtain ⟨P2, hM3, hP2⟩ := hM2 G1 hs1 hV
          refine lv_aload_n hx hb dL_law_305 rfl (lv_at hl 1 rfl) ?_
          refine lv_aload_n hx hb dL_law_306 rfl (lv_at hl 3 rfl) ?_
          refine lv_iload_n hx hb dL_law_307 rfl (lv_at hl 0 rfl) ?_
          refine lv_iconst (v := nI 1) hx hb dL_law_308 (by decide) ?_
          refine lv_iadd hx hb dL_law_309 ?_
          refine lv_as (y := nI (i + 1)) (nI_addc rfl) ?_
          refine va_sld hx hb hX hbl hbA h.2.2.2.1 (vp_in_nI (by omega) (by omega)) dL_law_310 ?_
          refine lv_as (y := xs (i + 1)) (congrArg xs (nI_clamp (by omega))) ?_
          refine rg_civ (As := [.int (xs (i + 1))]) (rest := [.int r1]) X hl.1 h hM3 mw_361 mw_362 mw_363 mw_5 mw_364 pdX8_pass (by decide) (xo_210 J ad _) rfl rfl ⟨Nat.le_of_ble_eq_true rfl, Nat.le_of_ble_eq_true rfl⟩ ⟨hc1, hc2⟩ rfl (Nat.le_of_ble_eq_true rfl) dL_law_311 (fun r2 G2 H locs q h => ?_)
          obtain ⟨eb, hC2⟩ := hP2 r2 G2 q
          refine lv_icmp_eq (tgt := 758) hx hb dL_law_314 (by decide) (fun c_9 => ?_) (fun c_9 => absurd (ea.trans eb.symm) c_9)
          exact K G2 _ _ _ hC2 h hl
        · refine lv_as (y := nI 5) e_32 ?_
          refine lv_tableIn (off := 287) (tgt := 319) hx hb dL_law_32 (by decide) (by decide) rfl (by decide) ?_
          refine lv_aload_n hx hb dL_law_319 rfl (lv_at hl 2 rfl) ?_
          refine lv_aload_n hx hb dL_law_320 rfl (lv_at hl 3 rfl) ?_
          refine lv_iload_n hx hb dL_law_321 rfl (lv_at hl 0 rfl) ?_
          refine lv_iconst (v := nI 1) hx hb dL_law_322 (by decide) ?_
          refine lv_iadd hx hb dL_law_323 ?_
          refine lv_as (y := nI (i + 1)) (nI_addc rfl) ?_
          refine va_sld hx hb hX hbl hbA h.2.2.2.1 (vp_in_nI (by omega) (by omega)) dL_law_324 ?_
          refine lv_as (y := xs (i + 1)) (congrArg xs (nI_clamp (by omega))) ?_
          refine lv_aload_n hx hb dL_law_325 rfl (lv_at hl 3 rfl) ?_
          refine lv_iload_n hx hb dL_law_326 rfl (lv_at hl 0 rfl) ?_
          refine lv_iconst (v := nI 2) hx hb dL_law_327 (by decide) ?_
          refine lv_iadd hx hb dL_law_328 ?_
          refine lv_as (y := nI (i + 2)) (nI_addc rfl) ?_
          refine va_sld hx hb hX hbl hbA h.2.2.2.1 (vp_in_nI (by omega) (by omega)) dL_law_329 ?_
          refine lv_as (y := xs (i + 2)) (congrArg xs (nI_clamp (by omega))) ?_
          obtain ⟨A, V, P1, hM1, hP1, hM2⟩ := pb_set l J s.heap.size ad G hC (xs (i + 1)) (xs (i + 2))
          refine rg_civ (As := [.int (xs (i + 1)), .int (xs (i + 2))]) (rest := []) X hl.1 h hM1 mw_404 mw_405 mw_406 mw_2 mw_407 pdX7_set (by decide) (xo_0 J ad _) rfl rfl ⟨Nat.le_of_ble_eq_true rfl, Nat.le_of_ble_eq_true rfl⟩ ⟨hc1, hc2⟩ rfl (Nat.le_of_ble_eq_true rfl) dL_law_330 (fun r1 G1 H locs q h => ?_)
          obtain ⟨ea, hs1, hV⟩ := hP1 r1 G1 q
          obtain ⟨P2, hM3, hP2⟩ := hM2 G1 hs1 hV
          refine lv_aload_n hx hb dL_law_333 rfl (lv_at hl 1 rfl) ?_
          refine lv_aload_n hx hb dL_law_334 rfl (lv_at hl 3 rfl) ?_
          refine lv_iload_n hx hb dL_law_335 rfl (lv_at hl 0 rfl) ?_
          refine lv_iconst (v := nI 1) hx hb dL_law_336 (by decide) ?_
          refine lv_iadd hx hb dL_law_337 ?_
          refine lv_as (y := nI (i + 1)) (nI_addc rfl) ?_
          refine va_sld hx hb hX hbl hbA h.2.2.2.1 (vp_in_nI (by omega) (by omega)) dL_law_338 ?_
          refine lv_as (y := xs (i + 1)) (congrArg xs (nI_clamp (by omega))) ?_
          refine lv_aload_n hx hb dL_law_339 rfl (lv_at hl 3 rfl) ?_
          refine lv_iload_n hx hb dL_law_340 rfl (lv_at hl 0 rfl) ?_
          refine lv_iconst (v := nI 2) hx hb dL_law_341 (by decide) ?_
          refine lv_iadd hx hb dL_law_342 ?_
          refine lv_as (y := nI (i + 2)) (nI_addc rfl) ?_
          refine va_sld hx hb hX hbl hbA h.2.2.2.1 (vp_in_nI (by omega) (by omega)) dL_law_343 ?_
          refine lv_as (y := xs (i + 2)) (congrArg xs (nI_clamp (by omega))) ?_
          refine rg_civ (As := [.int (xs (i + 1)), .int (xs (i + 2))]) (rest := [.int r1]) X hl.1 h hM3 mw_412 mw_413 mw_414 mw_5 mw_415 pdX8_set (by decide) (xo_210 J ad _) rfl rfl ⟨Nat.le_of_ble_eq_true rfl, Nat.le_of_ble_eq_true rfl⟩ ⟨hc1, hc2⟩ rfl (Nat.le_of_ble_eq_true rfl) dL_law_344 (fun r2 G2 H locs q h => ?_)
          obtain ⟨eb, hC2⟩ := hP2 r2 G2 q
          refine lv_icmp_eq (tgt := 758) hx hb dL_law_347 (by decide) (fun c_9 => ?_) (fun c_9 => absurd (ea.trans eb.symm) c_9)
          exact K G2 _ _ _ hC2 h hl
        · refine lv_as (y := nI 6) e_32 ?_
          refine lv_tableIn (off := 320) (tgt := 352) hx hb dL_law_32 (by decide) (by decide) rfl (by decide) ?_
          refine lv_aload_n hx hb dL_law_352 rfl (lv_at hl 2 rfl) ?_
          refine lv_aload_n hx hb dL_law_353 rfl (lv_at hl 3 rfl) ?_
          refine lv_iload_n hx hb dL_law_354 rfl (lv_at hl 0 rfl) ?_
          refine lv_iconst (v := nI 1) hx hb dL_law_355 (by decide) ?_
          refine lv_iadd hx hb dL_law_356 ?_
          refine lv_as (y := nI (i + 1)) (nI_addc rfl) ?_
          refine va_sld hx hb hX hbl hbA h.2.2.2.1 (vp_in_nI (by omega) (by omega)) dL_law_357 ?_
          refine lv_as (y := xs (i + 1)) (congrArg xs (nI_clamp (by omega))) ?_
          refine lv_i2c hx hb dL_law_358 rfl ?_
          obtain ⟨A, V, P1, hM1, hP1, hM2⟩ := pb_type l J s.heap.size ad G hC (((xs (i + 1)).toUInt32 % 65536).toInt32) (chr_n _)
          refine rg_civ (As := [.int (((xs (i + 1)).toUInt32 % 65536).toInt32)]) (rest := []) X hl.1 h hM1 mw_420 mw_421 mw_422 mw_2 mw_423 pdX7_type (by decide) (xo_0 J ad _) rfl rfl ⟨Nat.le_of_ble_eq_true rfl, Nat.le_of_ble_eq_true rfl⟩ ⟨hc1, hc2⟩ rfl (Nat.le_of_ble_eq_true rfl) dL_law_359 (fun r1 G1 H locs q h => ?_)
          obtain ⟨ea, hs1, hV⟩ := hP1 r1 G1 q
          obtain ⟨P2, hM3, hP2⟩ := hM2 G1 hs1 hV
          refine lv_aload_n hx hb dL_law_362 rfl (lv_at hl 1 rfl) ?_
          refine lv_aload_n hx hb dL_law_363 rfl (lv_at hl 3 rfl) ?_
          refine lv_iload_n hx hb dL_law_364 rfl (lv_at hl 0 rfl) ?_
          refine lv_iconst (v := nI 1) hx hb dL_law_365 (by decide) ?_
          refine lv_iadd hx hb dL_law_366 ?_
          refine lv_as (y := nI (i + 1)) (nI_addc rfl) ?_
          refine va_sld hx hb hX hbl hbA h.2.2.2.1 (vp_in_nI (by omega) (by omega)) dL_law_367 ?_
          refine lv_as (y := xs (i + 1)) (congrArg xs (nI_clamp (by omega))) ?_
          refine lv_i2c hx hb dL_law_368 rfl ?_
          refine rg_civ (As := [.int (((xs (i + 1)).toUInt32 % 65536).toInt32)]) (rest := [.int r1]) X hl.1 h hM3 mw_429 mw_430 mw_431 mw_5 mw_432 pdX8_type (by decide) (xo_210 J ad _) rfl rfl ⟨Nat.le_of_ble_eq_true rfl, Nat.le_of_ble_eq_true rfl⟩ ⟨hc1, hc2⟩ rfl (Nat.le_of_ble_eq_true rfl) dL_law_369 (fun r2 G2 H locs q h => ?_)
          obtain ⟨eb, hC2⟩ := hP2 r2 G2 q
          refine lv_icmp_eq (tgt := 758) hx hb dL_law_372 (by decide) (fun c_9 => ?_) (fun c_9 => absurd (ea.trans eb.symm) c_9)
          exact K G2 _ _ _ hC2 h hl
        · refine lv_as (y := nI 7) e_32 ?_
          refine lv_tableIn (off := 345) (tgt := 377) hx hb dL_law_32 (by decide) (by decide) rfl (by decide) ?_
          refine lv_aload_n hx hb dL_law_377 rfl (lv_at hl 2 rfl) ?_
          obtain ⟨A, V, P1, hM1, hP1, hM2⟩ := pb_clearText l J s.heap.size ad G hC 
          refine rg_civ (As := []) (rest := []) X hl.1 h hM1 mw_434 mw_435 mw_436 mw_2 mw_437 pdX7_clearText (by decide) (xo_0 J ad _) rfl rfl ⟨Nat.le_of_ble_eq_true rfl, Nat.le_of_ble_eq_true rfl⟩ ⟨hc1, hc2⟩ rfl (Nat.le_of_ble_eq_true rfl) dL_law_378 (fun r1 G1 H locs q h => ?_)
          obtain ⟨ea, hs1, hV⟩ := hP1 r1 G1 q
          obtain ⟨P2, hM3, hP2⟩ := hM2 G1 hs1 hV
          refine lv_aload_n hx hb dL_law_381 rfl (lv_at hl 1 rfl) ?_
          refine rg_civ (As := []) (rest := [.int r1]) X hl.1 h hM3 mw_442 mw_443 mw_444 mw_5 mw_445 pdX8_clearText (by decide) (xo_210 J ad _) rfl rfl ⟨Nat.le_of_ble_eq_true rfl, Nat.le_of_ble_eq_true rfl⟩ ⟨hc1, hc2⟩ rfl (Nat.le_of_ble_eq_true rfl) dL_law_382 (fun r2 G2 H locs q h => ?_)
          obtain ⟨eb, hC2⟩ := hP2 r2 G2 q
          refine lv_icmp_eq (tgt := 758) hx hb dL_law_385 (by decide) (fun c_9 => ?_) (fun c_9 => absurd (ea.trans eb.symm) c_9)
          exact K G2 _ _ _ hC2 h hl
        · refine lv_as (y := nI 8) e_32 ?_
          refine lv_tableIn (off := 358) (tgt := 390) hx hb dL_law_32 (by decide) (by decide) rfl (by decide) ?_
          refine lv_aload_n hx hb dL_law_390 rfl (lv_at hl 2 rfl) ?_
          obtain ⟨A, V, P1, hM1, hP1, hM2⟩ := pb_perform l J s.heap.size ad G hC 
          refine rg_civ (As := []) (rest := []) X hl.1 h hM1 mw_446 mw_447 mw_448 mw_2 mw_449 pdX7_perform (by decide) (xo_0 J ad _) rfl rfl ⟨Nat.le_of_ble_eq_true rfl, Nat.le_of_ble_eq_true rfl⟩ ⟨hc1, hc2⟩ rfl (Nat.le_of_ble_eq_true rfl) dL_law_391 (fun r1 G1 H locs q h => ?_)
          obtain ⟨ea, hs1, hV⟩ := hP1 r1 G1 q
          obtain ⟨P2, hM3, hP2⟩ := hM2 G1 hs1 hV
          refine lv_aload_n hx hb dL_law_394 rfl (lv_at hl 1 rfl) ?_
          refine rg_civ (As := []) (rest := [.int r1]) X hl.1 h hM3 mw_496 mw_497 mw_498 mw_5 mw_499 pdX8_perform (by decide) (xo_210 J ad _) rfl rfl ⟨Nat.le_of_ble_eq_true rfl, Nat.le_of_ble_eq_true rfl⟩ ⟨hc1, hc2⟩ rfl (Nat.le_of_ble_eq_true rfl) dL_law_395 (fun r2 G2 H locs q h => ?_)
          obtain ⟨eb, hC2⟩ := hP2 r2 G2 q
          refine lv_icmp_eq (tgt := 758) hx hb dL_law_398 (by decide) (fun c_9 => ?_) (fun c_9 => absurd (ea.trans eb.symm) c_9)
          exact K G2 _ _ _ hC2 h hl
        · refine lv_as (y := nI 9) e_32 ?_
          refine lv_tableIn (off := 371) (tgt := 403) hx hb dL_law_32 (by decide) (by decide) rfl (by decide) ?_
          refine lv_aload_n hx hb dL_law_403 rfl (lv_at hl 2 rfl) ?_
          refine lv_aload_n hx hb dL_law_404 rfl (lv_at hl 3 rfl) ?_
          refine lv_iload_n hx hb dL_law_405 rfl (lv_at hl 0 rfl) ?_
          refine lv_iconst (v := nI 1) hx hb dL_law_406 (by decide) ?_
          refine lv_iadd hx hb dL_law_407 ?_
          refine lv_as (y := nI (i + 1)) (nI_addc rfl) ?_
          refine va_sld hx hb hX hbl hbA h.2.2.2.1 (vp_in_nI (by omega) (by omega)) dL_law_408 ?_
          refine lv_as (y := xs (i + 1)) (congrArg xs (nI_clamp (by omega))) ?_
          obtain ⟨A, V, P1, hM1, hP1, hM2⟩ := pb_stopped l J s.heap.size ad G hC (xs (i + 1))
          refine rg_civ (As := [.int (xs (i + 1))]) (rest := []) X hl.1 h hM1 mw_534 mw_535 mw_536 mw_2 mw_537 pdX7_stopped (by decide) (xo_0 J ad _) rfl rfl ⟨Nat.le_of_ble_eq_true rfl, Nat.le_of_ble_eq_true rfl⟩ ⟨hc1, hc2⟩ rfl (Nat.le_of_ble_eq_true rfl) dL_law_409 (fun r1 G1 H locs q h => ?_)
          obtain ⟨ea, hs1, hV⟩ := hP1 r1 G1 q
          obtain ⟨P2, hM3, hP2⟩ := hM2 G1 hs1 hV
          refine lv_aload_n hx hb dL_law_412 rfl (lv_at hl 1 rfl) ?_
          refine lv_aload_n hx hb dL_law_413 rfl (lv_at hl 3 rfl) ?_
          refine lv_iload_n hx hb dL_law_414 rfl (lv_at hl 0 rfl) ?_
          refine lv_iconst (v := nI 1) hx hb dL_law_415 (by decide) ?_
          refine lv_iadd hx hb dL_law_416 ?_
          refine lv_as (y := nI (i + 1)) (nI_addc rfl) ?_
          refine va_sld hx hb hX hbl hbA h.2.2.2.1 (vp_in_nI (by omega) (by omega)) dL_law_417 ?_
          refine lv_as (y := xs (i + 1)) (congrArg xs (nI_clamp (by omega))) ?_
          refine rg_civ (As := [.int (xs (i + 1))]) (rest := [.int r1]) X hl.1 h hM3 mw_538 mw_539 mw_540 mw_5 mw_541 pdX8_stopped (by decide) (xo_210 J ad _) rfl rfl ⟨Nat.le_of_ble_eq_true rfl, Nat.le_of_ble_eq_true rfl⟩ ⟨hc1, hc2⟩ rfl (Nat.le_of_ble_eq_true rfl) dL_law_418 (fun r2 G2 H locs q h => ?_)
          obtain ⟨eb, hC2⟩ := hP2 r2 G2 q
          refine lv_icmp_eq (tgt := 758) hx hb dL_law_421 (by decide) (fun c_9 => ?_) (fun c_9 => absurd (ea.trans eb.symm) c_9)
          exact K G2 _ _ _ hC2 h hl
        · refine lv_as (y := nI 10) e_32 ?_
          refine lv_tableIn (off := 394) (tgt := 426) hx hb dL_law_32 (by decide) (by decide) rfl (by decide) ?_
          refine lv_aload_n hx hb dL_law_426 rfl (lv_at hl 2 rfl) ?_
          obtain ⟨A, V, P1, hM1, hP1, hM2⟩ := pb_undo l J s.heap.size ad G hC 
          refine rg_civ (As := []) (rest := []) X hl.1 h hM1 mw_542 mw_543 mw_544 mw_2 mw_545 pdX7_undo (by decide) (xo_0 J ad _) rfl rfl ⟨Nat.le_of_ble_eq_true rfl, Nat.le_of_ble_eq_true rfl⟩ ⟨hc1, hc2⟩ rfl (Nat.le_of_ble_eq_true rfl) dL_law_427 (fun r1 G1 H locs q h => ?_)
          obtain ⟨ea, hs1, hV⟩ := hP1 r1 G1 q
          obtain ⟨P2, hM3, hP2⟩ := hM2 G1 hs1 hV
          refine lv_aload_n hx hb dL_law_430 rfl (lv_at hl 1 rfl) ?_
          refine rg_civ (As := []) (rest := [.int r1]) X hl.1 h hM3 mw_550 mw_551 mw_552 mw_5 mw_553 pdX8_undo (by decide) (xo_210 J ad _) rfl rfl ⟨Nat.le_of_ble_eq_true rfl, Nat.le_of_ble_eq_true rfl⟩ ⟨hc1, hc2⟩ rfl (Nat.le_of_ble_eq_true rfl) dL_law_431 (fun r2 G2 H locs q h => ?_)
          obtain ⟨eb, hC2⟩ := hP2 r2 G2 q
          refine lv_icmp_eq (tgt := 758) hx hb dL_law_434 (by decide) (fun c_9 => ?_) (fun c_9 => absurd (ea.trans eb.symm) c_9)
          exact K G2 _ _ _ hC2 h hl
        · refine lv_as (y := nI 11) e_32 ?_
          refine lv_tableIn (off := 407) (tgt := 439) hx hb dL_law_32 (by decide) (by decide) rfl (by decide) ?_
          refine lv_aload_n hx hb dL_law_439 rfl (lv_at hl 2 rfl) ?_
          obtain ⟨A, V, P1, hM1, hP1, hM2⟩ := pb_keep l J s.heap.size ad G hC 
          refine rg_civ (As := []) (rest := []) X hl.1 h hM1 mw_554 mw_555 mw_556 mw_2 mw_557 pdX7_keep (by decide) (xo_0 J ad _) rfl rfl ⟨Nat.le_of_ble_eq_true rfl, Nat.le_of_ble_eq_true rfl⟩ ⟨hc1, hc2⟩ rfl (Nat.le_of_ble_eq_true rfl) dL_law_440 (fun r1 G1 H locs q h => ?_)
          obtain ⟨ea, hs1, hV⟩ := hP1 r1 G1 q
          obtain ⟨P2, hM3, hP2⟩ := hM2 G1 hs1 hV
          refine lv_aload_n hx hb dL_law_443 rfl (lv_at hl 1 rfl) ?_
          refine rg_civ (As := []) (rest := [.int r1]) X hl.1 h hM3 mw_568 mw_569 mw_570 mw_5 mw_571 pdX8_keep (by decide) (xo_210 J ad _) rfl rfl ⟨Nat.le_of_ble_eq_true rfl, Nat.le_of_ble_eq_true rfl⟩ ⟨hc1, hc2⟩ rfl (Nat.le_of_ble_eq_true rfl) dL_law_444 (fun r2 G2 H locs q h => ?_)
          obtain ⟨eb, hC2⟩ := hP2 r2 G2 q
          refine lv_icmp_eq (tgt := 758) hx hb dL_law_447 (by decide) (fun c_9 => ?_) (fun c_9 => absurd (ea.trans eb.symm) c_9)
          exact K G2 _ _ _ hC2 h hl
        · refine lv_as (y := nI 12) e_32 ?_
          refine lv_tableIn (off := 420) (tgt := 452) hx hb dL_law_32 (by decide) (by decide) rfl (by decide) ?_
          refine lv_aload_n hx hb dL_law_452 rfl (lv_at hl 2 rfl) ?_
          obtain ⟨A, V, P1, hM1, hP1, hM2⟩ := pb_restore l J s.heap.size ad G hC 
          refine rg_civ (As := []) (rest := []) X hl.1 h hM1 mw_577 mw_578 mw_579 mw_2 mw_580 pdX7_restore (by decide) (xo_0 J ad _) rfl rfl ⟨Nat.le_of_ble_eq_true rfl, Nat.le_of_ble_eq_true rfl⟩ ⟨hc1, hc2⟩ rfl (Nat.le_of_ble_eq_true rfl) dL_law_453 (fun r1 G1 H locs q h => ?_)
          obtain ⟨ea, hs1, hV⟩ := hP1 r1 G1 q
          obtain ⟨P2, hM3, hP2⟩ := hM2 G1 hs1 hV
          refine lv_aload_n hx hb dL_law_456 rfl (lv_at hl 1 rfl) ?_
          refine rg_civ (As := []) (rest := [.int r1]) X hl.1 h hM3 mw_581 mw_582 mw_583 mw_5 mw_584 pdX8_restore (by decide) (xo_210 J ad _) rfl rfl ⟨Nat.le_of_ble_eq_true rfl, Nat.le_of_ble_eq_true rfl⟩ ⟨hc1, hc2⟩ rfl (Nat.le_of_ble_eq_true rfl) dL_law_457 (fun r2 G2 H locs q h => ?_)
          obtain ⟨eb, hC2⟩ := hP2 r2 G2 q
          refine lv_icmp_eq (tgt := 758) hx hb dL_law_460 (by decide) (fun c_9 => ?_) (fun c_9 => absurd (ea.trans eb.symm) c_9)
          exact K G2 _ _ _ hC2 h hl
        · refine lv_as (y := nI 13) e_32 ?_
          refine lv_tableIn (off := 433) (tgt := 465) hx hb dL_law_32 (by decide) (by decide) rfl (by decide) ?_
          refine lv_aload_n hx hb dL_law_465 rfl (lv_at hl 2 rfl) ?_
          refine lv_aload_n hx hb dL_law_466 rfl (lv_at hl 3 rfl) ?_
          refine lv_iload_n hx hb dL_law_467 rfl (lv_at hl 0 rfl) ?_
          refine lv_iconst (v := nI 1) hx hb dL_law_468 (by decide) ?_
          refine lv_iadd hx hb dL_law_469 ?_
          refine lv_as (y := nI (i + 1)) (nI_addc rfl) ?_
          refine va_sld hx hb hX hbl hbA h.2.2.2.1 (vp_in_nI (by omega) (by omega)) dL_law_470 ?_
          refine lv_as (y := xs (i + 1)) (congrArg xs (nI_clamp (by omega))) ?_
          refine lv_aload_n hx hb dL_law_471 rfl (lv_at hl 3 rfl) ?_
          refine lv_iload_n hx hb dL_law_472 rfl (lv_at hl 0 rfl) ?_
          refine lv_iconst (v := nI 2) hx hb dL_law_473 (by decide) ?_
          refine lv_iadd hx hb dL_law_474 ?_
          refine lv_as (y := nI (i + 2)) (nI_addc rfl) ?_
          refine va_sld hx hb hX hbl hbA h.2.2.2.1 (vp_in_nI (by omega) (by omega)) dL_law_475 ?_
          refine lv_as (y := xs (i + 2)) (congrArg xs (nI_clamp (by omega))) ?_
          obtain ⟨A, V, P1, hM1, hP1, hM2⟩ := pb_drone l J s.heap.size ad G hC (xs (i + 1)) (xs (i + 2))
          refine rg_civ (As := [.int (xs (i + 1)), .int (xs (i + 2))]) (rest := []) X hl.1 h hM1 mw_585 mw_586 mw_587 mw_2 mw_588 pdX7_drone (by decide) (xo_0 J ad _) rfl rfl ⟨Nat.le_of_ble_eq_true rfl, Nat.le_of_ble_eq_true rfl⟩ ⟨hc1, hc2⟩ rfl (Nat.le_of_ble_eq_true rfl) dL_law_476 (fun r1 G1 H locs q h => ?_)
          obtain ⟨ea, hs1, hV⟩ := hP1 r1 G1 q
          obtain ⟨P2, hM3, hP2⟩ := hM2 G1 hs1 hV
          refine lv_aload_n hx hb dL_law_479 rfl (lv_at hl 1 rfl) ?_
          refine lv_aload_n hx hb dL_law_480 rfl (lv_at hl 3 rfl) ?_
          refine lv_iload_n hx hb dL_law_481 rfl (lv_at hl 0 rfl) ?_
          refine lv_iconst (v := nI 1) hx hb dL_law_482 (by decide) ?_
          refine lv_iadd hx hb dL_law_483 ?_
          refine lv_as (y := nI (i + 1)) (nI_addc rfl) ?_
          refine va_sld hx hb hX hbl hbA h.2.2.2.1 (vp_in_nI (by omega) (by omega)) dL_law_484 ?_
          refine lv_as (y := xs (i + 1)) (congrArg xs (nI_clamp (by omega))) ?_
          refine lv_aload_n hx hb dL_law_485 rfl (lv_at hl 3 rfl) ?_
          refine lv_iload_n hx hb dL_law_486 rfl (lv_at hl 0 rfl) ?_
          refine lv_iconst (v := nI 2) hx hb dL_law_487 (by decide) ?_
          refine lv_iadd hx hb dL_law_488 ?_
          refine lv_as (y := nI (i + 2)) (nI_addc rfl) ?_
          refine va_sld hx hb hX hbl hbA h.2.2.2.1 (vp_in_nI (by omega) (by omega)) dL_law_489 ?_
          refine lv_as (y := xs (i + 2)) (congrArg xs (nI_clamp (by omega))) ?_
          refine rg_civ (As := [.int (xs (i + 1)), .int (xs (i + 2))]) (rest := [.int r1]) X hl.1 h hM3 mw_602 mw_603 mw_604 mw_5 mw_605 pdX8_drone (by decide) (xo_210 J ad _) rfl rfl ⟨Nat.le_of_ble_eq_true rfl, Nat.le_of_ble_eq_true rfl⟩ ⟨hc1, hc2⟩ rfl (Nat.le_of_ble_eq_true rfl) dL_law_490 (fun r2 G2 H locs q h => ?_)
          obtain ⟨eb, hC2⟩ := hP2 r2 G2 q
          refine lv_icmp_eq (tgt := 758) hx hb dL_law_493 (by decide) (fun c_9 => ?_) (fun c_9 => absurd (ea.trans eb.symm) c_9)
          exact K G2 _ _ _ hC2 h hl
        · refine lv_as (y := nI 14) e_32 ?_
          refine lv_tableIn (off := 466) (tgt := 498) hx hb dL_law_32 (by decide) (by decide) rfl (by decide) ?_
          refine lv_aload_n hx hb dL_law_498 rfl (lv_at hl 2 rfl) ?_
          refine lv_aload_n hx hb dL_law_499 rfl (lv_at hl 3 rfl) ?_
          refine lv_iload_n hx hb dL_law_500 rfl (lv_at hl 0 rfl) ?_
          refine lv_iconst (v := nI 1) hx hb dL_law_501 (by decide) ?_
          refine lv_iadd hx hb dL_law_502 ?_
          refine lv_as (y := nI (i + 1)) (nI_addc rfl) ?_
          refine va_sld hx hb hX hbl hbA h.2.2.2.1 (vp_in_nI (by omega) (by omega)) dL_law_503 ?_
          refine lv_as (y := xs (i + 1)) (congrArg xs (nI_clamp (by omega))) ?_
          refine lv_aload_n hx hb dL_law_504 rfl (lv_at hl 3 rfl) ?_
          refine lv_iload_n hx hb dL_law_505 rfl (lv_at hl 0 rfl) ?_
          refine lv_iconst (v := nI 2) hx hb dL_law_506 (by decide) ?_
          refine lv_iadd hx hb dL_law_507 ?_
          refine lv_as (y := nI (i + 2)) (nI_addc rfl) ?_
          refine va_sld hx hb hX hbl hbA h.2.2.2.1 (vp_in_nI (by omega) (by omega)) dL_law_508 ?_
          refine lv_as (y := xs (i + 2)) (congrArg xs (nI_clamp (by omega))) ?_
          obtain ⟨A, V, P1, hM1, hP1, hM2⟩ := pb_bylaw l J s.heap.size ad G hC (xs (i + 1)) (xs (i + 2))
          refine rg_civ (As := [.int (xs (i + 1)), .int (xs (i + 2))]) (rest := []) X hl.1 h hM1 mw_610 mw_611 mw_612 mw_2 mw_613 pdX7_bylaw (by decide) (xo_0 J ad _) rfl rfl ⟨Nat.le_of_ble_eq_true rfl, Nat.le_of_ble_eq_true rfl⟩ ⟨hc1, hc2⟩ rfl (Nat.le_of_ble_eq_true rfl) dL_law_509 (fun r1 G1 H locs q h => ?_)
          obtain ⟨ea, hs1, hV⟩ := hP1 r1 G1 q
          obtain ⟨P2, hM3, hP2⟩ := hM2 G1 hs1 hV
          refine lv_aload_n hx hb dL_law_512 rfl (lv_at hl 1 rfl) ?_
          refine lv_aload_n hx hb dL_law_513 rfl (lv_at hl 3 rfl) ?_
          refine lv_iload_n hx hb dL_law_514 rfl (lv_at hl 0 rfl) ?_
          refine lv_iconst (v := nI 1) hx hb dL_law_515 (by decide) ?_
          refine lv_iadd hx hb dL_law_516 ?_
          refine lv_as (y := nI (i + 1)) (nI_addc rfl) ?_
          refine va_sld hx hb hX hbl hbA h.2.2.2.1 (vp_in_nI (by omega) (by omega)) dL_law_517 ?_
          refine lv_as (y := xs (i + 1)) (congrArg xs (nI_clamp (by omega))) ?_
          refine lv_aload_n hx hb dL_law_518 rfl (lv_at hl 3 rfl) ?_
          refine lv_iload_n hx hb dL_law_519 rfl (lv_at hl 0 rfl) ?_
          refine lv_iconst (v := nI 2) hx hb dL_law_520 (by decide) ?_
          refine lv_iadd hx hb dL_law_521 ?_
          refine lv_as (y := nI (i + 2)) (nI_addc rfl) ?_
          refine va_sld hx hb hX hbl hbA h.2.2.2.1 (vp_in_nI (by omega) (by omega)) dL_law_522 ?_
          refine lv_as (y := xs (i + 2)) (congrArg xs (nI_clamp (by omega))) ?_
          refine rg_civ (As := [.int (xs (i + 1)), .int (xs (i + 2))]) (rest := [.int r1]) X hl.1 h hM3 mw_622 mw_623 mw_624 mw_5 mw_625 pdX8_bylaw (by decide) (xo_210 J ad _) rfl rfl ⟨Nat.le_of_ble_eq_true rfl, Nat.le_of_ble_eq_true rfl⟩ ⟨hc1, hc2⟩ rfl (Nat.le_of_ble_eq_true rfl) dL_law_523 (fun r2 G2 H locs q h => ?_)
          obtain ⟨eb, hC2⟩ := hP2 r2 G2 q
          refine lv_icmp_eq (tgt := 758) hx hb dL_law_526 (by decide) (fun c_9 => ?_) (fun c_9 => absurd (ea.trans eb.symm) c_9)
          exact K G2 _ _ _ hC2 h hl
        · refine lv_as (y := nI 15) e_32 ?_
          refine lv_tableIn (off := 499) (tgt := 531) hx hb dL_law_32 (by decide) (by decide) rfl (by decide) ?_
          refine lv_aload_n hx hb dL_law_531 rfl (lv_at hl 2 rfl) ?_
          refine lv_aload_n hx hb dL_law_532 rfl (lv_at hl 3 rfl) ?_
          refine lv_iload_n hx hb dL_law_533 rfl (lv_at hl 0 rfl) ?_
          refine lv_iconst (v := nI 1) hx hb dL_law_534 (by decide) ?_
          refine lv_iadd hx hb dL_law_535 ?_
          refine lv_as (y := nI (i + 1)) (nI_addc rfl) ?_
          refine va_sld hx hb hX hbl hbA h.2.2.2.1 (vp_in_nI (by omega) (by omega)) dL_law_536 ?_
          refine lv_as (y := xs (i + 1)) (congrArg xs (nI_clamp (by omega))) ?_
          refine lv_aload_n hx hb dL_law_537 rfl (lv_at hl 3 rfl) ?_
          refine lv_iload_n hx hb dL_law_538 rfl (lv_at hl 0 rfl) ?_
          refine lv_iconst (v := nI 2) hx hb dL_law_539 (by decide) ?_
          refine lv_iadd hx hb dL_law_540 ?_
          refine lv_as (y := nI (i + 2)) (nI_addc rfl) ?_
          refine va_sld hx hb hX hbl hbA h.2.2.2.1 (vp_in_nI (by omega) (by omega)) dL_law_541 ?_
          refine lv_as (y := xs (i + 2)) (congrArg xs (nI_clamp (by omega))) ?_
          obtain ⟨A, V, P1, hM1, hP1, hM2⟩ := pb_petitionOf l J s.heap.size ad G hC (xs (i + 1)) (xs (i + 2))
          refine rg_civ (As := [.int (xs (i + 1)), .int (xs (i + 2))]) (rest := []) X hl.1 h hM1 mw_630 mw_631 mw_632 mw_2 mw_633 pdX7_petitionOf (by decide) (xo_0 J ad _) rfl rfl ⟨Nat.le_of_ble_eq_true rfl, Nat.le_of_ble_eq_true rfl⟩ ⟨hc1, hc2⟩ rfl (Nat.le_of_ble_eq_true rfl) dL_law_542 (fun r1 G1 H locs q h => ?_)
          obtain ⟨ea, hs1, hV⟩ := hP1 r1 G1 q
          obtain ⟨P2, hM3, hP2⟩ := hM2 G1 hs1 hV
          refine lv_aload_n hx hb dL_law_545 rfl (lv_at hl 1 rfl) ?_
          refine lv_aload_n hx hb dL_law_546 rfl (lv_at hl 3 rfl) ?_
          refine lv_iload_n hx hb dL_law_547 rfl (lv_at hl 0 rfl) ?_
          refine lv_iconst (v := nI 1) hx hb dL_law_548 (by decide) ?_
          refine lv_iadd hx hb dL_law_549 ?_
          refine lv_as (y := nI (i + 1)) (nI_addc rfl) ?_
          refine va_sld hx hb hX hbl hbA h.2.2.2.1 (vp_in_nI (by omega) (by omega)) dL_law_550 ?_
          refine lv_as (y := xs (i + 1)) (congrArg xs (nI_clamp (by omega))) ?_
          refine lv_aload_n hx hb dL_law_551 rfl (lv_at hl 3 rfl) ?_
          refine lv_iload_n hx hb dL_law_552 rfl (lv_at hl 0 rfl) ?_
          refine lv_iconst (v := nI 2) hx hb dL_law_553 (by decide) ?_
          refine lv_iadd hx hb dL_law_554 ?_
          refine lv_as (y := nI (i + 2)) (nI_addc rfl) ?_
          refine va_sld hx hb hX hbl hbA h.2.2.2.1 (vp_in_nI (by omega) (by omega)) dL_law_555 ?_
          refine lv_as (y := xs (i + 2)) (congrArg xs (nI_clamp (by omega))) ?_
          refine rg_civ (As := [.int (xs (i + 1)), .int (xs (i + 2))]) (rest := [.int r1]) X hl.1 h hM3 mw_641 mw_642 mw_643 mw_5 mw_644 pdX8_petitionOf (by decide) (xo_210 J ad _) rfl rfl ⟨Nat.le_of_ble_eq_true rfl, Nat.le_of_ble_eq_true rfl⟩ ⟨hc1, hc2⟩ rfl (Nat.le_of_ble_eq_true rfl) dL_law_556 (fun r2 G2 H locs q h => ?_)
          obtain ⟨eb, hC2⟩ := hP2 r2 G2 q
          refine lv_icmp_eq (tgt := 758) hx hb dL_law_559 (by decide) (fun c_9 => ?_) (fun c_9 => absurd (ea.trans eb.symm) c_9)
          exact K G2 _ _ _ hC2 h hl
        · refine lv_as (y := nI 16) e_32 ?_
          refine lv_tableIn (off := 532) (tgt := 564) hx hb dL_law_32 (by decide) (by decide) rfl (by decide) ?_
          refine lv_aload_n hx hb dL_law_564 rfl (lv_at hl 2 rfl) ?_
          refine lv_aload_n hx hb dL_law_565 rfl (lv_at hl 3 rfl) ?_
          refine lv_iload_n hx hb dL_law_566 rfl (lv_at hl 0 rfl) ?_
          refine lv_iconst (v := nI 1) hx hb dL_law_567 (by decide) ?_
          refine lv_iadd hx hb dL_law_568 ?_
          refine lv_as (y := nI (i + 1)) (nI_addc rfl) ?_
          refine va_sld hx hb hX hbl hbA h.2.2.2.1 (vp_in_nI (by omega) (by omega)) dL_law_569 ?_
          refine lv_as (y := xs (i + 1)) (congrArg xs (nI_clamp (by omega))) ?_
          obtain ⟨A, V, P1, hM1, hP1, hM2⟩ := pb_heard l J s.heap.size ad G hC (xs (i + 1))
          refine rg_civ (As := [.int (xs (i + 1))]) (rest := []) X hl.1 h hM1 mw_645 mw_646 mw_647 mw_2 mw_648 pdX7_heard (by decide) (xo_0 J ad _) rfl rfl ⟨Nat.le_of_ble_eq_true rfl, Nat.le_of_ble_eq_true rfl⟩ ⟨hc1, hc2⟩ rfl (Nat.le_of_ble_eq_true rfl) dL_law_570 (fun r1 G1 H locs q h => ?_)
          obtain ⟨ea, hs1, hV⟩ := hP1 r1 G1 q
          obtain ⟨P2, hM3, hP2⟩ := hM2 G1 hs1 hV
          refine lv_aload_n hx hb dL_law_573 rfl (lv_at hl 1 rfl) ?_
          refine lv_aload_n hx hb dL_law_574 rfl (lv_at hl 3 rfl) ?_
          refine lv_iload_n hx hb dL_law_575 rfl (lv_at hl 0 rfl) ?_
          refine lv_iconst (v := nI 1) hx hb dL_law_576 (by decide) ?_
          refine lv_iadd hx hb dL_law_577 ?_
          refine lv_as (y := nI (i + 1)) (nI_addc rfl) ?_
          refine va_sld hx hb hX hbl hbA h.2.2.2.1 (vp_in_nI (by omega) (by omega)) dL_law_578 ?_
          refine lv_as (y := xs (i + 1)) (congrArg xs (nI_clamp (by omega))) ?_
          refine rg_civ (As := [.int (xs (i + 1))]) (rest := [.int r1]) X hl.1 h hM3 mw_650 mw_651 mw_652 mw_5 mw_653 pdX8_heard (by decide) (xo_210 J ad _) rfl rfl ⟨Nat.le_of_ble_eq_true rfl, Nat.le_of_ble_eq_true rfl⟩ ⟨hc1, hc2⟩ rfl (Nat.le_of_ble_eq_true rfl) dL_law_579 (fun r2 G2 H locs q h => ?_)
          obtain ⟨eb, hC2⟩ := hP2 r2 G2 q
          refine lv_icmp_eq (tgt := 758) hx hb dL_law_582 (by decide) (fun c_9 => ?_) (fun c_9 => absurd (ea.trans eb.symm) c_9)
          exact K G2 _ _ _ hC2 h hl
        · refine lv_as (y := nI 17) e_32 ?_
          refine lv_tableIn (off := 555) (tgt := 587) hx hb dL_law_32 (by decide) (by decide) rfl (by decide) ?_
          refine lv_aload_n hx hb dL_law_587 rfl (lv_at hl 2 rfl) ?_
          refine lv_aload_n hx hb dL_law_588 rfl (lv_at hl 3 rfl) ?_
          refine lv_iload_n hx hb dL_law_589 rfl (lv_at hl 0 rfl) ?_
          refine lv_iconst (v := nI 1) hx hb dL_law_590 (by decide) ?_
          refine lv_iadd hx hb dL_law_591 ?_
          refine lv_as (y := nI (i + 1)) (nI_addc rfl) ?_
          refine va_sld hx hb hX hbl hbA h.2.2.2.1 (vp_in_nI (by omega) (by omega)) dL_law_592 ?_
          refine lv_as (y := xs (i + 1)) (congrArg xs (nI_clamp (by omega))) ?_
          refine lv_aload_n hx hb dL_law_593 rfl (lv_at hl 3 rfl) ?_
          refine lv_iload_n hx hb dL_law_594 rfl (lv_at hl 0 rfl) ?_
          refine lv_iconst (v := nI 2) hx hb dL_law_595 (by decide) ?_
          refine lv_iadd hx hb dL_law_596 ?_
          refine lv_as (y := nI (i + 2)) (nI_addc rfl) ?_
          refine va_sld hx hb hX hbl hbA h.2.2.2.1 (vp_in_nI (by omega) (by omega)) dL_law_597 ?_
          refine lv_as (y := xs (i + 2)) (congrArg xs (nI_clamp (by omega))) ?_
          refine lv_aload_n hx hb dL_law_598 rfl (lv_at hl 3 rfl) ?_
          refine lv_iload_n hx hb dL_law_599 rfl (lv_at hl 0 rfl) ?_
          refine lv_iconst (v := nI 3) hx hb dL_law_600 (by decide) ?_
          refine lv_iadd hx hb dL_law_601 ?_
          refine lv_as (y := nI (i + 3)) (nI_addc rfl) ?_
          refine va_sld hx hb hX hbl hbA h.2.2.2.1 (vp_in_nI (by omega) (by omega)) dL_law_602 ?_
          refine lv_as (y := xs (i + 3)) (congrArg xs (nI_clamp (by omega))) ?_
          obtain ⟨A, V, P1, hM1, hP1, hM2⟩ := pb_rule l J s.heap.size ad G hC (xs (i + 1)) (xs (i + 2)) (xs (i + 3))
          refine rg_civ (As := [.int (xs (i + 1)), .int (xs (i + 2)), .int (xs (i + 3))]) (rest := []) X hl.1 h hM1 mw_654 mw_655 mw_656 mw_2 mw_657 pdX7_rule (by decide) (xo_0 J ad _) rfl rfl ⟨Nat.le_of_ble_eq_true rfl, Nat.le_of_ble_eq_true rfl⟩ ⟨hc1, hc2⟩ rfl (Nat.le_of_ble_eq_true rfl) dL_law_603 (fun r1 G1 H locs q h => ?_)
          obtain ⟨ea, hs1, hV⟩ := hP1 r1 G1 q
          obtain ⟨P2, hM3, hP2⟩ := hM2 G1 hs1 hV
          refine lv_aload_n hx hb dL_law_606 rfl (lv_at hl 1 rfl) ?_
          refine lv_aload_n hx hb dL_law_607 rfl (lv_at hl 3 rfl) ?_
          refine lv_iload_n hx hb dL_law_608 rfl (lv_at hl 0 rfl) ?_
          refine lv_iconst (v := nI 1) hx hb dL_law_609 (by decide) ?_
          refine lv_iadd hx hb dL_law_610 ?_
          refine lv_as (y := nI (i + 1)) (nI_addc rfl) ?_
          refine va_sld hx hb hX hbl hbA h.2.2.2.1 (vp_in_nI (by omega) (by omega)) dL_law_611 ?_
          refine lv_as (y := xs (i + 1)) (congrArg xs (nI_clamp (by omega))) ?_
          refine lv_aload_n hx hb dL_law_612 rfl (lv_at hl 3 rfl) ?_
          refine lv_iload_n hx hb dL_law_613 rfl (lv_at hl 0 rfl) ?_
          refine lv_iconst (v := nI 2) hx hb dL_law_614 (by decide) ?_
          refine lv_iadd hx hb dL_law_615 ?_
          refine lv_as (y := nI (i + 2)) (nI_addc rfl) ?_
          refine va_sld hx hb hX hbl hbA h.2.2.2.1 (vp_in_nI (by omega) (by omega)) dL_law_616 ?_
          refine lv_as (y := xs (i + 2)) (congrArg xs (nI_clamp (by omega))) ?_
          refine lv_aload_n hx hb dL_law_617 rfl (lv_at hl 3 rfl) ?_
          refine lv_iload_n hx hb dL_law_618 rfl (lv_at hl 0 rfl) ?_
          refine lv_iconst (v := nI 3) hx hb dL_law_619 (by decide) ?_
          refine lv_iadd hx hb dL_law_620 ?_
          refine lv_as (y := nI (i + 3)) (nI_addc rfl) ?_
          refine va_sld hx hb hX hbl hbA h.2.2.2.1 (vp_in_nI (by omega) (by omega)) dL_law_621 ?_
          refine lv_as (y := xs (i + 3)) (congrArg xs (nI_clamp (by omega))) ?_
          refine rg_civ (As := [.int (xs (i + 1)), .int (xs (i + 2)), .int (xs (i + 3))]) (rest := [.int r1]) X hl.1 h hM3 mw_672 mw_673 mw_674 mw_5 mw_675 pdX8_rule (by decide) (xo_210 J ad _) rfl rfl ⟨Nat.le_of_ble_eq_true rfl, Nat.le_of_ble_eq_true rfl⟩ ⟨hc1, hc2⟩ rfl (Nat.le_of_ble_eq_true rfl) dL_law_622 (fun r2 G2 H locs q h => ?_)
          obtain ⟨eb, hC2⟩ := hP2 r2 G2 q
          refine lv_icmp_eq (tgt := 758) hx hb dL_law_625 (by decide) (fun c_9 => ?_) (fun c_9 => absurd (ea.trans eb.symm) c_9)
          exact K G2 _ _ _ hC2 h hl
        · refine lv_as (y := nI 18) e_32 ?_
          refine lv_tableIn (off := 598) (tgt := 630) hx hb dL_law_32 (by decide) (by decide) rfl (by decide) ?_
          refine lv_aload_n hx hb dL_law_630 rfl (lv_at hl 2 rfl) ?_
          refine lv_aload_n hx hb dL_law_631 rfl (lv_at hl 3 rfl) ?_
          refine lv_iload_n hx hb dL_law_632 rfl (lv_at hl 0 rfl) ?_
          refine lv_iconst (v := nI 1) hx hb dL_law_633 (by decide) ?_
          refine lv_iadd hx hb dL_law_634 ?_
          refine lv_as (y := nI (i + 1)) (nI_addc rfl) ?_
          refine va_sld hx hb hX hbl hbA h.2.2.2.1 (vp_in_nI (by omega) (by omega)) dL_law_635 ?_
          refine lv_as (y := xs (i + 1)) (congrArg xs (nI_clamp (by omega))) ?_
          obtain ⟨A, V, P1, hM1, hP1, hM2⟩ := pb_reason l J s.heap.size ad G hC (xs (i + 1))
          refine rg_civ (As := [.int (xs (i + 1))]) (rest := []) X hl.1 h hM1 mw_684 mw_685 mw_686 mw_2 mw_687 pdX7_reason (by decide) (xo_0 J ad _) rfl rfl ⟨Nat.le_of_ble_eq_true rfl, Nat.le_of_ble_eq_true rfl⟩ ⟨hc1, hc2⟩ rfl (Nat.le_of_ble_eq_true rfl) dL_law_636 (fun r1 G1 H locs q h => ?_)
          obtain ⟨ea, hs1, hV⟩ := hP1 r1 G1 q
          obtain ⟨P2, hM3, hP2⟩ := hM2 G1 hs1 hV
          refine lv_aload_n hx hb dL_law_639 rfl (lv_at hl 1 rfl) ?_
          refine lv_aload_n hx hb dL_law_640 rfl (lv_at hl 3 rfl) ?_
          refine lv_iload_n hx hb dL_law_641 rfl (lv_at hl 0 rfl) ?_
          refine lv_iconst (v := nI 1) hx hb dL_law_642 (by decide) ?_
          refine lv_iadd hx hb dL_law_643 ?_
          refine lv_as (y := nI (i + 1)) (nI_addc rfl) ?_
          refine va_sld hx hb hX hbl hbA h.2.2.2.1 (vp_in_nI (by omega) (by omega)) dL_law_644 ?_
          refine lv_as (y := xs (i + 1)) (congrArg xs (nI_clamp (by omega))) ?_
          refine rg_civ (As := [.int (xs (i + 1))]) (rest := [.int r1]) X hl.1 h hM3 mw_690 mw_691 mw_692 mw_5 mw_693 pdX8_reason (by decide) (xo_210 J ad _) rfl rfl ⟨Nat.le_of_ble_eq_true rfl, Nat.le_of_ble_eq_true rfl⟩ ⟨hc1, hc2⟩ rfl (Nat.le_of_ble_eq_true rfl) dL_law_645 (fun r2 G2 H locs q h => ?_)
          obtain ⟨eb, hC2⟩ := hP2 r2 G2 q
          refine lv_icmp_eq (tgt := 758) hx hb dL_law_648 (by decide) (fun c_9 => ?_) (fun c_9 => absurd (ea.trans eb.symm) c_9)
          exact K G2 _ _ _ hC2 h hl
        · refine lv_as (y := nI 19) e_32 ?_
          refine lv_tableIn (off := 621) (tgt := 653) hx hb dL_law_32 (by decide) (by decide) rfl (by decide) ?_
          refine lv_aload_n hx hb dL_law_653 rfl (lv_at hl 2 rfl) ?_
          obtain ⟨A, V, P1, hM1, hP1, hM2⟩ := pb_wouldPass l J s.heap.size ad G hC 
          refine rg_civ (As := []) (rest := []) X hl.1 h hM1 mw_698 mw_699 mw_700 mw_2 mw_701 pdX7_wouldPass (by decide) (xo_0 J ad _) rfl rfl ⟨Nat.le_of_ble_eq_true rfl, Nat.le_of_ble_eq_true rfl⟩ ⟨hc1, hc2⟩ rfl (Nat.le_of_ble_eq_true rfl) dL_law_654 (fun r1 G1 H locs q h => ?_)
          obtain ⟨ea, hs1, hV⟩ := hP1 r1 G1 q
          obtain ⟨P2, hM3, hP2⟩ := hM2 G1 hs1 hV
          refine lv_aload_n hx hb dL_law_657 rfl (lv_at hl 1 rfl) ?_
          refine rg_civ (As := []) (rest := [.int r1]) X hl.1 h hM3 mw_703 mw_704 mw_705 mw_5 mw_706 pdX8_wouldPass (by decide) (xo_210 J ad _) rfl rfl ⟨Nat.le_of_ble_eq_true rfl, Nat.le_of_ble_eq_true rfl⟩ ⟨hc1, hc2⟩ rfl (Nat.le_of_ble_eq_true rfl) dL_law_658 (fun r2 G2 H locs q h => ?_)
          obtain ⟨eb, hC2⟩ := hP2 r2 G2 q
          refine lv_icmp_eq (tgt := 758) hx hb dL_law_661 (by decide) (fun c_9 => ?_) (fun c_9 => absurd (ea.trans eb.symm) c_9)
          exact K G2 _ _ _ hC2 h hl
        · refine lv_as (y := nI 20) e_32 ?_
          refine lv_tableIn (off := 634) (tgt := 666) hx hb dL_law_32 (by decide) (by decide) rfl (by decide) ?_
          refine lv_aload_n hx hb dL_law_666 rfl (lv_at hl 2 rfl) ?_
          refine lv_aload_n hx hb dL_law_667 rfl (lv_at hl 3 rfl) ?_
          refine lv_iload_n hx hb dL_law_668 rfl (lv_at hl 0 rfl) ?_
          refine lv_iconst (v := nI 1) hx hb dL_law_669 (by decide) ?_
          refine lv_iadd hx hb dL_law_670 ?_
          refine lv_as (y := nI (i + 1)) (nI_addc rfl) ?_
          refine va_sld hx hb hX hbl hbA h.2.2.2.1 (vp_in_nI (by omega) (by omega)) dL_law_671 ?_
          refine lv_as (y := xs (i + 1)) (congrArg xs (nI_clamp (by omega))) ?_
          obtain ⟨A, V, P1, hM1, hP1, hM2⟩ := pb_lacks l J s.heap.size ad G hC (xs (i + 1))
          refine rg_civ (As := [.int (xs (i + 1))]) (rest := []) X hl.1 h hM1 mw_707 mw_708 mw_709 mw_2 mw_710 pdX7_lacks (by decide) (xo_0 J ad _) rfl rfl ⟨Nat.le_of_ble_eq_true rfl, Nat.le_of_ble_eq_true rfl⟩ ⟨hc1, hc2⟩ rfl (Nat.le_of_ble_eq_true rfl) dL_law_672 (fun r1 G1 H locs q h => ?_)
          obtain ⟨ea, hs1, hV⟩ := hP1 r1 G1 q
          obtain ⟨P2, hM3, hP2⟩ := hM2 G1 hs1 hV
          refine lv_aload_n hx hb dL_law_675 rfl (lv_at hl 1 rfl) ?_
          refine lv_aload_n hx hb dL_law_676 rfl (lv_at hl 3 rfl) ?_
          refine lv_iload_n hx hb dL_law_677 rfl (lv_at hl 0 rfl) ?_
          refine lv_iconst (v := nI 1) hx hb dL_law_678 (by decide) ?_
          refine lv_iadd hx hb dL_law_679 ?_
          refine lv_as (y := nI (i + 1)) (nI_addc rfl) ?_
          refine va_sld hx hb hX hbl hbA h.2.2.2.1 (vp_in_nI (by omega) (by omega)) dL_law_680 ?_
          refine lv_as (y := xs (i + 1)) (congrArg xs (nI_clamp (by omega))) ?_
          refine rg_civ (As := [.int (xs (i + 1))]) (rest := [.int r1]) X hl.1 h hM3 mw_712 mw_713 mw_714 mw_5 mw_715 pdX8_lacks (by decide) (xo_210 J ad _) rfl rfl ⟨Nat.le_of_ble_eq_true rfl, Nat.le_of_ble_eq_true rfl⟩ ⟨hc1, hc2⟩ rfl (Nat.le_of_ble_eq_true rfl) dL_law_681 (fun r2 G2 H locs q h => ?_)
          obtain ⟨eb, hC2⟩ := hP2 r2 G2 q
          refine lv_icmp_eq (tgt := 758) hx hb dL_law_684 (by decide) (fun c_9 => ?_) (fun c_9 => absurd (ea.trans eb.symm) c_9)
          exact K G2 _ _ _ hC2 h hl
        · refine lv_as (y := nI 21) e_32 ?_
          refine lv_tableIn (off := 657) (tgt := 689) hx hb dL_law_32 (by decide) (by decide) rfl (by decide) ?_
          refine lv_aload_n hx hb dL_law_689 rfl (lv_at hl 2 rfl) ?_
          obtain ⟨A, V, P1, hM1, hP1, hM2⟩ := pb_free l J s.heap.size ad G hC 
          refine rg_civ (As := []) (rest := []) X hl.1 h hM1 mw_716 mw_717 mw_718 mw_2 mw_719 pdX7_free (by decide) (xo_0 J ad _) rfl rfl ⟨Nat.le_of_ble_eq_true rfl, Nat.le_of_ble_eq_true rfl⟩ ⟨hc1, hc2⟩ rfl (Nat.le_of_ble_eq_true rfl) dL_law_690 (fun r1 G1 H locs q h => ?_)
          obtain ⟨ea, hs1, hV⟩ := hP1 r1 G1 q
          obtain ⟨P2, hM3, hP2⟩ := hM2 G1 hs1 hV
          refine lv_aload_n hx hb dL_law_693 rfl (lv_at hl 1 rfl) ?_
          refine rg_civ (As := []) (rest := [.int r1]) X hl.1 h hM3 mw_725 mw_726 mw_727 mw_5 mw_728 pdX8_free (by decide) (xo_210 J ad _) rfl rfl ⟨Nat.le_of_ble_eq_true rfl, Nat.le_of_ble_eq_true rfl⟩ ⟨hc1, hc2⟩ rfl (Nat.le_of_ble_eq_true rfl) dL_law_694 (fun r2 G2 H locs q h => ?_)
          obtain ⟨eb, hC2⟩ := hP2 r2 G2 q
          refine lv_icmp_eq (tgt := 758) hx hb dL_law_697 (by decide) (fun c_9 => ?_) (fun c_9 => absurd (ea.trans eb.symm) c_9)
          exact K G2 _ _ _ hC2 h hl
        · refine lv_as (y := nI 22) e_32 ?_
          refine lv_tableIn (off := 670) (tgt := 702) hx hb dL_law_32 (by decide) (by decide) rfl (by decide) ?_
          refine lv_aload_n hx hb dL_law_702 rfl (lv_at hl 2 rfl) ?_
          refine lv_aload_n hx hb dL_law_703 rfl (lv_at hl 3 rfl) ?_
          refine lv_iload_n hx hb dL_law_704 rfl (lv_at hl 0 rfl) ?_
          refine lv_iconst (v := nI 1) hx hb dL_law_705 (by decide) ?_
          refine lv_iadd hx hb dL_law_706 ?_
          refine lv_as (y := nI (i + 1)) (nI_addc rfl) ?_
          refine va_sld hx hb hX hbl hbA h.2.2.2.1 (vp_in_nI (by omega) (by omega)) dL_law_707 ?_
          refine lv_as (y := xs (i + 1)) (congrArg xs (nI_clamp (by omega))) ?_
          refine lv_aload_n hx hb dL_law_708 rfl (lv_at hl 3 rfl) ?_
          refine lv_iload_n hx hb dL_law_709 rfl (lv_at hl 0 rfl) ?_
          refine lv_iconst (v := nI 2) hx hb dL_law_710 (by decide) ?_
          refine lv_iadd hx hb dL_law_711 ?_
          refine lv_as (y := nI (i + 2)) (nI_addc rfl) ?_
          refine va_sld hx hb hX hbl hbA h.2.2.2.1 (vp_in_nI (by omega) (by omega)) dL_law_712 ?_
          refine lv_as (y := xs (i + 2)) (congrArg xs (nI_clamp (by omega))) ?_
          obtain ⟨A, V, P1, hM1, hP1, hM2⟩ := pb_oldest l J s.heap.size ad G hC (xs (i + 1)) (xs (i + 2))
          refine rg_civ (As := [.int (xs (i + 1)), .int (xs (i + 2))]) (rest := []) X hl.1 h hM1 mw_729 mw_730 mw_731 mw_2 mw_732 pdX7_oldest (by decide) (xo_0 J ad _) rfl rfl ⟨Nat.le_of_ble_eq_true rfl, Nat.le_of_ble_eq_true rfl⟩ ⟨hc1, hc2⟩ rfl (Nat.le_of_ble_eq_true rfl) dL_law_713 (fun r1 G1 H locs q h => ?_)
          obtain ⟨ea, hs1, hV⟩ := hP1 r1 G1 q
          obtain ⟨P2, hM3, hP2⟩ := hM2 G1 hs1 hV
          refine lv_aload_n hx hb dL_law_716 rfl (lv_at hl 1 rfl) ?_
          refine lv_aload_n hx hb dL_law_717 rfl (lv_at hl 3 rfl) ?_
          refine lv_iload_n hx hb dL_law_718 rfl (lv_at hl 0 rfl) ?_
          refine lv_iconst (v := nI 1) hx hb dL_law_719 (by decide) ?_
          refine lv_iadd hx hb dL_law_720 ?_
          refine lv_as (y := nI (i + 1)) (nI_addc rfl) ?_
          refine va_sld hx hb hX hbl hbA h.2.2.2.1 (vp_in_nI (by omega) (by omega)) dL_law_721 ?_
          refine lv_as (y := xs (i + 1)) (congrArg xs (nI_clamp (by omega))) ?_
          refine lv_aload_n hx hb dL_law_722 rfl (lv_at hl 3 rfl) ?_
          refine lv_iload_n hx hb dL_law_723 rfl (lv_at hl 0 rfl) ?_
          refine lv_iconst (v := nI 2) hx hb dL_law_724 (by decide) ?_
          refine lv_iadd hx hb dL_law_725 ?_
          refine lv_as (y := nI (i + 2)) (nI_addc rfl) ?_
          refine va_sld hx hb hX hbl hbA h.2.2.2.1 (vp_in_nI (by omega) (by omega)) dL_law_726 ?_
          refine lv_as (y := xs (i + 2)) (congrArg xs (nI_clamp (by omega))) ?_
          refine rg_civ (As := [.int (xs (i + 1)), .int (xs (i + 2))]) (rest := [.int r1]) X hl.1 h hM3 mw_738 mw_739 mw_740 mw_5 mw_741 pdX8_oldest (by decide) (xo_210 J ad _) rfl rfl ⟨Nat.le_of_ble_eq_true rfl, Nat.le_of_ble_eq_true rfl⟩ ⟨hc1, hc2⟩ rfl (Nat.le_of_ble_eq_true rfl) dL_law_727 (fun r2 G2 H locs q h => ?_)
          obtain ⟨eb, hC2⟩ := hP2 r2 G2 q
          refine lv_icmp_eq (tgt := 758) hx hb dL_law_730 (by decide) (fun c_9 => ?_) (fun c_9 => absurd (ea.trans eb.symm) c_9)
          exact K G2 _ _ _ hC2 h hl
        · refine lv_as (y := nI 23) e_32 ?_
          refine lv_tableIn (off := 703) (tgt := 735) hx hb dL_law_32 (by decide) (by decide) rfl (by decide) ?_
          refine lv_aload_n hx hb dL_law_735 rfl (lv_at hl 2 rfl) ?_
          refine lv_aload_n hx hb dL_law_736 rfl (lv_at hl 3 rfl) ?_
          refine lv_iload_n hx hb dL_law_737 rfl (lv_at hl 0 rfl) ?_
          refine lv_iconst (v := nI 1) hx hb dL_law_738 (by decide) ?_
          refine lv_iadd hx hb dL_law_739 ?_
          refine lv_as (y := nI (i + 1)) (nI_addc rfl) ?_
          refine va_sld hx hb hX hbl hbA h.2.2.2.1 (vp_in_nI (by omega) (by omega)) dL_law_740 ?_
          refine lv_as (y := xs (i + 1)) (congrArg xs (nI_clamp (by omega))) ?_
          obtain ⟨A, V, P1, hM1, hP1, hM2⟩ := pb_count l J s.heap.size ad G hC (xs (i + 1))
          refine rg_civ (As := [.int (xs (i + 1))]) (rest := []) X hl.1 h hM1 mw_750 mw_751 mw_752 mw_2 mw_753 pdX7_count (by decide) (xo_0 J ad _) rfl rfl ⟨Nat.le_of_ble_eq_true rfl, Nat.le_of_ble_eq_true rfl⟩ ⟨hc1, hc2⟩ rfl (Nat.le_of_ble_eq_true rfl) dL_law_741 (fun r1 G1 H locs q h => ?_)
          obtain ⟨ea, hs1, hV⟩ := hP1 r1 G1 q
          obtain ⟨P2, hM3, hP2⟩ := hM2 G1 hs1 hV
          refine lv_aload_n hx hb dL_law_744 rfl (lv_at hl 1 rfl) ?_
          refine lv_aload_n hx hb dL_law_745 rfl (lv_at hl 3 rfl) ?_
          refine lv_iload_n hx hb dL_law_746 rfl (lv_at hl 0 rfl) ?_
          refine lv_iconst (v := nI 1) hx hb dL_law_747 (by decide) ?_
          refine lv_iadd hx hb dL_law_748 ?_
          refine lv_as (y := nI (i + 1)) (nI_addc rfl) ?_
          refine va_sld hx hb hX hbl hbA h.2.2.2.1 (vp_in_nI (by omega) (by omega)) dL_law_749 ?_
          refine lv_as (y := xs (i + 1)) (congrArg xs (nI_clamp (by omega))) ?_
          refine rg_civ (As := [.int (xs (i + 1))]) (rest := [.int r1]) X hl.1 h hM3 mw_773 mw_774 mw_775 mw_5 mw_776 pdX8_count (by decide) (xo_210 J ad _) rfl rfl ⟨Nat.le_of_ble_eq_true rfl, Nat.le_of_ble_eq_true rfl⟩ ⟨hc1, hc2⟩ rfl (Nat.le_of_ble_eq_true rfl) dL_law_750 (fun r2 G2 H locs q h => ?_)
          obtain ⟨eb, hC2⟩ := hP2 r2 G2 q
          refine lv_icmp_eq (tgt := 758) hx hb dL_law_753 (by decide) (fun c_9 => ?_) (fun c_9 => absurd (ea.trans eb.symm) c_9)
          exact K G2 _ _ _ hC2 h hl
      · refine lv_tableOut (tgt := 758) hx hb dL_law_32 (sw_out (by decide) c_32) (by decide) ?_
        exact K G _ _ _ hC h hl
set_option maxHeartbeats 4000000 in
set_option maxRecDepth 100000 in
/-- from the entry, for every script of at most 2560 ints, the law comes to its end with true -/
theorem whole_start {p : Program} {e : Env} {s : State} {m : MethodId} {below : List Frame} {meth : Method} {c : Code} (l : Launch) (hflags : l.flags = flags0) {b L : Nat} {xs : Nat → Int32} (hL : L ≤ 2560) (C0 : lw_At p s m meth c b L xs) : W p l e room_1 s m #[Value.ref b] below meth c s.heap [] 0 0 (lw_Z below #[Value.ref b] s) (entryFrame m ([Value.ref b] : List Value).toArray 4) := by
  obtain ⟨hx, hb, hr, hml, hown, hts, hX, hbl, hlocks, hgv⟩ := id C0
  have X : Cx p c code s m RL #[Value.ref b] 4 := ⟨hx, hb, hml, hown, fun w hw => hts w (ws0_tbl w hw)⟩
  have hAO : va_AO RX5 s := va_AO.of (hts _ (lw_in1 (List.mem_of_getElem? (i := 201) rfl)))
  have hNW : NW s := ⟨va_Nw.of rfl (hts _ (lw_in2 (List.mem_of_getElem? (i := 78) rfl))), va_Nw.of rfl (hts _ (lw_in2 (List.mem_of_getElem? (i := 114) rfl))), va_Nw.of rfl (hts _ (lw_in2 (List.mem_of_getElem? (i := 117) rfl)))⟩
  obtain ⟨J, hK⟩ := lw_kinds X.2.2.2.2 hAO
  have h : HS J s.heap.size (fun _ => 0) 0 (lw_fe (fun _ => 0)) s s.heap [] := ⟨hK, fun k q h => by simp [wl] at h, ⟨fun i j p q h => by simp [wl] at h, fun k q h => by simp [wl] at h⟩, va_S.rf, Nat.le_refl _, hNW⟩
  have hl := lv_entry ([.ref b]) (n := 4) (Nat.le_of_ble_eq_true rfl)
  rw [lg_entry_eq]
  generalize (lg_sl ([.ref b]) ++ List.replicate (4 - (lg_sl ([.ref b])).length) Slot.unset).toArray = ls at hl ⊢
  have hl : lv_has ls 4 [(0, .ref b)] := hl
  have hL0 : LocF lw_fe 0 := fun a a1 h j hj => absurd hj (by omega)
  refine rk_new (n := 0) (ci := 7) (fe := lw_fe) X hL0 h in0_X7 tyX7 tyX7_ok mw_0 mw_1 mw_2 rfl (fs := [.null, .null, .null, .null, .int 0, .null, .null, .int 0, .int 0]) (fun j hj => by rcases (show j = 0 ∨ j = 1 ∨ j = 2 ∨ j = 3 ∨ j = 4 ∨ j = 5 ∨ j = 6 ∨ j = 7 ∨ j = 8 by omega) with rfl | rfl | rfl | rfl | rfl | rfl | rfl | rfl | rfl <;> rfl) (Nat.le_of_ble_eq_true rfl) (Nat.le_of_ble_eq_true rfl) dL_law_0 (fun ad1 H B1 h => ?_)
  have hT : HS J s.heap.size ad1 (0 + 1) (To (lw_fe) 0 7 (fun _ => [.null, .null, .null, .null, .int 0, .null, .null, .int 0, .int 0]) (E0 J) ad1) s H _ := To_new h
  refine lv_dup hx hb dL_law_3 rfl ?_
  refine rk_ci (rest := [.ref (ad1 0)]) X hl.1 hAO hT (c_X7_init l J s.heap.size ad1 (lw_fe) hL0) mw_6 mw_7 mw_2 mw_8 rfl pdX7_init.2 ⟨Nat.le_of_ble_eq_true rfl, Nat.le_of_ble_eq_true rfl⟩ ⟨Nat.le_of_ble_eq_true rfl, Nat.le_of_ble_eq_true rfl⟩ (Nat.le_of_ble_eq_true rfl) dL_law_4 (fun ad2 H locs B2 h => ?_)
  rw [← B2 0 (by omega)]
  refine lv_astore_n (lv' := [(1, .ref (ad2 0)), (0, .ref b)]) hx hb dL_law_7 rfl hl (by decide) rfl (fun ls hl => ?_)
  have h : HS J s.heap.size ad2 210 (Tn lw_fe 0 (E0 J) ad2) s H locs := h
  have hL1 : LocF (Tn lw_fe 0 (E0 J)) 210 := fun a a1 g j hj => by
    unfold Tn
    rw [if_neg (by omega), if_neg (by omega)]
    by_cases g0 : j = 0
    · subst g0
      show Sum.inr (7, [Value.ref (a 1), .ref (a 26), .ref (a 51), .ref (a 76), .int 0, .ref (a 101), .ref (a 203), .int 0, .int 0]) = Sum.inr (7, [Value.ref (a1 1), .ref (a1 26), .ref (a1 51), .ref (a1 76), .int 0, .ref (a1 101), .ref (a1 203), .int 0, .int 0])
      rw [g 1 (by omega), g 26 (by omega), g 51 (by omega), g 76 (by omega), g 101 (by omega), g 203 (by omega)]
    · exact E0_loc (n := 210) g (by omega) hj (by omega)
  refine rk_new (n := 210) (ci := 8) (fe := Tn lw_fe 0 (E0 J)) X hL1 h in0_X8 tyX8 tyX8_ok mw_3 mw_4 mw_5 rfl (fs := [.null, .int 0, .int 0, .null, .int 0, .int 0, .int 0, .null, .null, .int 0, .int 0, .int 0, .int 0, .int 0, .int 0]) (fun j hj => by rcases (show j = 0 ∨ j = 1 ∨ j = 2 ∨ j = 3 ∨ j = 4 ∨ j = 5 ∨ j = 6 ∨ j = 7 ∨ j = 8 ∨ j = 9 ∨ j = 10 ∨ j = 11 ∨ j = 12 ∨ j = 13 ∨ j = 14 by omega) with rfl | rfl | rfl | rfl | rfl | rfl | rfl | rfl | rfl | rfl | rfl | rfl | rfl | rfl | rfl <;> rfl) (Nat.le_of_ble_eq_true rfl) (Nat.le_of_ble_eq_true rfl) dL_law_8 (fun ad3 H B3 h => ?_)
  have hT : HS J s.heap.size ad3 (210 + 1) (To (Tn lw_fe 0 (E0 J)) 210 8 (fun _ => [.null, .int 0, .int 0, .null, .int 0, .int 0, .int 0, .null, .null, .int 0, .int 0, .int 0, .int 0, .int 0, .int 0]) (E0 J) ad3) s H _ := To_new h
  refine lv_dup hx hb dL_law_11 rfl ?_
  have hL2 : LocF (Tn lw_fe 0 (E0 J)) 210 := hL1
  refine rk_ci (rest := [.ref (ad3 210)]) X hl.1 hAO hT (c_X8_init l J s.heap.size ad3 (Tn lw_fe 0 (E0 J)) hL1) mw_102 mw_103 mw_5 mw_104 rfl pdX8_init.2 ⟨Nat.le_of_ble_eq_true rfl, Nat.le_of_ble_eq_true rfl⟩ ⟨Nat.le_of_ble_eq_true rfl, Nat.le_of_ble_eq_true rfl⟩ (Nat.le_of_ble_eq_true rfl) dL_law_12 (fun ad4 H locs B4 h => ?_)
  rw [← B4 210 (by omega)]
  refine lv_astore_n (lv' := [(2, .ref (ad4 210)), (1, .ref (ad2 0)), (0, .ref b)]) hx hb dL_law_15 rfl hl (by decide) rfl (fun ls hl => ?_)
  refine lv_iconst (v := nI 0) hx hb dL_law_16 (by decide) ?_
  refine lv_istore_n (lv' := [(3, .int (nI 0)), (2, .ref (ad4 210)), (1, .ref (ad2 0)), (0, .ref b)]) hx hb dL_law_17 rfl hl (by decide) rfl (fun ls hl => ?_)
  rw [show ad2 0 = ad4 0 from ((B4 0 (by omega)).trans (B3 0 (by omega))).symm] at hl
  have h : HG J s.heap.size ad4 s G00 H locs := HS.cg (n := 215) h (fun j hj => by
    unfold Tn
    by_cases g : j < 210
    · rw [if_pos g, if_neg (by omega)]
      rfl
    · rw [if_neg g]
      rfl)
  exact law_loop l hL C0 J ad4 _ _ (Nat.le_of_ble_eq_true rfl) (Nat.le_of_ble_eq_true rfl) (L + 1) 0 (by omega) (by omega) G00 _ _ _ Cls_00 h hl
-- ===== YOUR PART ENDS =====
set_option maxHeartbeats 4000000 in
theorem lw_walk (l : Launch) (hflags : l.flags = flags0) (b : Addr) (xs : List Int32) : MetFree l x (headSpec (Jvm.Cond.code x code maxLocals ret :: tables_1) room_1) (lw_P b xs) (fun _ _ _ _ _ => True) lw_Q := by
  refine MetFree.of_bodyS (code := code) (maxLocals := maxLocals) (ret := ret) (by decide) ?_ ?_
  · intro args s m h hn
    obtain ⟨meth, c, h1, h2, h3, h4, h5, h6, -, -⟩ := Cond.code_spec hn (atoms_spec (ws := Jvm.Cond.code x code maxLocals ret :: tables_1) h _ List.mem_cons_self)
    exact ⟨meth, c, h1, h2, h3, h4, h5, h6⟩
  · intro p e s m args below meth c s₁ B hml0 hP _
    obtain ⟨rfl, hx, hbd, hgv⟩ := hP
    obtain ⟨scr, harrAt, hlist, hof, hsmall⟩ := hx
    obtain ⟨hcb, hkn, -, -⟩ := State.arrayAt?_spec harrAt
    have hown : s.vm.findClass R_law = some m.cls := findClass_of_methodNamed B.named
    have hts0 : ∀ c ∈ (Jvm.Cond.code x code maxLocals ret :: tables_1), c.before #[Value.ref b] s = true := atoms_spec (ws := Jvm.Cond.code x code maxLocals ret :: tables_1) B.pre
    have hts : ∀ w ∈ lw_tbl, w.before #[Value.ref b] s = true := k2_hts_sels lw_privs (fun w hw => hts0 w (List.mem_cons_of_mem _ hw)) lw_privs_ok
    have hml : c.maxLocals = 4 := B.maxLocals_eq (hts0 _ List.mem_cons_self)
    have X₀ : Stand p l e room_1 s m #[Value.ref b] below meth c s₁ [] 0 0 := Stand.of_body B
    have hh0 : s₁.heap = s.heap := by rw [B.state]; rfl
    have hsz : scr.slots.size = xs.length := by rw [← Array.length_toList, hlist, List.length_map]
    have hval : ∀ j : Nat, j < xs.length → scr.slots[j]? = some (.int (xs.getD j 0)) := fun j hj => by
      rw [← Array.getElem?_toList, hlist]
      simp [hj]
    have hbl : b < s.heap.size := (Array.getElem?_eq_some_iff.mp hcb).1
    have hX : va_X b xs.length (fun j => xs.getD j 0) s s.heap := ⟨scr, hcb, hof, hkn, hsz, hval⟩
    have K : W p l e room_1 s m #[Value.ref b] below meth c s₁.heap [] 0 0 (lw_Z below #[Value.ref b] s) (entryFrame m ([Value.ref b] : List Value).toArray 4) := by
      rw [hh0]
      exact whole_start l hflags hbd ⟨B.exec, B.bytes, B.returns, hml, hown, hts, hX, hbl, B.notSynchronized, hgv⟩
    obtain ⟨t, a1, o, b1, b2, b3⟩ := K s₁ rfl X₀
    exact ⟨t, o, a1, b1, b2, b3⟩
theorem lw_pre_spec {args : Array Value} {s : State} (h : (Jvm.Cond.and given_1 narrow_1).before args s = true) (hr : rest_1_c.before args s = true) : ∃ (b : Addr) (xs : List Int32), lw_P b xs args s := by
  have hs := flat_of_before _ h
  have hq := flat_of_before _ hr
  have hc : (Cond.count 1).before args s = true := hs _ (by decide +kernel)
  have harr : (Cond.arrayOf (.arg 0) .int).before args s = true := hs _ (by decide +kernel)
  have hle : (Cond.le (.length (.arg 0)) (.int 2560)).before args s = true := hs _ (by decide +kernel)
  have hlen : (Cond.isInt (.length (.arg 0))).before args s = true := hq _ (by decide +kernel)
  have hall : (Cond.all (.arg 0) (.isInt (.elem (.arg 0) (.index 0)))).before args s = true := hq _ (by decide +kernel)
  obtain ⟨b, xs, hb, hx⟩ := State.ints_of_pre rfl harr hlen hall
  have hsm : xs.length < 2 ^ 31 := hx.choose_spec.2.2.2
  have hev : (Term.length (.arg 0)).eval args s none [] s = some (.int xs.length.toInt32) := hx.length_eval hb
  have hv := Cond.le_ints hev (show (Term.int 2560).eval args s none [] s = some (.int 2560) from rfl)
  have hd : xs.length.toInt32 ≤ 2560 := by
    simpa [Cond.before, Cond.holds, hv] using hle
  have hN : xs.length ≤ 2560 := (Int32.ofNat_le_ofNat hsm (by decide)).mp (show Int32.ofNat xs.length ≤ Int32.ofNat 2560 from hd)
  exact ⟨b, xs, Cond.one_arg hc (show args[0]? = some (.ref b) from hb), hx, hN, h⟩
theorem lw_comes (l : Launch) (hflags : l.flags = flags0) : Comes l x (Jvm.Cond.code x code maxLocals ret :: tables_1) room_1 (fun tb e args s => Calls_1 tb e args s ∧ rest_1 tb e args s ∧ Pre_1 tb e args s)
    (fun _ _ args s o t => lw_Q args s o t) := by
  intro p e ha hc hk s m args below hf hfit hheap happ hpre
  obtain ⟨b, xs, hP⟩ := lw_pre_spec hpre.2.2 hpre.2.1
  obtain ⟨k, o, h1, h2, h3, hQ⟩ := lw_walk l hflags b xs p e ha hc hk s m args below hf ((Spec.applies_iff_loose hf).mp happ).1 hP trivial
  exact ⟨k, o, h1, h2, h3, hQ⟩
theorem lw_frame {s t : State} {o : Outcome} {args : Array Value} (h : Framed s o t [] 600000 7302250) :
    Framed s o t (fieldLocs frame_1_writes args s ++ arrayLocs frame_1_arrays args s ++ staticLocs frame_1_statics s) 600000 7302250 := h
theorem lw_limb (L : Cond) (hL : ∀ (args : Array Value) (s t : State), L.after args s (.returned (some (.int 1))) t = true) :
    ArmFor flags0 classFile x code maxLocals ret World_1 tables_1 room_1 Calls_1 rest_1 Pre_1
      (fun tb e a s o t => postC L tb e a s o t ∧ Framed s o t (fieldLocs frame_1_writes a s ++ arrayLocs frame_1_arrays a s ++ staticLocs frame_1_statics s) 600000 7302250) := by
  intro l hflags _ _ p e ha hc hk s m args below hf hfit hheap happ hpre
  obtain ⟨k, o, h1, h2, h3, rfl, hF⟩ := lw_comes l hflags p e ha hc hk s m args below hf hfit hheap happ hpre
  exact ⟨k, _, h1, h2, h3, hL args s _, lw_frame hF⟩
theorem i_vc : Claimed_1_1 ∧ Claimed_1_2 := ⟨lw_limb limb_1_1 (fun args s t => by simp [limb_1_1, Cond.after, Cond.holds, Cond.value]), lw_limb limb_1_2 (fun args s t => Cond.after_iff.mpr (by
  first | (rw [show limb_1_2 = Cond.eq .result (.int 1) from rfl, Cond.eq_ints (x := 1) (y := 1) rfl rfl]; simp; done) | (simp [limb_1_2, Cond.value, Term.eval]; done)))⟩
