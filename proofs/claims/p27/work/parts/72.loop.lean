/-! THE LAW'S LOOP -/
section ROWS
variable {p : Program} {l : Launch} {e : Env} {R : Room} {s : State} {m : MethodId} {args : Array Value} {below : List Frame} {meth : Method} {c : Code} {H : Heap} {locs : List Loc} {cells slots : Nat} {Q : State → Prop}
variable {cc : ByteArray} {pc : Nat} {ls : Array Slot} {rest : List Value} {J : JJ} {z : ZZ} {nL : Nat} {ad : Nat → Nat} {G : GG} {own : String}
theorem rg_ends (X : Cx p c cc s m own args nL) (hl : ls.size = nL) (h : HG J z ad s G H locs) {post : Int32 → GG → Prop} (hM : ME l J z ad G post) {index : Nat} (w1 : Cond.methodLink own index yL_ends ∈ ws0) (w2 : Cond.static yL_ends ∈ ws0) (w4 : Cond.initialized own ∈ ws0) (w5 : Cond.code yL_ends cL_ends 14 (some .boolean) ∈ ws0)
    (hd : yL_ends.cls = own ∧ yL_ends.cls ≠ "java/lang/invoke/MethodHandle" ∧ yL_ends.cls ≠ "java/lang/invoke/VarHandle" ∧ (parseMethodDescriptor yL_ends.desc).map (fun d => d.parameters.length) = some 1) (hR : 7 + 1 ≤ R.frames ∧ 8 + (14 + 11) + 30 * 7 ≤ R.locals) (hf : cells + 1 ≤ R.cells ∧ slots + 12 ≤ R.slots) (hrest : (rest.map fun v => v.category).sum ≤ 8) (hdg : decode cc pc = .ok (.invokestatic index, 3))
    (kk : ∀ (r : Int32) (G1 : GG) (H1 : Heap) (locs1 : List Loc), post r G1 → HG J z ad s G1 H1 locs1 → W p l e R s m args below meth c H1 locs1 (cells + 1) (slots + 12) Q (F0 m (pc + 3) ls (.int r :: rest))) : W p l e R s m args below meth c H locs cells slots Q (F0 m pc ls (.ref (ad 0) :: rest)) := by
  have hg : GoodIn ws0 (wsS own index yL_ends (wsY yL_ends cL_ends 14 (some .boolean))) := by
    intro w hw
    have hin : w ∈ ws0 := by
      simp only [wsS, wsY, List.mem_append, List.mem_cons, List.not_mem_nil, or_false] at hw
      rcases hw with (rfl | rfl | rfl) | rfl | hw
      · exact w1
      · exact w2
      · exact w4
      · exact w5
      · exact hw
    exact ws0_self w hin
  refine va_calli (st0 := .ref (ad 0) :: rest) (va_runS (As := [.ref (ad 0)]) (rest := rest) X hM (cwS 1 X.2.2.2.2 hg rfl rfl rfl hd hR) ⟨HV.blind, fun U hU hW => ⟨rfl, h.toU hU hW⟩⟩ rfl rfl hl rfl (lv_room hrest) hdg hf) h.2.2.2.1 (fun _ _ h => h) (fun _ h => h) (fun r u t H1 locs1 ht hvm hp hB _ _ hS => ?_)
  exact kk r u H1 locs1 hp (HS.ofU hB ht hvm hS h.2.2.2.2)
/-- the script's reader: any int -/
def MC (l : Launch) (J : JJ) (z : ZZ) (ad : Nat → Nat) (G : GG) (b L : Nat) (xs : Nat → Int32) (k : Nat) : Prop :=
  Met l yL_cell (wsY yL_cell cL_cell 2 (some .int)) (rmD 0 0 0) (va_Pc [.ref b, .int (nI k)] (fun U => HV J z ad G U ∧ va_X b L xs U U.heap ∧ b < U.heap.size ∧ ¬ z.1 ≤ b)) (va_Qi (fun _ u => u = G) (HV J z ad) (fun q => z.1 ≤ q)) 0 0 (fun q => z.1 ≤ q)
theorem MC.blind {av : List Value} {b L : Nat} {xs : Nat → Int32} : FrameBlind (va_Pc av (fun U => HV J z ad G U ∧ va_X b L xs U U.heap ∧ b < U.heap.size ∧ ¬ z.1 ≤ b)) := fun a U g mk q => by
  obtain ⟨q0, q1, q2, q3, q4⟩ := q
  exact ⟨q0, (HV.blind (av := av) a U g mk ⟨q0, q1⟩).2, va_X.moved (u := U) (U := U.calling g mk a) (Vm.Alike.refl U.vm) q2, q3, q4⟩
theorem rg_cell (X : Cx p c cc s m own args nL) (hl : ls.size = nL) (h : HG J z ad s G H locs) {b L k : Nat} {xs : Nat → Int32} (hX : va_X b L xs s s.heap) (hbl : b < s.heap.size) (hbz : ¬ z.1 ≤ b) (hM : MC l J z ad G b L xs k) {index : Nat} (w1 : Cond.methodLink own index yL_cell ∈ ws0) (w2 : Cond.static yL_cell ∈ ws0) (w4 : Cond.initialized own ∈ ws0) (w5 : Cond.code yL_cell cL_cell 2 (some .int) ∈ ws0)
    (hd : yL_cell.cls = own ∧ yL_cell.cls ≠ "java/lang/invoke/MethodHandle" ∧ yL_cell.cls ≠ "java/lang/invoke/VarHandle" ∧ (parseMethodDescriptor yL_cell.desc).map (fun d => d.parameters.length) = some 2) (hR : 0 + 1 ≤ R.frames ∧ 8 + (2 + 11) + 30 * 0 ≤ R.locals) (hf : cells + 0 ≤ R.cells ∧ slots + 0 ≤ R.slots) (hrest : (rest.map fun v => v.category).sum ≤ 8) (hdg : decode cc pc = .ok (.invokestatic index, 3))
    (kk : ∀ (r : Int32) (H1 : Heap) (locs1 : List Loc), HG J z ad s G H1 locs1 → W p l e R s m args below meth c H1 locs1 cells slots Q (F0 m (pc + 3) ls (.int r :: rest))) : W p l e R s m args below meth c H locs cells slots Q (F0 m pc ls (.int (nI k) :: .ref b :: rest)) := by
  have hg : GoodIn ws0 (wsS own index yL_cell (wsY yL_cell cL_cell 2 (some .int))) := by
    intro w hw
    have hin : w ∈ ws0 := by
      simp only [wsS, wsY, List.mem_append, List.mem_cons, List.not_mem_nil, or_false] at hw
      rcases hw with (rfl | rfl | rfl) | rfl | hw
      · exact w1
      · exact w2
      · exact w4
      · exact w5
      · exact hw
    exact ws0_self w hin
  refine va_calli (st0 := .int (nI k) :: .ref b :: rest) (va_runS (As := [.ref b, .int (nI k)]) (rest := rest) X hM (cwS 2 X.2.2.2.2 hg rfl rfl rfl hd hR) ⟨MC.blind, fun U hU hW => ⟨rfl, h.toU hU hW, ?_, ?_, hbz⟩⟩ rfl rfl hl rfl (lv_room hrest) hdg hf) h.2.2.2.1 (fun _ _ h => h) (fun _ h => h) (fun r u t H1 locs1 ht hvm hp hB _ _ hS => ?_)
  · rw [hU]
    exact (hX.kept (h.2.2.2.1.2.1 b hbl hbz)).moved hW.alike
  · rw [hU]
    exact Nat.lt_of_lt_of_le hbl h.2.2.2.1.1
  · subst hp
    exact kk r H1 locs1 (HS.ofU hB ht hvm hS h.2.2.2.2)
end ROWS
set_option maxHeartbeats 4000000 in
theorem c_L_cell (l : Launch) (J : JJ) (z : ZZ) (ad : Nat → Nat) (G : GG) (b L : Nat) (xs : Nat → Int32) (hL : L ≤ 260) (k : Nat) (hk : k < 1000) : MC l J z ad G b L xs k := by
  refine Met.ofW (cc := cL_cell) (maxL := 2) (ret := some .int) (by decide) rfl ?_
  intro p e s m args below meth c s₁ B hml hv
  obtain ⟨rfl, hU, hX, hbl, hbA⟩ := hv
  have hts := atoms_spec (ws := wsY yL_cell cL_cell 2 (some .int)) B.pre
  have hl := lv_entry [.ref b, .int (nI k)] (n := 2) (Nat.le_of_ble_eq_true rfl)
  rw [lg_entry_eq]
  generalize (lg_sl [.ref b, .int (nI k)] ++ List.replicate (2 - (lg_sl [.ref b, .int (nI k)]).length) Slot.unset).toArray = ls at hl ⊢
  have hl : lv_has ls 2 [(0, .ref b), (1, .int (nI k))] := hl
  have hx := B.exec
  have hb := B.bytes
  have hown : s.vm.findClass RL = some m.cls := findClass_of_methodNamed B.named
  have hts : ∀ w ∈ ws0, w.before _ s = true := fun w hw => hts w (List.mem_cons_of_mem _ hw)
  have h : HG J z ad s G s.heap [] := HS.of0 hU
  have hret : ∀ (v : Int32) (ls : Array Slot), W p l e (rmD 0 0 0) s m #[.ref b, .int (nI k)] below meth c s.heap [] 0 0 (MQ below (va_Qi (fun _ u => u = G) (HV J z ad) (fun q => z.1 ≤ q)) #[.ref b, .int (nI k)] s 0 0 (fun q => z.1 ≤ q)) (F0 m 21 ls [.int v]) := fun v ls =>
    W.iret B.exec B.bytes B.returns (fun t ht hW => ⟨⟨v, G, rfl, rfl, h.toU ht hW⟩, h.2.2.2.1.F ht⟩) h.2.2.2.1.2.2 dL_cell_21 B.notSynchronized
  refine lv_iload_n hx hb dL_cell_0 rfl (lv_at hl 1 rfl) ?_
  refine lv_aload_n hx hb dL_cell_1 rfl (lv_at hl 0 rfl) ?_
  refine va_slen hx hb hX hbl hbA h.2.2.2.1 dL_cell_2 ?_
  refine lv_icmp_ge (tgt := 12) hx hb dL_cell_3 (by decide) (fun c_3 => ?_) (fun c_3 => ?_)
  · refine lv_ldc (v := nI 1063091091) hx hb hown (hts _ mw_379) dL_cell_12 ?_
    refine lv_iload_n hx hb dL_cell_14 rfl (lv_at hl 1 rfl) ?_
    refine lv_iconst (v := nI 1) hx hb dL_cell_15 (by decide) ?_
    refine lv_iadd hx hb dL_cell_16 ?_
    refine lv_imul hx hb dL_cell_17 ?_
    refine lv_ldc (v := nI 457006963) hx hb hown (hts _ mw_380) dL_cell_18 ?_
    refine lv_iadd hx hb dL_cell_20 ?_
    exact hret _ _
  · have hkL : k < L := by
      refine Nat.not_le.mp (fun q => c_3 ?_)
      exact (nI_leI (by omega) (by omega)).mpr q
    refine lv_aload_n hx hb dL_cell_6 rfl (lv_at hl 0 rfl) ?_
    refine lv_iload_n hx hb dL_cell_7 rfl (lv_at hl 1 rfl) ?_
    refine va_sld hx hb hX hbl hbA h.2.2.2.1 (vp_in_nI hkL (by omega)) dL_cell_8 ?_
    refine lv_goto (tgt := 21) hx hb dL_cell_9 (by decide) ?_
    exact hret _ _
set_option maxHeartbeats 8000000 in
set_option maxRecDepth 100000 in
theorem law_loop (l : Launch) (J : JJ) (z : ZZ) (ad : Nat → Nat) (hz0 : z.2 = 0) {b L : Nat} {xs : Nat → Int32} (hL : L ≤ 260) {pr : Program} {e : Env} {s : State} {m : MethodId} {args : Array Value} {below : List Frame} {meth : Method} {c : Code} {Q : State → Prop} (X : Cx pr c cL_law s m RL args 10) (hX : va_X b L xs s s.heap) (hbl : b < s.heap.size) (hbz : ¬ z.1 ≤ b)
    (hret : ∀ (G : GG) (H : Heap) (locs : List Loc) (ls : Array Slot) (cells slots : Nat), cells ≤ 600000 → slots ≤ 7302250 → HG J z ad s G H locs → W pr l e room_1 s m args below meth c H locs cells slots Q (F0 m 308 ls [.int (nI 1)])) (Gl : GG) (r : Nat → Int32) (n cells slots : Nat) (hv : Hv Gl r n) (hI : Iv 0 r) (hc : cells ≤ 211) (hs : slots ≤ 5400) {H : Heap} {locs : List Loc} {ls : Array Slot} (h : HG J z ad s Gl H locs) (hl : lv_has ls 10 [(3, .int (nI 0)), (2, .int (nI 1)), (1, .ref (ad 0)), (0, .ref b)]) : W pr l e room_1 s m args below meth c H locs cells slots Q (F0 m 30 ls []) := by
  have hx := X.1
  have hb := X.2.1
  have hown := X.2.2.2.1
  have hts := X.2.2.2.2
  have hz : z.2 ≤ 1 := by omega
  have LP_30 : ∀ (k_30 i_30 : Nat), 46 + 1 ≤ i_30 + k_30 → i_30 ≤ 46 → ∀ (Gl : GG) (r : Nat → Int32) (n cells slots : Nat) (hv : Hv Gl r n) (hI : Iv (30 * i_30) r) (hc : cells ≤ 211 + i_30) (hs : slots ≤ 5400 + 12 * i_30) (H : Heap) (locs : List Loc) (ls : Array Slot), HG J z ad s Gl H locs → lv_has ls 10 [(3, .int (nI i_30)), (2, .int (nI 1)), (1, .ref (ad 0)), (0, .ref b)] → W pr l e room_1 s m args below meth c H locs cells slots Q (F0 m 30 ls []) := by
    intro k_30
    induction k_30 with
    | zero =>
      intro i_30 g1 g2
      exact absurd g1 (by omega)
    | succ k_30 ih_30 =>
      intro i_30 g1_30 g2_30 Gl r n cells slots hv hI hc hs H locs ls h hl
      have hR := hv.rep
      have h14 := hv.at
      have hW := hI.1.1
      obtain ⟨⟨w1, w2⟩, ⟨w3, w4⟩, ⟨w5, w6⟩, w7, w8⟩ := hI.1.1
      have hnn := hv.2.2.1
      have hc1 : cells ≤ 600000 := by omega
      have hs1 : slots ≤ 7302250 := by omega
      refine lv_iload_n hx hb dL_law_30 rfl (lv_at hl 0 rfl) ?_
      refine lv_bipush (v := nI 46) hx hb dL_law_31 (by decide) ?_
      refine lv_icmp_ge (tgt := 292) hx hb dL_law_33 (by decide) (fun c_33 => ?_) (fun c_33 => ?_)
      · rw [nI_leI (by omega) (by omega)] at c_33
        refine lv_iload_n hx hb dL_law_292 rfl (lv_at hl 1 rfl) ?_
        refine lv_if_eq (tgt := 307) hx hb dL_law_293 (by decide) (fun c_293 => absurd c_293 (by decide)) (fun c_293 => ?_)
        refine lv_aload_n hx hb dL_law_296 rfl (lv_at hl 2 rfl) ?_
        refine rg_cisd (As := [.ref (ad 0)]) (rest := []) X hl.1 h (c_L_hangs l J z ad Gl hz r n (30 * i_30) hv hI (by omega)) mw_99 mw_100 mw_101 mw_102 pdL_hangs ⟨Nat.le_of_ble_eq_true rfl, Nat.le_of_ble_eq_true rfl⟩ ⟨hc1, hs1⟩ rfl (Nat.le_of_ble_eq_true rfl) dL_law_297 (fun H locs h => ?_)
        refine lv_if_eq (tgt := 307) hx hb dL_law_300 (by decide) (fun c_300 => absurd c_300 (by decide)) (fun c_300 => ?_)
        refine lv_iconst (v := nI 1) hx hb dL_law_303 (by decide) ?_
        refine lv_goto (tgt := 308) hx hb dL_law_304 (by decide) ?_
        exact hret _ _ _ _ _ _ hc1 hs1 h
      · rw [nI_leI (by omega) (by omega)] at c_33
        refine lv_iload_n hx hb dL_law_36 rfl (lv_at hl 1 rfl) ?_
        refine lv_if_eq (tgt := 292) hx hb dL_law_37 (by decide) (fun c_37 => absurd c_37 (by decide)) (fun c_37 => ?_)
        have K : ∀ (Gl : GG) (r : Nat → Int32) (n cells slots : Nat) (hv : Hv Gl r n) (hI : Iv (30 * i_30 + 30) r) (hc : cells ≤ 211 + i_30) (hs : slots ≤ 5400 + 12 * i_30) (H : Heap) (locs : List Loc) (ls : Array Slot), HG J z ad s Gl H locs → lv_has ls 10 [(3, .int (nI i_30)), (2, .int (nI 1)), (1, .ref (ad 0)), (0, .ref b)] → W pr l e room_1 s m args below meth c H locs cells slots Q (F0 m 243 ls []) := by
          intro Gl r n cells slots hv hI hc hs H locs ls h hl
          have hR := hv.rep
          have h14 := hv.at
          have hW := hI.1.1
          obtain ⟨⟨w1, w2⟩, ⟨w3, w4⟩, ⟨w5, w6⟩, w7, w8⟩ := hI.1.1
          have hnn := hv.2.2.1
          have hc1 : cells ≤ 600000 := by omega
          have hs1 : slots ≤ 7302250 := by omega
          refine lv_iload_n hx hb dL_law_243 rfl (lv_at hl 1 rfl) ?_
          refine lv_if_eq (tgt := 284) hx hb dL_law_244 (by decide) (fun c_244 => absurd c_244 (by decide)) (fun c_244 => ?_)
          refine lv_aload_n hx hb dL_law_247 rfl (lv_at hl 2 rfl) ?_
          refine rg_cis (As := [.ref (ad 0)]) (rest := []) X hl.1 h (c_L_first l J z ad Gl hz r n (30 * i_30 + 30) hv hI) mw_446 mw_447 mw_101 mw_448 pdL_first ⟨Nat.le_of_ble_eq_true rfl, Nat.le_of_ble_eq_true rfl⟩ ⟨hc1, hs1⟩ rfl (Nat.le_of_ble_eq_true rfl) dL_law_248 (fun r1 G1 H locs q1 h => ?_)
          obtain ⟨ea_248, n, hv⟩ := q1
          have hR := hv.rep
          have h14 := hv.at
          refine lv_as (y := nI 1) ea_248 ?_
          refine lv_if_eq (tgt := 284) hx hb dL_law_251 (by decide) (fun c_251 => absurd c_251 (by decide)) (fun c_251 => ?_)
          refine lv_iload_n hx hb dL_law_254 rfl (lv_at hl 0 rfl) ?_
          refine lv_iconst (v := nI 3) hx hb dL_law_255 (by decide) ?_
          refine lv_irem hx hb dL_law_256 (by decide) ?_
          refine lv_as (y := nI ((i_30 % 3))) (pk_rem (by omega) (by omega) (by omega)) ?_
          refine lv_if_gt (tgt := 267) hx hb dL_law_257 (by decide) (fun c_257 => ?_) (fun c_257 => ?_)
          · rw [nz_gt (by omega)] at c_257
            refine lv_iload_n hx hb dL_law_267 rfl (lv_at hl 0 rfl) ?_
            refine lv_iconst (v := nI 2) hx hb dL_law_268 (by decide) ?_
            refine lv_irem hx hb dL_law_269 (by decide) ?_
            refine lv_as (y := nI ((i_30 % 2))) (pk_rem (by omega) (by omega) (by omega)) ?_
            refine lv_if_gt (tgt := 280) hx hb dL_law_270 (by decide) (fun c_270 => ?_) (fun c_270 => ?_)
            · rw [nz_gt (by omega)] at c_270
              refine lv_iconst (v := nI 1) hx hb dL_law_280 (by decide) ?_
              refine lv_goto (tgt := 285) hx hb dL_law_281 (by decide) ?_
              refine lv_istore_n (lv' := [(2, .int (nI 1)), (3, .int (nI i_30)), (1, .ref (ad 0)), (0, .ref b)]) hx hb dL_law_285 rfl hl (by decide) rfl (fun ls hl => ?_)
              refine lv_iinc (v := nI (i_30 + 1)) (lv' := [(3, .int (nI (i_30 + 1))), (2, .int (nI 1)), (1, .ref (ad 0)), (0, .ref b)]) hx hb dL_law_286 hl (k := 1) rfl (nI_addc (b := 1) (by omega)) (by decide) rfl (fun ls hl => ?_)
              refine lv_goto (tgt := 30) hx hb dL_law_289 (by decide) ?_
              exact ih_30 (i_30 + 1) (by omega) (by omega) _ _ _ _ _ hv (Iv_le hI (by omega)) (by omega) (by omega) _ _ _ h (lv_sub hl [0, 1, 2, 3] rfl)
            · rw [nz_gt (by omega)] at c_270
              refine lv_aload_n hx hb dL_law_273 rfl (lv_at hl 2 rfl) ?_
              refine rg_ends (rest := []) X hl.1 h (c_L_ends l J z ad G1 hz0 r n (30 * i_30 + 30) hv hI (by omega)) mw_254 mw_255 mw_101 mw_256 pdL_ends ⟨Nat.le_of_ble_eq_true rfl, Nat.le_of_ble_eq_true rfl⟩ ⟨show cells + 1 ≤ 600000 by omega, show slots + 12 ≤ 7302250 by omega⟩ (Nat.le_of_ble_eq_true rfl) dL_law_274 (fun r274 G274 H locs q h => ?_)
              obtain ⟨ee_274, hv⟩ := q
              refine lv_as (y := nI 1) ee_274 ?_
              refine lv_if_eq (tgt := 284) hx hb dL_law_277 (by decide) (fun c_277 => absurd c_277 (by decide)) (fun c_277 => ?_)
              refine lv_iconst (v := nI 1) hx hb dL_law_280 (by decide) ?_
              refine lv_goto (tgt := 285) hx hb dL_law_281 (by decide) ?_
              refine lv_istore_n (lv' := [(2, .int (nI 1)), (3, .int (nI i_30)), (1, .ref (ad 0)), (0, .ref b)]) hx hb dL_law_285 rfl hl (by decide) rfl (fun ls hl => ?_)
              refine lv_iinc (v := nI (i_30 + 1)) (lv' := [(3, .int (nI (i_30 + 1))), (2, .int (nI 1)), (1, .ref (ad 0)), (0, .ref b)]) hx hb dL_law_286 hl (k := 1) rfl (nI_addc (b := 1) (by omega)) (by decide) rfl (fun ls hl => ?_)
              refine lv_goto (tgt := 30) hx hb dL_law_289 (by decide) ?_
              exact ih_30 (i_30 + 1) (by omega) (by omega) _ _ _ _ _ hv (Iv_le hI (by omega)) (by omega) (by omega) _ _ _ h (lv_sub hl [0, 1, 2, 3] rfl)
          · rw [nz_gt (by omega)] at c_257
            refine lv_aload_n hx hb dL_law_260 rfl (lv_at hl 2 rfl) ?_
            refine rg_cisd (As := [.ref (ad 0)]) (rest := []) X hl.1 h (c_L_hangs l J z ad G1 hz r n (30 * i_30 + 30) hv hI (by omega)) mw_99 mw_100 mw_101 mw_102 pdL_hangs ⟨Nat.le_of_ble_eq_true rfl, Nat.le_of_ble_eq_true rfl⟩ ⟨hc1, hs1⟩ rfl (Nat.le_of_ble_eq_true rfl) dL_law_261 (fun H locs h => ?_)
            refine lv_if_eq (tgt := 284) hx hb dL_law_264 (by decide) (fun c_264 => absurd c_264 (by decide)) (fun c_264 => ?_)
            refine lv_iload_n hx hb dL_law_267 rfl (lv_at hl 0 rfl) ?_
            refine lv_iconst (v := nI 2) hx hb dL_law_268 (by decide) ?_
            refine lv_irem hx hb dL_law_269 (by decide) ?_
            refine lv_as (y := nI ((i_30 % 2))) (pk_rem (by omega) (by omega) (by omega)) ?_
            refine lv_if_gt (tgt := 280) hx hb dL_law_270 (by decide) (fun c_270 => ?_) (fun c_270 => ?_)
            · rw [nz_gt (by omega)] at c_270
              refine lv_iconst (v := nI 1) hx hb dL_law_280 (by decide) ?_
              refine lv_goto (tgt := 285) hx hb dL_law_281 (by decide) ?_
              refine lv_istore_n (lv' := [(2, .int (nI 1)), (3, .int (nI i_30)), (1, .ref (ad 0)), (0, .ref b)]) hx hb dL_law_285 rfl hl (by decide) rfl (fun ls hl => ?_)
              refine lv_iinc (v := nI (i_30 + 1)) (lv' := [(3, .int (nI (i_30 + 1))), (2, .int (nI 1)), (1, .ref (ad 0)), (0, .ref b)]) hx hb dL_law_286 hl (k := 1) rfl (nI_addc (b := 1) (by omega)) (by decide) rfl (fun ls hl => ?_)
              refine lv_goto (tgt := 30) hx hb dL_law_289 (by decide) ?_
              exact ih_30 (i_30 + 1) (by omega) (by omega) _ _ _ _ _ hv (Iv_le hI (by omega)) (by omega) (by omega) _ _ _ h (lv_sub hl [0, 1, 2, 3] rfl)
            · rw [nz_gt (by omega)] at c_270
              refine lv_aload_n hx hb dL_law_273 rfl (lv_at hl 2 rfl) ?_
              refine rg_ends (rest := []) X hl.1 h (c_L_ends l J z ad G1 hz0 r n (30 * i_30 + 30) hv hI (by omega)) mw_254 mw_255 mw_101 mw_256 pdL_ends ⟨Nat.le_of_ble_eq_true rfl, Nat.le_of_ble_eq_true rfl⟩ ⟨show cells + 1 ≤ 600000 by omega, show slots + 12 ≤ 7302250 by omega⟩ (Nat.le_of_ble_eq_true rfl) dL_law_274 (fun r274 G274 H locs q h => ?_)
              obtain ⟨ee_274, hv⟩ := q
              refine lv_as (y := nI 1) ee_274 ?_
              refine lv_if_eq (tgt := 284) hx hb dL_law_277 (by decide) (fun c_277 => absurd c_277 (by decide)) (fun c_277 => ?_)
              refine lv_iconst (v := nI 1) hx hb dL_law_280 (by decide) ?_
              refine lv_goto (tgt := 285) hx hb dL_law_281 (by decide) ?_
              refine lv_istore_n (lv' := [(2, .int (nI 1)), (3, .int (nI i_30)), (1, .ref (ad 0)), (0, .ref b)]) hx hb dL_law_285 rfl hl (by decide) rfl (fun ls hl => ?_)
              refine lv_iinc (v := nI (i_30 + 1)) (lv' := [(3, .int (nI (i_30 + 1))), (2, .int (nI 1)), (1, .ref (ad 0)), (0, .ref b)]) hx hb dL_law_286 hl (k := 1) rfl (nI_addc (b := 1) (by omega)) (by decide) rfl (fun ls hl => ?_)
              refine lv_goto (tgt := 30) hx hb dL_law_289 (by decide) ?_
              exact ih_30 (i_30 + 1) (by omega) (by omega) _ _ _ _ _ hv (Iv_le hI (by omega)) (by omega) (by omega) _ _ _ h (lv_sub hl [0, 1, 2, 3] rfl)
        refine lv_aload_n hx hb dL_law_40 rfl (lv_at hl 3 rfl) ?_
        refine lv_iconst (v := nI 2) hx hb dL_law_41 (by decide) ?_
        refine lv_iload_n hx hb dL_law_42 rfl (lv_at hl 0 rfl) ?_
        refine lv_imul hx hb dL_law_43 ?_
        refine lv_as (y := nI (2 * i_30)) (nI_mulc (by omega)) ?_
        refine rg_cell (rest := []) X hl.1 h hX hbl hbz (c_L_cell l J z ad Gl b L xs hL (2 * i_30) (by omega)) mw_376 mw_377 mw_101 mw_378 pdL_cell ⟨Nat.le_of_ble_eq_true rfl, Nat.le_of_ble_eq_true rfl⟩ ⟨hc1, hs1⟩ (Nat.le_of_ble_eq_true rfl) dL_law_44 (fun v44 H locs h => ?_)
        refine lv_istore (lv' := [(4, .int v44), (3, .int (nI i_30)), (2, .int (nI 1)), (1, .ref (ad 0)), (0, .ref b)]) hx hb dL_law_47 hl (by decide) rfl (fun ls hl => ?_)
        refine lv_aload_n hx hb dL_law_49 rfl (lv_at hl 4 rfl) ?_
        refine lv_iconst (v := nI 2) hx hb dL_law_50 (by decide) ?_
        refine lv_iload_n hx hb dL_law_51 rfl (lv_at hl 1 rfl) ?_
        refine lv_imul hx hb dL_law_52 ?_
        refine lv_as (y := nI (2 * i_30)) (nI_mulc (by omega)) ?_
        refine lv_iconst (v := nI 1) hx hb dL_law_53 (by decide) ?_
        refine lv_iadd hx hb dL_law_54 ?_
        refine lv_as (y := nI (2 * i_30 + 1)) (nI_addc (by omega)) ?_
        refine rg_cell (rest := []) X hl.1 h hX hbl hbz (c_L_cell l J z ad Gl b L xs hL (2 * i_30 + 1) (by omega)) mw_376 mw_377 mw_101 mw_378 pdL_cell ⟨Nat.le_of_ble_eq_true rfl, Nat.le_of_ble_eq_true rfl⟩ ⟨hc1, hs1⟩ (Nat.le_of_ble_eq_true rfl) dL_law_55 (fun v55 H locs h => ?_)
        refine lv_istore (lv' := [(5, .int v55), (4, .int v44), (3, .int (nI i_30)), (2, .int (nI 1)), (1, .ref (ad 0)), (0, .ref b)]) hx hb dL_law_58 hl (by decide) rfl (fun ls hl => ?_)
        refine lv_aload_n hx hb dL_law_60 rfl (lv_at hl 4 rfl) ?_
        refine lv_bipush (v := nI 14) hx hb dL_law_61 (by decide) ?_
        refine rg_civd (As := [.int (nI 14)]) (rest := []) X hl.1 h (c_X7_count l J z ad Gl r hR (nI n) (Gl 203 1) h14 rfl (nI 14)) mw_103 mw_104 mw_105 mw_2 mw_106 pdX7_count (by decide) (xo_0 J ad _) rfl rfl ⟨Nat.le_of_ble_eq_true rfl, Nat.le_of_ble_eq_true rfl⟩ ⟨hc1, hs1⟩ rfl (Nat.le_of_ble_eq_true rfl) dL_law_63 (fun H locs h => ?_)
        refine lv_as (y := nI n) (ct_at (by omega)) ?_
        refine lv_istore (lv' := [(6, .int (nI n)), (5, .int v55), (4, .int v44), (3, .int (nI i_30)), (2, .int (nI 1)), (1, .ref (ad 0)), (0, .ref b)]) hx hb dL_law_66 hl (by decide) rfl (fun ls hl => ?_)
        refine lv_aload_n hx hb dL_law_68 rfl (lv_at hl 5 rfl) ?_
        refine rg_cisl (As := [.ref (ad 0)]) (rest := []) X hl.1 h (c_L_print l J z ad Gl hz r n (30 * i_30) hv hI) mw_257 mw_258 mw_101 mw_259 pdL_print ⟨Nat.le_of_ble_eq_true rfl, Nat.le_of_ble_eq_true rfl⟩ ⟨hc1, hs1⟩ rfl (Nat.le_of_ble_eq_true rfl) dL_law_69 (fun H locs h => ?_)
        refine lv_lstore (lv' := [(7, .long (PR r)), (6, .int (nI n)), (5, .int v55), (4, .int v44), (3, .int (nI i_30)), (2, .int (nI 1)), (1, .ref (ad 0)), (0, .ref b)]) hx hb dL_law_72 hl (by decide) rfl (fun ls hl => ?_)
        refine lv_iload_n hx hb dL_law_74 rfl (lv_at hl 4 rfl) ?_
        refine lv_iconst (v := nI 5) hx hb dL_law_75 (by decide) ?_
        refine lv_icmp_ge (tgt := 101) hx hb dL_law_76 (by decide) (fun c_76 => ?_) (fun c_76 => ?_)
        · rw [nI_leI (by omega) (by omega)] at c_76
          refine lv_aload_n hx hb dL_law_101 rfl (lv_at hl 6 rfl) ?_
          refine lv_iload hx hb dL_law_102 (lv_at hl 3 rfl) ?_
          refine lv_iload hx hb dL_law_104 (lv_at hl 2 rfl) ?_
          refine rg_cis (As := [.ref (ad 0), .int v44, .int v55]) (rest := []) X hl.1 h (c_L_act l J z ad Gl hz r n (30 * i_30) hv hI v44 v55) mw_398 mw_399 mw_101 mw_400 pdL_act ⟨Nat.le_of_ble_eq_true rfl, Nat.le_of_ble_eq_true rfl⟩ ⟨hc1, hs1⟩ rfl (Nat.le_of_ble_eq_true rfl) dL_law_106 (fun r2 G2 H locs q2 h => ?_)
          obtain ⟨ea_106, hv_106, ht_106, -⟩ := q2
          rw [ea_106] at hv_106 ht_106
          refine lv_as (y := (acF r v44 v55).1) ea_106 ?_
          have hng : (acF r v44 v55).1 < 0 → (acF r v44 v55).2 = r := fun hA => acF_neg hI hv.w hA
          have hI2 : Iv (30 * i_30 + 30) ((acF r v44 v55).2) := acF_Iv hI (by omega) _ _
          refine lv_istore (lv' := [(9, .int ((acF r v44 v55).1)), (7, .long (PR r)), (6, .int (nI n)), (5, .int v55), (4, .int v44), (3, .int (nI i_30)), (2, .int (nI 1)), (1, .ref (ad 0)), (0, .ref b)]) hx hb dL_law_109 hl (by decide) rfl (fun ls hl => ?_)
          rcases Classical.em ((acF r v44 v55).1 < 0) with hA | hA
          · have hv1 := hv_106
            rw [nx_neg hA, hng hA] at hv1
            have hR1 := hv1.rep
            have h141 := hv1.at
            refine lv_iload hx hb dL_law_111 (lv_at hl 0 rfl) ?_
            refine lv_if_ge (tgt := 146) hx hb dL_law_113 (by decide) (fun c_113 => absurd c_113 (Int32.not_le.mpr hA)) (fun c_113 => ?_)
            refine lv_aload_n hx hb dL_law_116 rfl (lv_at hl 7 rfl) ?_
            refine lv_bipush (v := nI 14) hx hb dL_law_117 (by decide) ?_
            refine rg_civd (As := [.int (nI 14)]) (rest := []) X hl.1 h (c_X7_count l J z ad G2 r hR1 (nI n) (G2 203 1) h141 rfl (nI 14)) mw_103 mw_104 mw_105 mw_2 mw_106 pdX7_count (by decide) (xo_0 J ad _) rfl rfl ⟨Nat.le_of_ble_eq_true rfl, Nat.le_of_ble_eq_true rfl⟩ ⟨hc1, hs1⟩ rfl (Nat.le_of_ble_eq_true rfl) dL_law_119 (fun H locs h => ?_)
            refine lv_as (y := nI n) (ct_at (by omega)) ?_
            refine lv_iload hx hb dL_law_122 (lv_at hl 2 rfl) ?_
            refine lv_icmp_ne (tgt := 141) hx hb dL_law_124 (by decide) (fun c_124 => absurd (rfl) c_124) (fun c_124 => ?_)
            refine lv_aload_n hx hb dL_law_127 rfl (lv_at hl 7 rfl) ?_
            refine rg_cisl (As := [.ref (ad 0)]) (rest := []) X hl.1 h (c_L_print l J z ad G2 hz r n (30 * i_30) hv1 hI) mw_257 mw_258 mw_101 mw_259 pdL_print ⟨Nat.le_of_ble_eq_true rfl, Nat.le_of_ble_eq_true rfl⟩ ⟨hc1, hs1⟩ rfl (Nat.le_of_ble_eq_true rfl) dL_law_128 (fun H locs h => ?_)
            refine lv_lload hx hb dL_law_131 (lv_at hl 1 rfl) ?_
            refine W.lcmp hx hb dL_law_133 ?_
            refine lv_if_ne (tgt := 141) hx hb dL_law_134 (by decide) (fun c_134 => absurd (lg_self _) c_134) (fun c_134 => ?_)
            refine lv_iconst (v := nI 1) hx hb dL_law_137 (by decide) ?_
            refine lv_goto (tgt := 142) hx hb dL_law_138 (by decide) ?_
            refine lv_istore_n (lv' := [(2, .int (nI 1)), (9, .int ((acF r v44 v55).1)), (7, .long (PR r)), (6, .int (nI n)), (5, .int v55), (4, .int v44), (3, .int (nI i_30)), (1, .ref (ad 0)), (0, .ref b)]) hx hb dL_law_142 rfl hl (by decide) rfl (fun ls hl => ?_)
            refine lv_goto (tgt := 243) hx hb dL_law_143 (by decide) ?_
            exact K _ _ _ _ _ hv1 (Iv_le hI (Nat.le_add_right _ _)) hc hs _ _ _ h (lv_sub hl [6, 0, 7, 8] rfl)
          · have hA0 := Int32.not_lt.mp hA
            have hv1 := hv_106
            rw [nx_pos hA0] at hv1
            have htp := ht_106 hA0
            rw [nx_pos hA0] at htp
            have hR1 := hv1.rep
            have h141 := hv1.at
            refine lv_iload hx hb dL_law_111 (lv_at hl 0 rfl) ?_
            refine lv_if_ge (tgt := 146) hx hb dL_law_113 (by decide) (fun c_113 => ?_) (fun c_113 => absurd (hA0) c_113)
            refine lv_aload_n hx hb dL_law_146 rfl (lv_at hl 7 rfl) ?_
            refine lv_bipush (v := nI 14) hx hb dL_law_147 (by decide) ?_
            refine rg_civd (As := [.int (nI 14)]) (rest := []) X hl.1 h (c_X7_count l J z ad G2 ((acF r v44 v55).2) hR1 (nI (if n = 4 then 4 else n + 1)) (G2 203 1) h141 rfl (nI 14)) mw_103 mw_104 mw_105 mw_2 mw_106 pdX7_count (by decide) (xo_0 J ad _) rfl rfl ⟨Nat.le_of_ble_eq_true rfl, Nat.le_of_ble_eq_true rfl⟩ ⟨hc1, hs1⟩ rfl (Nat.le_of_ble_eq_true rfl) dL_law_149 (fun H locs h => ?_)
            refine lv_as (y := nI (if n = 4 then 4 else n + 1)) (ct_at (by omega)) ?_
            refine lv_iload hx hb dL_law_152 (lv_at hl 2 rfl) ?_
            refine lv_iconst (v := nI 4) hx hb dL_law_154 (by decide) ?_
            refine lv_icmp_ge (tgt := 165) hx hb dL_law_155 (by decide) (fun c_155 => ?_) (fun c_155 => ?_)
            · rw [nI_leI (by omega) (by omega)] at c_155
              refine lv_iconst (v := nI 4) hx hb dL_law_165 (by decide) ?_
              refine lv_icmp_ne (tgt := 173) hx hb dL_law_166 (by decide) (fun c_166 => absurd (congrArg nI (by rw [if_pos (by omega)])) c_166) (fun c_166 => ?_)
              refine lv_iconst (v := nI 1) hx hb dL_law_169 (by decide) ?_
              refine lv_goto (tgt := 174) hx hb dL_law_170 (by decide) ?_
              refine lv_istore_n (lv' := [(2, .int (nI 1)), (9, .int ((acF r v44 v55).1)), (7, .long (PR r)), (6, .int (nI n)), (5, .int v55), (4, .int v44), (3, .int (nI i_30)), (1, .ref (ad 0)), (0, .ref b)]) hx hb dL_law_174 rfl hl (by decide) rfl (fun ls hl => ?_)
              refine lv_iload_n hx hb dL_law_175 rfl (lv_at hl 0 rfl) ?_
              refine lv_if_eq (tgt := 243) hx hb dL_law_176 (by decide) (fun c_176 => absurd c_176 (by decide)) (fun c_176 => ?_)
              refine lv_iload_n hx hb dL_law_179 rfl (lv_at hl 6 rfl) ?_
              refine lv_iconst (v := nI 4) hx hb dL_law_180 (by decide) ?_
              refine lv_icmp_le (tgt := 243) hx hb dL_law_181 (by decide) (fun c_181 => absurd c_181 (fun q => by have := (nI_leI (by omega) (by omega)).mp q; omega)) (fun c_181 => ?_)
              refine lv_iload hx hb dL_law_184 (lv_at hl 4 rfl) ?_
              refine lv_iconst (v := nI 5) hx hb dL_law_186 (by decide) ?_
              refine lv_ishr hx hb dL_law_187 ?_
              refine lv_iconst (v := nI 4) hx hb dL_law_188 (by decide) ?_
              refine rg_cisd (As := [.int (v55 >>> ((nI 5) &&& 31)), .int (nI 4)]) (rest := []) X hl.1 h (c_L_low l J z ad G2 (v55 >>> ((nI 5) &&& 31)) 4 (by omega) (by omega)) mw_381 mw_382 mw_101 mw_383 pdL_low ⟨Nat.le_of_ble_eq_true rfl, Nat.le_of_ble_eq_true rfl⟩ ⟨hc1, hs1⟩ rfl (Nat.le_of_ble_eq_true rfl) dL_law_189 (fun H locs h => ?_)
              have hlo_189 := lo_lt (v := v55 >>> ((nI 5) &&& 31)) (m := 4) (by decide)
              refine lv_if_ne (tgt := 243) hx hb dL_law_192 (by decide) (fun c_192 => ?_) (fun c_192 => ?_)
              · rw [nz_eq (by omega)] at c_192
                exact K _ _ _ _ _ hv1 hI2 hc hs _ _ _ h (lv_sub hl [6, 0, 7, 8] rfl)
              · rw [nz_eq (by omega)] at c_192
                refine lv_aload_n hx hb dL_law_195 rfl (lv_at hl 7 rfl) ?_
                refine rg_civ (As := []) (rest := []) X hl.1 h (c_X7_undo l J z ad G2 (if n = 4 then 4 else n + 1) hv1.2.1 hv1.2.2.1 hv1.1) mw_368 mw_369 mw_370 mw_2 mw_371 pdX7_undo (by decide) (xo_0 J ad _) rfl rfl ⟨Nat.le_of_ble_eq_true rfl, Nat.le_of_ble_eq_true rfl⟩ ⟨hc1, hs1⟩ rfl (Nat.le_of_ble_eq_true rfl) dL_law_196 (fun r3 G3 H locs q3 h => ?_)
                obtain ⟨ea_196, G3_, hp_196, hv_196, har_196⟩ := Hv_undo hv1 htp q3
                have h := HG.ph h hz hp_196
                refine lv_as (y := nI (if n = 4 then 3 else n)) (ea_196.trans (congrArg nI (by split <;> omega))) ?_
                have hv := hv_196
                rw [show (if n = 4 then 4 else n + 1) - 1 = (if n = 4 then 3 else n) by split <;> omega] at hv
                have hR := hv.rep
                have h14 := hv.at
                refine lv_iload hx hb dL_law_199 (lv_at hl 3 rfl) ?_
                refine lv_iconst (v := nI 4) hx hb dL_law_201 (by decide) ?_
                refine lv_icmp_ge (tgt := 210) hx hb dL_law_202 (by decide) (fun c_202 => ?_) (fun c_202 => absurd ((nI_leI (by omega) (by omega)).mpr (by omega)) c_202)
                refine lv_iconst (v := nI 3) hx hb dL_law_210 (by decide) ?_
                refine lv_icmp_ne (tgt := 241) hx hb dL_law_211 (by decide) (fun c_211 => absurd (congrArg nI (by rw [if_pos (by omega)])) c_211) (fun c_211 => ?_)
                refine lv_aload_n hx hb dL_law_214 rfl (lv_at hl 7 rfl) ?_
                refine rg_cisl (As := [.ref (ad 0)]) (rest := []) X hl.1 h (c_L_print l J z ad G3_ hz r (if n = 4 then 3 else n) (30 * i_30) hv hI) mw_257 mw_258 mw_101 mw_259 pdL_print ⟨Nat.le_of_ble_eq_true rfl, Nat.le_of_ble_eq_true rfl⟩ ⟨hc1, hs1⟩ rfl (Nat.le_of_ble_eq_true rfl) dL_law_215 (fun H locs h => ?_)
                refine lv_lload hx hb dL_law_218 (lv_at hl 2 rfl) ?_
                refine W.lcmp hx hb dL_law_220 ?_
                refine lv_if_ne (tgt := 241) hx hb dL_law_221 (by decide) (fun c_221 => absurd (lg_self _) c_221) (fun c_221 => ?_)
                refine lv_aload_n hx hb dL_law_224 rfl (lv_at hl 7 rfl) ?_
                refine lv_iload hx hb dL_law_225 (lv_at hl 5 rfl) ?_
                refine lv_iload hx hb dL_law_227 (lv_at hl 4 rfl) ?_
                refine rg_cis (As := [.ref (ad 0), .int v44, .int v55]) (rest := []) X hl.1 h (c_L_act l J z ad G3_ hz r (if n = 4 then 3 else n) (30 * i_30) hv hI v44 v55) mw_398 mw_399 mw_101 mw_400 pdL_act ⟨Nat.le_of_ble_eq_true rfl, Nat.le_of_ble_eq_true rfl⟩ ⟨hc1, hs1⟩ rfl (Nat.le_of_ble_eq_true rfl) dL_law_229 (fun r4 G4 H locs q4 h => ?_)
                obtain ⟨ea_229, hv_229, ht_229, -⟩ := q4
                rw [ea_229] at hv_229 ht_229
                refine lv_as (y := (acF r v44 v55).1) ea_229 ?_
                have hng : (acF r v44 v55).1 < 0 → (acF r v44 v55).2 = r := fun hA => acF_neg hI hv.w hA
                have hI2 : Iv (30 * i_30 + 30) ((acF r v44 v55).2) := acF_Iv hI (by omega) _ _
                refine lv_iload hx hb dL_law_232 (lv_at hl 1 rfl) ?_
                refine lv_icmp_ne (tgt := 241) hx hb dL_law_234 (by decide) (fun c_234 => absurd (rfl) c_234) (fun c_234 => ?_)
                refine lv_iconst (v := nI 1) hx hb dL_law_237 (by decide) ?_
                refine lv_goto (tgt := 242) hx hb dL_law_238 (by decide) ?_
                refine lv_istore_n (lv' := [(2, .int (nI 1)), (9, .int ((acF r v44 v55).1)), (7, .long (PR r)), (6, .int (nI n)), (5, .int v55), (4, .int v44), (3, .int (nI i_30)), (1, .ref (ad 0)), (0, .ref b)]) hx hb dL_law_242 rfl hl (by decide) rfl (fun ls hl => ?_)
                exact K _ _ _ _ _ hv_229 hI2 hc hs _ _ _ h (lv_sub hl [6, 0, 7, 8] rfl)
            · rw [nI_leI (by omega) (by omega)] at c_155
              refine lv_iload hx hb dL_law_158 (lv_at hl 2 rfl) ?_
              refine lv_iconst (v := nI 1) hx hb dL_law_160 (by decide) ?_
              refine lv_iadd hx hb dL_law_161 ?_
              refine lv_as (y := nI (n + 1)) (nI_addc (by omega)) ?_
              refine lv_goto (tgt := 166) hx hb dL_law_162 (by decide) ?_
              refine lv_icmp_ne (tgt := 173) hx hb dL_law_166 (by decide) (fun c_166 => absurd (congrArg nI (by rw [if_neg (by omega)])) c_166) (fun c_166 => ?_)
              refine lv_iconst (v := nI 1) hx hb dL_law_169 (by decide) ?_
              refine lv_goto (tgt := 174) hx hb dL_law_170 (by decide) ?_
              refine lv_istore_n (lv' := [(2, .int (nI 1)), (9, .int ((acF r v44 v55).1)), (7, .long (PR r)), (6, .int (nI n)), (5, .int v55), (4, .int v44), (3, .int (nI i_30)), (1, .ref (ad 0)), (0, .ref b)]) hx hb dL_law_174 rfl hl (by decide) rfl (fun ls hl => ?_)
              refine lv_iload_n hx hb dL_law_175 rfl (lv_at hl 0 rfl) ?_
              refine lv_if_eq (tgt := 243) hx hb dL_law_176 (by decide) (fun c_176 => absurd c_176 (by decide)) (fun c_176 => ?_)
              refine lv_iload_n hx hb dL_law_179 rfl (lv_at hl 6 rfl) ?_
              refine lv_iconst (v := nI 4) hx hb dL_law_180 (by decide) ?_
              refine lv_icmp_le (tgt := 243) hx hb dL_law_181 (by decide) (fun c_181 => absurd c_181 (fun q => by have := (nI_leI (by omega) (by omega)).mp q; omega)) (fun c_181 => ?_)
              refine lv_iload hx hb dL_law_184 (lv_at hl 4 rfl) ?_
              refine lv_iconst (v := nI 5) hx hb dL_law_186 (by decide) ?_
              refine lv_ishr hx hb dL_law_187 ?_
              refine lv_iconst (v := nI 4) hx hb dL_law_188 (by decide) ?_
              refine rg_cisd (As := [.int (v55 >>> ((nI 5) &&& 31)), .int (nI 4)]) (rest := []) X hl.1 h (c_L_low l J z ad G2 (v55 >>> ((nI 5) &&& 31)) 4 (by omega) (by omega)) mw_381 mw_382 mw_101 mw_383 pdL_low ⟨Nat.le_of_ble_eq_true rfl, Nat.le_of_ble_eq_true rfl⟩ ⟨hc1, hs1⟩ rfl (Nat.le_of_ble_eq_true rfl) dL_law_189 (fun H locs h => ?_)
              have hlo_189 := lo_lt (v := v55 >>> ((nI 5) &&& 31)) (m := 4) (by decide)
              refine lv_if_ne (tgt := 243) hx hb dL_law_192 (by decide) (fun c_192 => ?_) (fun c_192 => ?_)
              · rw [nz_eq (by omega)] at c_192
                exact K _ _ _ _ _ hv1 hI2 hc hs _ _ _ h (lv_sub hl [6, 0, 7, 8] rfl)
              · rw [nz_eq (by omega)] at c_192
                refine lv_aload_n hx hb dL_law_195 rfl (lv_at hl 7 rfl) ?_
                refine rg_civ (As := []) (rest := []) X hl.1 h (c_X7_undo l J z ad G2 (if n = 4 then 4 else n + 1) hv1.2.1 hv1.2.2.1 hv1.1) mw_368 mw_369 mw_370 mw_2 mw_371 pdX7_undo (by decide) (xo_0 J ad _) rfl rfl ⟨Nat.le_of_ble_eq_true rfl, Nat.le_of_ble_eq_true rfl⟩ ⟨hc1, hs1⟩ rfl (Nat.le_of_ble_eq_true rfl) dL_law_196 (fun r5 G5 H locs q5 h => ?_)
                obtain ⟨ea_196, G5_, hp_196, hv_196, har_196⟩ := Hv_undo hv1 htp q5
                have h := HG.ph h hz hp_196
                refine lv_as (y := nI (if n = 4 then 3 else n)) (ea_196.trans (congrArg nI (by split <;> omega))) ?_
                have hv := hv_196
                rw [show (if n = 4 then 4 else n + 1) - 1 = (if n = 4 then 3 else n) by split <;> omega] at hv
                have hR := hv.rep
                have h14 := hv.at
                refine lv_iload hx hb dL_law_199 (lv_at hl 3 rfl) ?_
                refine lv_iconst (v := nI 4) hx hb dL_law_201 (by decide) ?_
                refine lv_icmp_ge (tgt := 210) hx hb dL_law_202 (by decide) (fun c_202 => absurd c_202 (fun q => by have := (nI_leI (by omega) (by omega)).mp q; omega)) (fun c_202 => ?_)
                refine lv_iload hx hb dL_law_205 (lv_at hl 3 rfl) ?_
                refine lv_goto (tgt := 211) hx hb dL_law_207 (by decide) ?_
                refine lv_icmp_ne (tgt := 241) hx hb dL_law_211 (by decide) (fun c_211 => absurd (congrArg nI (by rw [if_neg (by omega)])) c_211) (fun c_211 => ?_)
                refine lv_aload_n hx hb dL_law_214 rfl (lv_at hl 7 rfl) ?_
                refine rg_cisl (As := [.ref (ad 0)]) (rest := []) X hl.1 h (c_L_print l J z ad G5_ hz r (if n = 4 then 3 else n) (30 * i_30) hv hI) mw_257 mw_258 mw_101 mw_259 pdL_print ⟨Nat.le_of_ble_eq_true rfl, Nat.le_of_ble_eq_true rfl⟩ ⟨hc1, hs1⟩ rfl (Nat.le_of_ble_eq_true rfl) dL_law_215 (fun H locs h => ?_)
                refine lv_lload hx hb dL_law_218 (lv_at hl 2 rfl) ?_
                refine W.lcmp hx hb dL_law_220 ?_
                refine lv_if_ne (tgt := 241) hx hb dL_law_221 (by decide) (fun c_221 => absurd (lg_self _) c_221) (fun c_221 => ?_)
                refine lv_aload_n hx hb dL_law_224 rfl (lv_at hl 7 rfl) ?_
                refine lv_iload hx hb dL_law_225 (lv_at hl 5 rfl) ?_
                refine lv_iload hx hb dL_law_227 (lv_at hl 4 rfl) ?_
                refine rg_cis (As := [.ref (ad 0), .int v44, .int v55]) (rest := []) X hl.1 h (c_L_act l J z ad G5_ hz r (if n = 4 then 3 else n) (30 * i_30) hv hI v44 v55) mw_398 mw_399 mw_101 mw_400 pdL_act ⟨Nat.le_of_ble_eq_true rfl, Nat.le_of_ble_eq_true rfl⟩ ⟨hc1, hs1⟩ rfl (Nat.le_of_ble_eq_true rfl) dL_law_229 (fun r6 G6 H locs q6 h => ?_)
                obtain ⟨ea_229, hv_229, ht_229, -⟩ := q6
                rw [ea_229] at hv_229 ht_229
                refine lv_as (y := (acF r v44 v55).1) ea_229 ?_
                have hng : (acF r v44 v55).1 < 0 → (acF r v44 v55).2 = r := fun hA => acF_neg hI hv.w hA
                have hI2 : Iv (30 * i_30 + 30) ((acF r v44 v55).2) := acF_Iv hI (by omega) _ _
                refine lv_iload hx hb dL_law_232 (lv_at hl 1 rfl) ?_
                refine lv_icmp_ne (tgt := 241) hx hb dL_law_234 (by decide) (fun c_234 => absurd (rfl) c_234) (fun c_234 => ?_)
                refine lv_iconst (v := nI 1) hx hb dL_law_237 (by decide) ?_
                refine lv_goto (tgt := 242) hx hb dL_law_238 (by decide) ?_
                refine lv_istore_n (lv' := [(2, .int (nI 1)), (9, .int ((acF r v44 v55).1)), (7, .long (PR r)), (6, .int (nI n)), (5, .int v55), (4, .int v44), (3, .int (nI i_30)), (1, .ref (ad 0)), (0, .ref b)]) hx hb dL_law_242 rfl hl (by decide) rfl (fun ls hl => ?_)
                exact K _ _ _ _ _ hv_229 hI2 hc hs _ _ _ h (lv_sub hl [6, 0, 7, 8] rfl)
        · rw [nI_leI (by omega) (by omega)] at c_76
          refine lv_aload_n hx hb dL_law_79 rfl (lv_at hl 6 rfl) ?_
          refine lv_iload hx hb dL_law_80 (lv_at hl 3 rfl) ?_
          refine lv_iconst (v := nI 3) hx hb dL_law_82 (by decide) ?_
          refine rg_cisd (As := [.int v44, .int (nI 3)]) (rest := [.ref (ad 0)]) X hl.1 h (c_L_low l J z ad Gl v44 3 (by omega) (by omega)) mw_381 mw_382 mw_101 mw_383 pdL_low ⟨Nat.le_of_ble_eq_true rfl, Nat.le_of_ble_eq_true rfl⟩ ⟨hc1, hs1⟩ rfl (Nat.le_of_ble_eq_true rfl) dL_law_83 (fun H locs h => ?_)
          have hlo_83 := lo_lt (v := v44) (m := 3) (by decide)
          refine lv_iconst (v := nI 1) hx hb dL_law_86 (by decide) ?_
          refine lv_iload hx hb dL_law_87 (lv_at hl 2 rfl) ?_
          refine lv_bipush (v := nI 9) hx hb dL_law_89 (by decide) ?_
          refine rg_cisd (As := [.int v55, .int (nI 9)]) (rest := [.int (nI 1), .int (nI ((lo v44 3))), .ref (ad 0)]) X hl.1 h (c_L_low l J z ad Gl v55 9 (by omega) (by omega)) mw_381 mw_382 mw_101 mw_383 pdL_low ⟨Nat.le_of_ble_eq_true rfl, Nat.le_of_ble_eq_true rfl⟩ ⟨hc1, hs1⟩ rfl (Nat.le_of_ble_eq_true rfl) dL_law_91 (fun H locs h => ?_)
          have hlo_91 := lo_lt (v := v55) (m := 9) (by decide)
          refine lv_iadd hx hb dL_law_94 ?_
          refine lv_as (y := nI ((lo v55 9) + 1)) (nI_addc (by omega)) ?_
          refine rg_civ (As := [.int (nI ((lo v44 3))), .int (nI ((lo v55 9) + 1))]) (rest := []) X hl.1 h (k_X7_come l J z ad Gl n hv.2.1 hv.2.2.1 hv.1 r hv.2.2.2.2 (nI ((lo v44 3))) (nI ((lo v55 9) + 1))) mw_385 mw_386 mw_387 mw_2 mw_388 pdX7_come (by decide) (xo_0 J ad _) rfl rfl ⟨Nat.le_of_ble_eq_true rfl, Nat.le_of_ble_eq_true rfl⟩ ⟨hc1, hs1⟩ rfl (Nat.le_of_ble_eq_true rfl) dL_law_95 (fun r7 G7 H locs q7 h => ?_)
          obtain ⟨ea_95, G7_, hp_95, hv_95, ht_95, har_95⟩ := Hv_act hv ((cmR_hi hI.1.1 (nI ((lo v44 3))) (nI ((lo v55 9) + 1))).cn hv.2.2.2.1) q7
          have h := HG.ph h hz hp_95
          refine lv_as (y := cmA r (nI ((lo v44 3))) (nI ((lo v55 9) + 1))) ea_95 ?_
          have hng : cmA r (nI ((lo v44 3))) (nI ((lo v55 9) + 1)) < 0 → cmR r (nI ((lo v44 3))) (nI ((lo v55 9) + 1)) = r := fun hA => cmA_neg hW hA
          have hI2 : Iv (30 * i_30 + 30) (cmR r (nI ((lo v44 3))) (nI ((lo v55 9) + 1))) := Iv_le (cmR_Iv hI _ _) (Nat.le_add_right _ _)
          refine lv_goto (tgt := 109) hx hb dL_law_98 (by decide) ?_
          refine lv_istore (lv' := [(9, .int (cmA r (nI ((lo v44 3))) (nI ((lo v55 9) + 1)))), (7, .long (PR r)), (6, .int (nI n)), (5, .int v55), (4, .int v44), (3, .int (nI i_30)), (2, .int (nI 1)), (1, .ref (ad 0)), (0, .ref b)]) hx hb dL_law_109 hl (by decide) rfl (fun ls hl => ?_)
          rcases Classical.em (cmA r (nI ((lo v44 3))) (nI ((lo v55 9) + 1)) < 0) with hA | hA
          · have hv1 := hv_95
            rw [nx_neg hA, hng hA] at hv1
            have hR1 := hv1.rep
            have h141 := hv1.at
            refine lv_iload hx hb dL_law_111 (lv_at hl 0 rfl) ?_
            refine lv_if_ge (tgt := 146) hx hb dL_law_113 (by decide) (fun c_113 => absurd c_113 (Int32.not_le.mpr hA)) (fun c_113 => ?_)
            refine lv_aload_n hx hb dL_law_116 rfl (lv_at hl 7 rfl) ?_
            refine lv_bipush (v := nI 14) hx hb dL_law_117 (by decide) ?_
            refine rg_civd (As := [.int (nI 14)]) (rest := []) X hl.1 h (c_X7_count l J z ad G7_ r hR1 (nI n) (G7_ 203 1) h141 rfl (nI 14)) mw_103 mw_104 mw_105 mw_2 mw_106 pdX7_count (by decide) (xo_0 J ad _) rfl rfl ⟨Nat.le_of_ble_eq_true rfl, Nat.le_of_ble_eq_true rfl⟩ ⟨hc1, hs1⟩ rfl (Nat.le_of_ble_eq_true rfl) dL_law_119 (fun H locs h => ?_)
            refine lv_as (y := nI n) (ct_at (by omega)) ?_
            refine lv_iload hx hb dL_law_122 (lv_at hl 2 rfl) ?_
            refine lv_icmp_ne (tgt := 141) hx hb dL_law_124 (by decide) (fun c_124 => absurd (rfl) c_124) (fun c_124 => ?_)
            refine lv_aload_n hx hb dL_law_127 rfl (lv_at hl 7 rfl) ?_
            refine rg_cisl (As := [.ref (ad 0)]) (rest := []) X hl.1 h (c_L_print l J z ad G7_ hz r n (30 * i_30) hv1 hI) mw_257 mw_258 mw_101 mw_259 pdL_print ⟨Nat.le_of_ble_eq_true rfl, Nat.le_of_ble_eq_true rfl⟩ ⟨hc1, hs1⟩ rfl (Nat.le_of_ble_eq_true rfl) dL_law_128 (fun H locs h => ?_)
            refine lv_lload hx hb dL_law_131 (lv_at hl 1 rfl) ?_
            refine W.lcmp hx hb dL_law_133 ?_
            refine lv_if_ne (tgt := 141) hx hb dL_law_134 (by decide) (fun c_134 => absurd (lg_self _) c_134) (fun c_134 => ?_)
            refine lv_iconst (v := nI 1) hx hb dL_law_137 (by decide) ?_
            refine lv_goto (tgt := 142) hx hb dL_law_138 (by decide) ?_
            refine lv_istore_n (lv' := [(2, .int (nI 1)), (9, .int (cmA r (nI ((lo v44 3))) (nI ((lo v55 9) + 1)))), (7, .long (PR r)), (6, .int (nI n)), (5, .int v55), (4, .int v44), (3, .int (nI i_30)), (1, .ref (ad 0)), (0, .ref b)]) hx hb dL_law_142 rfl hl (by decide) rfl (fun ls hl => ?_)
            refine lv_goto (tgt := 243) hx hb dL_law_143 (by decide) ?_
            exact K _ _ _ _ _ hv1 (Iv_le hI (Nat.le_add_right _ _)) hc hs _ _ _ h (lv_sub hl [6, 0, 7, 8] rfl)
          · have hA0 := Int32.not_lt.mp hA
            have hv1 := hv_95
            rw [nx_pos hA0] at hv1
            have htp := ht_95 hA0
            rw [nx_pos hA0] at htp
            have hR1 := hv1.rep
            have h141 := hv1.at
            refine lv_iload hx hb dL_law_111 (lv_at hl 0 rfl) ?_
            refine lv_if_ge (tgt := 146) hx hb dL_law_113 (by decide) (fun c_113 => ?_) (fun c_113 => absurd (hA0) c_113)
            refine lv_aload_n hx hb dL_law_146 rfl (lv_at hl 7 rfl) ?_
            refine lv_bipush (v := nI 14) hx hb dL_law_147 (by decide) ?_
            refine rg_civd (As := [.int (nI 14)]) (rest := []) X hl.1 h (c_X7_count l J z ad G7_ (cmR r (nI ((lo v44 3))) (nI ((lo v55 9) + 1))) hR1 (nI (if n = 4 then 4 else n + 1)) (G7_ 203 1) h141 rfl (nI 14)) mw_103 mw_104 mw_105 mw_2 mw_106 pdX7_count (by decide) (xo_0 J ad _) rfl rfl ⟨Nat.le_of_ble_eq_true rfl, Nat.le_of_ble_eq_true rfl⟩ ⟨hc1, hs1⟩ rfl (Nat.le_of_ble_eq_true rfl) dL_law_149 (fun H locs h => ?_)
            refine lv_as (y := nI (if n = 4 then 4 else n + 1)) (ct_at (by omega)) ?_
            refine lv_iload hx hb dL_law_152 (lv_at hl 2 rfl) ?_
            refine lv_iconst (v := nI 4) hx hb dL_law_154 (by decide) ?_
            refine lv_icmp_ge (tgt := 165) hx hb dL_law_155 (by decide) (fun c_155 => ?_) (fun c_155 => ?_)
            · rw [nI_leI (by omega) (by omega)] at c_155
              refine lv_iconst (v := nI 4) hx hb dL_law_165 (by decide) ?_
              refine lv_icmp_ne (tgt := 173) hx hb dL_law_166 (by decide) (fun c_166 => absurd (congrArg nI (by rw [if_pos (by omega)])) c_166) (fun c_166 => ?_)
              refine lv_iconst (v := nI 1) hx hb dL_law_169 (by decide) ?_
              refine lv_goto (tgt := 174) hx hb dL_law_170 (by decide) ?_
              refine lv_istore_n (lv' := [(2, .int (nI 1)), (9, .int (cmA r (nI ((lo v44 3))) (nI ((lo v55 9) + 1)))), (7, .long (PR r)), (6, .int (nI n)), (5, .int v55), (4, .int v44), (3, .int (nI i_30)), (1, .ref (ad 0)), (0, .ref b)]) hx hb dL_law_174 rfl hl (by decide) rfl (fun ls hl => ?_)
              refine lv_iload_n hx hb dL_law_175 rfl (lv_at hl 0 rfl) ?_
              refine lv_if_eq (tgt := 243) hx hb dL_law_176 (by decide) (fun c_176 => absurd c_176 (by decide)) (fun c_176 => ?_)
              refine lv_iload_n hx hb dL_law_179 rfl (lv_at hl 6 rfl) ?_
              refine lv_iconst (v := nI 4) hx hb dL_law_180 (by decide) ?_
              refine lv_icmp_le (tgt := 243) hx hb dL_law_181 (by decide) (fun c_181 => ?_) (fun c_181 => absurd ((nI_leI (by omega) (by omega)).mpr (by omega)) c_181)
              exact K _ _ _ _ _ hv1 hI2 hc hs _ _ _ h (lv_sub hl [6, 0, 7, 8] rfl)
            · rw [nI_leI (by omega) (by omega)] at c_155
              refine lv_iload hx hb dL_law_158 (lv_at hl 2 rfl) ?_
              refine lv_iconst (v := nI 1) hx hb dL_law_160 (by decide) ?_
              refine lv_iadd hx hb dL_law_161 ?_
              refine lv_as (y := nI (n + 1)) (nI_addc (by omega)) ?_
              refine lv_goto (tgt := 166) hx hb dL_law_162 (by decide) ?_
              refine lv_icmp_ne (tgt := 173) hx hb dL_law_166 (by decide) (fun c_166 => absurd (congrArg nI (by rw [if_neg (by omega)])) c_166) (fun c_166 => ?_)
              refine lv_iconst (v := nI 1) hx hb dL_law_169 (by decide) ?_
              refine lv_goto (tgt := 174) hx hb dL_law_170 (by decide) ?_
              refine lv_istore_n (lv' := [(2, .int (nI 1)), (9, .int (cmA r (nI ((lo v44 3))) (nI ((lo v55 9) + 1)))), (7, .long (PR r)), (6, .int (nI n)), (5, .int v55), (4, .int v44), (3, .int (nI i_30)), (1, .ref (ad 0)), (0, .ref b)]) hx hb dL_law_174 rfl hl (by decide) rfl (fun ls hl => ?_)
              refine lv_iload_n hx hb dL_law_175 rfl (lv_at hl 0 rfl) ?_
              refine lv_if_eq (tgt := 243) hx hb dL_law_176 (by decide) (fun c_176 => absurd c_176 (by decide)) (fun c_176 => ?_)
              refine lv_iload_n hx hb dL_law_179 rfl (lv_at hl 6 rfl) ?_
              refine lv_iconst (v := nI 4) hx hb dL_law_180 (by decide) ?_
              refine lv_icmp_le (tgt := 243) hx hb dL_law_181 (by decide) (fun c_181 => ?_) (fun c_181 => absurd ((nI_leI (by omega) (by omega)).mpr (by omega)) c_181)
              exact K _ _ _ _ _ hv1 hI2 hc hs _ _ _ h (lv_sub hl [6, 0, 7, 8] rfl)
  exact LP_30 (46 + 1) 0 (by omega) (by omega) _ _ _ _ _ hv hI (by omega) (by omega) _ _ _ h (lv_sub hl [0, 1, 2, 3] rfl)
