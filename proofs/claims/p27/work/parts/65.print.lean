/-! A METHOD THAT ANSWERS A LONG; print -/
def ML (l : Launch) (J : JJ) (z : ZZ) (ad : Nat → Nat) (y : MethodName) (cc : ByteArray) (mx : Nat) (d : Nat) (av : List Value) (G : GG) (post : Int64 → GG → Prop) : Prop :=
  Met l y (wsY y cc mx (some .long)) (rmD d 0 0) (va_Pc av (HV J z ad G)) (va_Ql post (HV J z ad) (fun q => z.1 ≤ q)) 0 0 (fun q => z.1 ≤ q)
section LONG
variable {p : Program} {l : Launch} {e : Env} {R : Room} {s : State} {m : MethodId} {args : Array Value} {below : List Frame} {meth : Method} {c : Code} {H : Heap} {locs : List Loc} {cells slots : Nat} {Q : State → Prop}
variable {cc : ByteArray} {pc : Nat} {ls : Array Slot} {rest : List Value} {J : JJ} {z : ZZ} {nL : Nat} {ad : Nat → Nat} {G : GG} {own : String}
theorem lv_asl {x y : Int64} (hxy : x = y) (k : W p l e R s m args below meth c H locs cells slots Q (F0 m pc ls (.long y :: rest))) : W p l e R s m args below meth c H locs cells slots Q (F0 m pc ls (.long x :: rest)) := by
  subst hxy
  exact k
theorem ML.go {y : MethodName} {mx : Nat} {d : Nat} {av : List Value} {post : Int64 → GG → Prop} (hy : plainName y.cls = true) (hlen : (lg_sl av).length ≤ mx)
    (body : ∀ (p : Program) (e : Env) (s : State) (m : MethodId) (args : Array Value) (below : List Frame) (meth : Method) (c : Code) (ls : Array Slot) (Q : State → Prop), Cx p c cc s m y.cls args mx → HG J z ad s G s.heap [] → lv_has ls mx (lv_args 0 av) →
      (∀ (v : Int64) (G1 : GG) (H : Heap) (locs : List Loc) (pc : Nat) (ls : Array Slot), post v G1 → HG J z ad s G1 H locs → decode cc pc = .ok (.lreturn, 1) → W p l e (rmD d 0 0) s m args below meth c H locs 0 0 Q (F0 m pc ls [.long v])) →
      W p l e (rmD d 0 0) s m args below meth c s.heap [] 0 0 Q (F0 m 0 ls [])) : ML l J z ad y cc mx d av G post := by
  refine Met.ofW (cc := cc) (maxL := mx) (ret := some .long) hy rfl ?_
  intro p e s m args below meth c s₁ B hml hv
  obtain ⟨rfl, hU⟩ := hv
  have hts := atoms_spec (ws := wsY y cc mx (some .long)) B.pre
  have hl := lv_entry av (n := mx) hlen
  rw [lg_entry_eq]
  exact body p e s m _ below meth c _ _ ⟨B.exec, B.bytes, hml, findClass_of_methodNamed B.named, fun w hw => hts w (List.mem_cons_of_mem _ hw)⟩ (HS.of0 hU) hl (fun v G1 H locs pc ls hp h hdg => W.lret B.exec B.bytes B.returns (fun t ht hW => ⟨⟨v, G1, rfl, hp, h.toU ht hW⟩, h.2.2.2.1.F ht⟩) h.2.2.2.1.2.2 hdg B.notSynchronized)
theorem rg_cisl (X : Cx p c cc s m own args nL) (hl : ls.size = nL) (h : HG J z ad s G H locs) {y : MethodName} {bytes : ByteArray} {mx : Nat} {d : Nat} {As : List Value} {E : Int64} {G1 : GG} (hM : ML l J z ad y bytes mx d As G (fun r u => r = E ∧ u = G1)) {index : Nat} (w1 : Cond.methodLink own index y ∈ ws0) (w2 : Cond.static y ∈ ws0) (w4 : Cond.initialized own ∈ ws0) (w5 : Cond.code y bytes mx (some .long) ∈ ws0)
    (hd : y.cls = own ∧ y.cls ≠ "java/lang/invoke/MethodHandle" ∧ y.cls ≠ "java/lang/invoke/VarHandle" ∧ (parseMethodDescriptor y.desc).map (fun d => d.parameters.length) = some As.length) (hR : d + 1 ≤ R.frames ∧ 8 + (mx + 11) + 30 * d ≤ R.locals) (hf : cells + 0 ≤ R.cells ∧ slots + 0 ≤ R.slots) {st : List Value} (hst : st = As.reverse ++ rest) (hrest : (rest.map fun v => v.category).sum ≤ 8) (hdg : decode cc pc = .ok (.invokestatic index, 3))
    (kk : ∀ (H1 : Heap) (locs1 : List Loc), HG J z ad s G1 H1 locs1 → W p l e R s m args below meth c H1 locs1 cells slots Q (F0 m (pc + 3) ls (.long E :: rest))) : W p l e R s m args below meth c H locs cells slots Q (F0 m pc ls st) := by
  have hg : GoodIn ws0 (wsS own index y (wsY y bytes mx (some .long))) := by
    intro w hw
    have hin : w ∈ ws0 := by
      simp only [wsS, wsY, List.mem_append, List.mem_cons, List.not_mem_nil, or_false] at hw
      rcases hw with (rfl | rfl | rfl) | rfl | hw
      · exact w1
      · exact w2
      · exact w4
      · exact w5
      · exact hw
    exact ws0_self w hin
  refine va_calll (st0 := st) (va_runS (As := As) (rest := rest) X hM (cwS As.length X.2.2.2.2 hg rfl rfl rfl hd hR) ⟨HV.blind, fun U hU hW => ⟨rfl, h.toU hU hW⟩⟩ rfl rfl hl hst (lv_room hrest) hdg hf) h.2.2.2.1 (fun _ _ h => h) (fun _ h => h) (fun r u t H1 locs1 ht hvm hp hB _ _ hS => ?_)
  obtain ⟨rfl, rfl⟩ := hp
  exact kk H1 locs1 (HS.ofU hB ht hvm hS h.2.2.2.2)
end LONG
noncomputable def pr1 (r : Nat → Int32) : Nat → Int64 → Int64 := fun i a => 31 * a + Int32.toInt64 (ctF r 0 0 i)
noncomputable def pr2 (r : Nat → Int32) : Nat → Int64 → Int64 := fun i a => 31 * a + Int32.toInt64 (drA r (nI (i / 7)) (nI (i % 7)))
noncomputable def pr3 (r : Nat → Int32) : Nat → Int64 → Int64 := fun i a => 31 * a + Int32.toInt64 (ptoA r (nI (i / 6)) (nI (i % 6)))
noncomputable def pr4 (r : Nat → Int32) : Nat → Int64 → Int64 := fun i a => 31 * a + Int32.toInt64 (byA r (nI (i / 5)) (nI (i % 5)))
/-- what print tells of a row -/
noncomputable def PR (r : Nat → Int32) : Int64 := itr (pr4 r) (itr (pr3 r) (itr (pr2 r) (itr (pr1 r) 17 14) 84) 72) (5 * cnt (LW r) 140)
theorem ctF_n {r : Nat → Int32} {a b : Int32} {i : Nat} (h : i < 14) : ctF r a b i = ctF r 0 0 i := by
  rcases (show i = 0 ∨ i = 1 ∨ i = 2 ∨ i = 3 ∨ i = 4 ∨ i = 5 ∨ i = 6 ∨ i = 7 ∨ i = 8 ∨ i = 9 ∨ i = 10 ∨ i = 11 ∨ i = 12 ∨ i = 13 by omega) with rfl | rfl | rfl | rfl | rfl | rfl | rfl | rfl | rfl | rfl | rfl | rfl | rfl | rfl <;> rfl
set_option maxHeartbeats 4000000 in
set_option maxRecDepth 100000 in
theorem c_L_print (l : Launch) (J : JJ) (z : ZZ) (ad : Nat → Nat) (G : GG) (hz : z.2 ≤ 1) (r : Nat → Int32) (n B : Nat) (hv : Hv G r n) (hI : Iv B r) : ML l J z ad yL_print cL_print 4 5 [.ref (ad 0)] G (fun ans uG => ans = (PR r) ∧ uG = (G)) := by
  refine ML.go (by decide) (Nat.le_of_ble_eq_true rfl) ?_
  intro pr e s m args below meth c ls Q X h hl hret
  have hx := X.1
  have hb := X.2.1
  have hown := X.2.2.2.1
  have hts := X.2.2.2.2
  have hl : lv_has ls 4 [(0, .ref (ad 0))] := hl
  have hR := hv.rep
  have h14 := hv.at
  have hW := hI.1.1
  obtain ⟨⟨w1, w2⟩, ⟨w3, w4⟩, ⟨w5, w6⟩, w7, w8⟩ := hI.1.1
  have hnn := hv.2.2.1
  have hc140 := cnt_le (LW r) 140
  refine lv_ldc2 (v := 17) hx hb hown (hts _ mw_260) dL_print_0 ?_
  refine lv_lstore_n (lv' := [(1, .long 17), (0, .ref (ad 0))]) hx hb dL_print_3 rfl hl (by decide) rfl (fun ls hl => ?_)
  refine lv_iconst (v := nI 0) hx hb dL_print_4 (by decide) ?_
  refine lv_istore_n (lv' := [(3, .int (nI 0)), (1, .long 17), (0, .ref (ad 0))]) hx hb dL_print_5 rfl hl (by decide) rfl (fun ls hl => ?_)
  have hl : lv_has ls 4 [(3, .int (nI 0)), (1, .long (itr (pr1 r) (17 : Int64) 0)), (0, .ref (ad 0))] := hl
  have LP_6 : ∀ (k_6 i_6 : Nat), 14 + 1 ≤ i_6 + k_6 → i_6 ≤ 14 → ∀ (H : Heap) (locs : List Loc) (ls : Array Slot), HG J z ad s G H locs → lv_has ls 4 [(0, .ref (ad 0)), (1, .long (itr (pr1 r) (17 : Int64) i_6)), (3, .int (nI i_6))] → W pr l e (rmD 5 0 0) s m args below meth c H locs 0 0 Q (F0 m 6 ls []) := by
    intro k_6
    induction k_6 with
    | zero =>
      intro i_6 g1 g2
      exact absurd g1 (by omega)
    | succ k_6 ih_6 =>
      intro i_6 g1_6 g2_6  H locs ls h hl
      refine lv_iload_n hx hb dL_print_6 rfl (lv_at hl 2 rfl) ?_
      refine lv_bipush (v := nI 14) hx hb dL_print_7 (by decide) ?_
      refine lv_icmp_ge (tgt := 31) hx hb dL_print_9 (by decide) (fun c_9 => ?_) (fun c_9 => ?_)
      · rw [nI_leI (by omega) (by omega)] at c_9
        have ex_6 : i_6 = 14 := by omega
        rw [ex_6] at hl
        refine lv_iconst (v := nI 0) hx hb dL_print_31 (by decide) ?_
        refine lv_istore_n (lv' := [(3, .int (nI 0)), (0, .ref (ad 0)), (1, .long (itr (pr1 r) 17 14))]) hx hb dL_print_32 rfl hl (by decide) rfl (fun ls hl => ?_)
        have hl : lv_has ls 4 [(3, .int (nI 0)), (0, .ref (ad 0)), (1, .long (itr (pr2 r) (itr (pr1 r) 17 14) 0))] := hl
        have LP_33 : ∀ (k_33 i_33 : Nat), 84 + 1 ≤ i_33 + k_33 → i_33 ≤ 84 → ∀ (H : Heap) (locs : List Loc) (ls : Array Slot), HG J z ad s G H locs → lv_has ls 4 [(0, .ref (ad 0)), (1, .long (itr (pr2 r) (itr (pr1 r) 17 14) i_33)), (3, .int (nI i_33))] → W pr l e (rmD 5 0 0) s m args below meth c H locs 0 0 Q (F0 m 33 ls []) := by
          intro k_33
          induction k_33 with
          | zero =>
            intro i_33 g1 g2
            exact absurd g1 (by omega)
          | succ k_33 ih_33 =>
            intro i_33 g1_33 g2_33  H locs ls h hl
            refine lv_iload_n hx hb dL_print_33 rfl (lv_at hl 2 rfl) ?_
            refine lv_bipush (v := nI 84) hx hb dL_print_34 (by decide) ?_
            refine lv_icmp_ge (tgt := 65) hx hb dL_print_36 (by decide) (fun c_36 => ?_) (fun c_36 => ?_)
            · rw [nI_leI (by omega) (by omega)] at c_36
              have ex_33 : i_33 = 84 := by omega
              rw [ex_33] at hl
              refine lv_iconst (v := nI 0) hx hb dL_print_65 (by decide) ?_
              refine lv_istore_n (lv' := [(3, .int (nI 0)), (0, .ref (ad 0)), (1, .long (itr (pr2 r) (itr (pr1 r) 17 14) 84))]) hx hb dL_print_66 rfl hl (by decide) rfl (fun ls hl => ?_)
              have hl : lv_has ls 4 [(3, .int (nI 0)), (0, .ref (ad 0)), (1, .long (itr (pr3 r) (itr (pr2 r) (itr (pr1 r) 17 14) 84) 0))] := hl
              have LP_67 : ∀ (k_67 i_67 : Nat), 72 + 1 ≤ i_67 + k_67 → i_67 ≤ 72 → ∀ (H : Heap) (locs : List Loc) (ls : Array Slot), HG J z ad s G H locs → lv_has ls 4 [(0, .ref (ad 0)), (1, .long (itr (pr3 r) (itr (pr2 r) (itr (pr1 r) 17 14) 84) i_67)), (3, .int (nI i_67))] → W pr l e (rmD 5 0 0) s m args below meth c H locs 0 0 Q (F0 m 67 ls []) := by
                intro k_67
                induction k_67 with
                | zero =>
                  intro i_67 g1 g2
                  exact absurd g1 (by omega)
                | succ k_67 ih_67 =>
                  intro i_67 g1_67 g2_67  H locs ls h hl
                  refine lv_iload_n hx hb dL_print_67 rfl (lv_at hl 2 rfl) ?_
                  refine lv_bipush (v := nI 72) hx hb dL_print_68 (by decide) ?_
                  refine lv_icmp_ge (tgt := 99) hx hb dL_print_70 (by decide) (fun c_70 => ?_) (fun c_70 => ?_)
                  · rw [nI_leI (by omega) (by omega)] at c_70
                    have ex_67 : i_67 = 72 := by omega
                    rw [ex_67] at hl
                    refine lv_iconst (v := nI 0) hx hb dL_print_99 (by decide) ?_
                    refine lv_istore_n (lv' := [(3, .int (nI 0)), (0, .ref (ad 0)), (1, .long (itr (pr3 r) (itr (pr2 r) (itr (pr1 r) 17 14) 84) 72))]) hx hb dL_print_100 rfl hl (by decide) rfl (fun ls hl => ?_)
                    have hl : lv_has ls 4 [(3, .int (nI 0)), (0, .ref (ad 0)), (1, .long (itr (pr4 r) (itr (pr3 r) (itr (pr2 r) (itr (pr1 r) 17 14) 84) 72) 0))] := hl
                    have LP_101 : ∀ (k_101 i_101 : Nat), (5 * cnt (LW r) 140) + 1 ≤ i_101 + k_101 → i_101 ≤ (5 * cnt (LW r) 140) → ∀ (H : Heap) (locs : List Loc) (ls : Array Slot), HG J z ad s G H locs → lv_has ls 4 [(0, .ref (ad 0)), (1, .long (itr (pr4 r) (itr (pr3 r) (itr (pr2 r) (itr (pr1 r) 17 14) 84) 72) i_101)), (3, .int (nI i_101))] → W pr l e (rmD 5 0 0) s m args below meth c H locs 0 0 Q (F0 m 101 ls []) := by
                      intro k_101
                      induction k_101 with
                      | zero =>
                        intro i_101 g1 g2
                        exact absurd g1 (by omega)
                      | succ k_101 ih_101 =>
                        intro i_101 g1_101 g2_101  H locs ls h hl
                        refine lv_iload_n hx hb dL_print_101 rfl (lv_at hl 2 rfl) ?_
                        refine lv_iconst (v := nI 5) hx hb dL_print_102 (by decide) ?_
                        refine lv_aload_n hx hb dL_print_103 rfl (lv_at hl 0 rfl) ?_
                        refine lv_iconst (v := nI 4) hx hb dL_print_104 (by decide) ?_
                        refine rg_civd (As := [.int (nI 4)]) (rest := [.int (nI 5), .int (nI i_101)]) X hl.1 h (c_X7_count l J z ad G r hR (nI n) (G 203 1) h14 rfl (nI 4)) mw_103 mw_104 mw_105 mw_2 mw_106 pdX7_count (by decide) (xo_0 J ad _) rfl rfl ⟨Nat.le_of_ble_eq_true rfl, Nat.le_of_ble_eq_true rfl⟩ ⟨Nat.le_of_ble_eq_true rfl, Nat.le_of_ble_eq_true rfl⟩ rfl (Nat.le_of_ble_eq_true rfl) dL_print_105 (fun H locs h => ?_)
                        refine lv_as (y := nI ((cnt (LW r) 140))) (ct_at (by omega)) ?_
                        refine lv_imul hx hb dL_print_108 ?_
                        refine lv_as (y := nI (5 * (cnt (LW r) 140))) (nI_mulc (by omega)) ?_
                        refine lv_icmp_ge (tgt := 136) hx hb dL_print_109 (by decide) (fun c_109 => ?_) (fun c_109 => ?_)
                        · rw [nI_leI (by omega) (by omega)] at c_109
                          refine lv_lload_n hx hb dL_print_136 rfl (lv_at hl 1 rfl) ?_
                          exact hret (itr (pr4 r) (itr (pr3 r) (itr (pr2 r) (itr (pr1 r) 17 14) 84) 72) i_101) G _ _ 137 _ (⟨by rw [show i_101 = 5 * cnt (LW r) 140 by omega]; rfl, rfl⟩) h dL_print_137
                        · rw [nI_leI (by omega) (by omega)] at c_109
                          refine lv_ldc2 (v := 31) hx hb hown (hts _ mw_261) dL_print_112 ?_
                          refine lv_lload_n hx hb dL_print_115 rfl (lv_at hl 1 rfl) ?_
                          refine lv_lmul hx hb dL_print_116 ?_
                          refine lv_aload_n hx hb dL_print_117 rfl (lv_at hl 0 rfl) ?_
                          refine lv_iload_n hx hb dL_print_118 rfl (lv_at hl 2 rfl) ?_
                          refine lv_iconst (v := nI 5) hx hb dL_print_119 (by decide) ?_
                          refine lv_idiv hx hb dL_print_120 (by decide) ?_
                          refine lv_as (y := nI ((i_101 / 5))) (pk_div (by omega) (by omega) (by omega)) ?_
                          refine lv_iload_n hx hb dL_print_121 rfl (lv_at hl 2 rfl) ?_
                          refine lv_iconst (v := nI 5) hx hb dL_print_122 (by decide) ?_
                          refine lv_irem hx hb dL_print_123 (by decide) ?_
                          refine lv_as (y := nI ((i_101 % 5))) (pk_rem (by omega) (by omega) (by omega)) ?_
                          refine rg_civd (As := [.int (nI ((i_101 / 5))), .int (nI ((i_101 % 5)))]) (rest := [.long (31 * (itr (pr4 r) (itr (pr3 r) (itr (pr2 r) (itr (pr1 r) 17 14) 84) 72) i_101))]) X hl.1 h (c_X7_bylaw l J z ad G r hR (nI ((i_101 / 5))) (nI ((i_101 % 5)))) mw_157 mw_158 mw_159 mw_2 mw_160 pdX7_bylaw (by decide) (xo_0 J ad _) rfl rfl ⟨Nat.le_of_ble_eq_true rfl, Nat.le_of_ble_eq_true rfl⟩ ⟨Nat.le_of_ble_eq_true rfl, Nat.le_of_ble_eq_true rfl⟩ rfl (Nat.le_of_ble_eq_true rfl) dL_print_124 (fun H locs h => ?_)
                          refine lv_i2l (v := Int32.toInt64 (byA r (nI ((i_101 / 5))) (nI ((i_101 % 5))))) hx hb dL_print_127 rfl ?_
                          refine lv_ladd hx hb dL_print_128 ?_
                          refine lv_asl (y := itr (pr4 r) (itr (pr3 r) (itr (pr2 r) (itr (pr1 r) 17 14) 84) 72) (i_101 + 1)) rfl ?_
                          refine lv_lstore_n (lv' := [(1, .long (itr (pr4 r) (itr (pr3 r) (itr (pr2 r) (itr (pr1 r) 17 14) 84) 72) (i_101 + 1))), (0, .ref (ad 0)), (3, .int (nI i_101))]) hx hb dL_print_129 rfl hl (by decide) rfl (fun ls hl => ?_)
                          refine lv_iinc (v := nI (i_101 + 1)) (lv' := [(3, .int (nI (i_101 + 1))), (1, .long (itr (pr4 r) (itr (pr3 r) (itr (pr2 r) (itr (pr1 r) 17 14) 84) 72) (i_101 + 1))), (0, .ref (ad 0))]) hx hb dL_print_130 hl (k := 2) rfl (nI_addc (b := 1) (by omega)) (by decide) rfl (fun ls hl => ?_)
                          refine lv_goto (tgt := 101) hx hb dL_print_133 (by decide) ?_
                          exact ih_101 (i_101 + 1) (by omega) (by omega) _ _ _ h (lv_sub hl [2, 1, 0] rfl)
                    exact LP_101 ((5 * cnt (LW r) 140) + 1) 0 (by omega) (by omega) _ _ _ h (lv_sub hl [1, 2, 0] rfl)
                  · rw [nI_leI (by omega) (by omega)] at c_70
                    refine lv_ldc2 (v := 31) hx hb hown (hts _ mw_261) dL_print_73 ?_
                    refine lv_lload_n hx hb dL_print_76 rfl (lv_at hl 1 rfl) ?_
                    refine lv_lmul hx hb dL_print_77 ?_
                    refine lv_aload_n hx hb dL_print_78 rfl (lv_at hl 0 rfl) ?_
                    refine lv_iload_n hx hb dL_print_79 rfl (lv_at hl 2 rfl) ?_
                    refine lv_bipush (v := nI 6) hx hb dL_print_80 (by decide) ?_
                    refine lv_idiv hx hb dL_print_82 (by decide) ?_
                    refine lv_as (y := nI ((i_67 / 6))) (pk_div (by omega) (by omega) (by omega)) ?_
                    refine lv_iload_n hx hb dL_print_83 rfl (lv_at hl 2 rfl) ?_
                    refine lv_bipush (v := nI 6) hx hb dL_print_84 (by decide) ?_
                    refine lv_irem hx hb dL_print_86 (by decide) ?_
                    refine lv_as (y := nI ((i_67 % 6))) (pk_rem (by omega) (by omega) (by omega)) ?_
                    refine rg_civd (As := [.int (nI ((i_67 / 6))), .int (nI ((i_67 % 6)))]) (rest := [.long (31 * (itr (pr3 r) (itr (pr2 r) (itr (pr1 r) 17 14) 84) i_67))]) X hl.1 h (c_X7_petitionOf l J z ad G r hR (nI ((i_67 / 6))) (nI ((i_67 % 6)))) mw_220 mw_221 mw_222 mw_2 mw_223 pdX7_petitionOf (by decide) (xo_0 J ad _) rfl rfl ⟨Nat.le_of_ble_eq_true rfl, Nat.le_of_ble_eq_true rfl⟩ ⟨Nat.le_of_ble_eq_true rfl, Nat.le_of_ble_eq_true rfl⟩ rfl (Nat.le_of_ble_eq_true rfl) dL_print_87 (fun H locs h => ?_)
                    refine lv_i2l (v := Int32.toInt64 (ptoA r (nI ((i_67 / 6))) (nI ((i_67 % 6))))) hx hb dL_print_90 rfl ?_
                    refine lv_ladd hx hb dL_print_91 ?_
                    refine lv_asl (y := itr (pr3 r) (itr (pr2 r) (itr (pr1 r) 17 14) 84) (i_67 + 1)) rfl ?_
                    refine lv_lstore_n (lv' := [(1, .long (itr (pr3 r) (itr (pr2 r) (itr (pr1 r) 17 14) 84) (i_67 + 1))), (0, .ref (ad 0)), (3, .int (nI i_67))]) hx hb dL_print_92 rfl hl (by decide) rfl (fun ls hl => ?_)
                    refine lv_iinc (v := nI (i_67 + 1)) (lv' := [(3, .int (nI (i_67 + 1))), (1, .long (itr (pr3 r) (itr (pr2 r) (itr (pr1 r) 17 14) 84) (i_67 + 1))), (0, .ref (ad 0))]) hx hb dL_print_93 hl (k := 2) rfl (nI_addc (b := 1) (by omega)) (by decide) rfl (fun ls hl => ?_)
                    refine lv_goto (tgt := 67) hx hb dL_print_96 (by decide) ?_
                    exact ih_67 (i_67 + 1) (by omega) (by omega) _ _ _ h (lv_sub hl [2, 1, 0] rfl)
              exact LP_67 (72 + 1) 0 (by omega) (by omega) _ _ _ h (lv_sub hl [1, 2, 0] rfl)
            · rw [nI_leI (by omega) (by omega)] at c_36
              refine lv_ldc2 (v := 31) hx hb hown (hts _ mw_261) dL_print_39 ?_
              refine lv_lload_n hx hb dL_print_42 rfl (lv_at hl 1 rfl) ?_
              refine lv_lmul hx hb dL_print_43 ?_
              refine lv_aload_n hx hb dL_print_44 rfl (lv_at hl 0 rfl) ?_
              refine lv_iload_n hx hb dL_print_45 rfl (lv_at hl 2 rfl) ?_
              refine lv_bipush (v := nI 7) hx hb dL_print_46 (by decide) ?_
              refine lv_idiv hx hb dL_print_48 (by decide) ?_
              refine lv_as (y := nI ((i_33 / 7))) (pk_div (by omega) (by omega) (by omega)) ?_
              refine lv_iload_n hx hb dL_print_49 rfl (lv_at hl 2 rfl) ?_
              refine lv_bipush (v := nI 7) hx hb dL_print_50 (by decide) ?_
              refine lv_irem hx hb dL_print_52 (by decide) ?_
              refine lv_as (y := nI ((i_33 % 7))) (pk_rem (by omega) (by omega) (by omega)) ?_
              refine rg_civd (As := [.int (nI ((i_33 / 7))), .int (nI ((i_33 % 7)))]) (rest := [.long (31 * (itr (pr2 r) (itr (pr1 r) 17 14) i_33))]) X hl.1 h (c_X7_drone l J z ad G r hR (nI ((i_33 / 7))) (nI ((i_33 % 7)))) mw_176 mw_177 mw_178 mw_2 mw_179 pdX7_drone (by decide) (xo_0 J ad _) rfl rfl ⟨Nat.le_of_ble_eq_true rfl, Nat.le_of_ble_eq_true rfl⟩ ⟨Nat.le_of_ble_eq_true rfl, Nat.le_of_ble_eq_true rfl⟩ rfl (Nat.le_of_ble_eq_true rfl) dL_print_53 (fun H locs h => ?_)
              refine lv_i2l (v := Int32.toInt64 (drA r (nI ((i_33 / 7))) (nI ((i_33 % 7))))) hx hb dL_print_56 rfl ?_
              refine lv_ladd hx hb dL_print_57 ?_
              refine lv_asl (y := itr (pr2 r) (itr (pr1 r) 17 14) (i_33 + 1)) rfl ?_
              refine lv_lstore_n (lv' := [(1, .long (itr (pr2 r) (itr (pr1 r) 17 14) (i_33 + 1))), (0, .ref (ad 0)), (3, .int (nI i_33))]) hx hb dL_print_58 rfl hl (by decide) rfl (fun ls hl => ?_)
              refine lv_iinc (v := nI (i_33 + 1)) (lv' := [(3, .int (nI (i_33 + 1))), (1, .long (itr (pr2 r) (itr (pr1 r) 17 14) (i_33 + 1))), (0, .ref (ad 0))]) hx hb dL_print_59 hl (k := 2) rfl (nI_addc (b := 1) (by omega)) (by decide) rfl (fun ls hl => ?_)
              refine lv_goto (tgt := 33) hx hb dL_print_62 (by decide) ?_
              exact ih_33 (i_33 + 1) (by omega) (by omega) _ _ _ h (lv_sub hl [2, 1, 0] rfl)
        exact LP_33 (84 + 1) 0 (by omega) (by omega) _ _ _ h (lv_sub hl [1, 2, 0] rfl)
      · rw [nI_leI (by omega) (by omega)] at c_9
        refine lv_ldc2 (v := 31) hx hb hown (hts _ mw_261) dL_print_12 ?_
        refine lv_lload_n hx hb dL_print_15 rfl (lv_at hl 1 rfl) ?_
        refine lv_lmul hx hb dL_print_16 ?_
        refine lv_aload_n hx hb dL_print_17 rfl (lv_at hl 0 rfl) ?_
        refine lv_iload_n hx hb dL_print_18 rfl (lv_at hl 2 rfl) ?_
        refine rg_civd (As := [.int (nI i_6)]) (rest := [.long (31 * (itr (pr1 r) (17 : Int64) i_6))]) X hl.1 h (c_X7_count l J z ad G r hR (nI n) (G 203 1) h14 rfl (nI i_6)) mw_103 mw_104 mw_105 mw_2 mw_106 pdX7_count (by decide) (xo_0 J ad _) rfl rfl ⟨Nat.le_of_ble_eq_true rfl, Nat.le_of_ble_eq_true rfl⟩ ⟨Nat.le_of_ble_eq_true rfl, Nat.le_of_ble_eq_true rfl⟩ rfl (Nat.le_of_ble_eq_true rfl) dL_print_19 (fun H locs h => ?_)
        refine lv_as (y := ctF r 0 0 i_6) ((ct_at (by omega)).trans (ctF_n (by omega))) ?_
        refine lv_i2l (v := Int32.toInt64 (ctF r 0 0 i_6)) hx hb dL_print_22 rfl ?_
        refine lv_ladd hx hb dL_print_23 ?_
        refine lv_asl (y := itr (pr1 r) (17 : Int64) (i_6 + 1)) rfl ?_
        refine lv_lstore_n (lv' := [(1, .long (itr (pr1 r) (17 : Int64) (i_6 + 1))), (0, .ref (ad 0)), (3, .int (nI i_6))]) hx hb dL_print_24 rfl hl (by decide) rfl (fun ls hl => ?_)
        refine lv_iinc (v := nI (i_6 + 1)) (lv' := [(3, .int (nI (i_6 + 1))), (1, .long (itr (pr1 r) (17 : Int64) (i_6 + 1))), (0, .ref (ad 0))]) hx hb dL_print_25 hl (k := 2) rfl (nI_addc (b := 1) (by omega)) (by decide) rfl (fun ls hl => ?_)
        refine lv_goto (tgt := 6) hx hb dL_print_28 (by decide) ?_
        exact ih_6 (i_6 + 1) (by omega) (by omega) _ _ _ h (lv_sub hl [2, 1, 0] rfl)
  exact LP_6 (14 + 1) 0 (by omega) (by omega) _ _ _ h (lv_sub hl [2, 1, 0] rfl)
