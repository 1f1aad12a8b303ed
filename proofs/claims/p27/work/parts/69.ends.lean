/-! ends: a method that makes a row of its own -/
def ME (l : Launch) (J : JJ) (z : ZZ) (ad : Nat → Nat) (G : GG) (post : Int32 → GG → Prop) : Prop :=
  Met l yL_ends (wsY yL_ends cL_ends 14 (some .boolean)) (rmD 7 1 12) (va_Pc [.ref (ad 0)] (HV J z ad G)) (va_Qi post (HV J z ad) (fun q => z.1 ≤ q)) 1 12 (fun q => z.1 ≤ q)
theorem ME.go {l : Launch} {J : JJ} {z : ZZ} {ad : Nat → Nat} {G : GG} {post : Int32 → GG → Prop}
    (body : ∀ (p : Program) (e : Env) (s : State) (m : MethodId) (args : Array Value) (below : List Frame) (meth : Method) (c : Code) (ls : Array Slot) (Q : State → Prop), Cx p c cL_ends s m RL args 14 → HG J z ad s G s.heap [] → lv_has ls 14 (lv_args 0 [.ref (ad 0)]) →
      (∀ (v : Int32) (G1 : GG) (H : Heap) (locs : List Loc) (pc : Nat) (ls : Array Slot), post v G1 → HG J z ad s G1 H locs → narrow .boolean (.int v) = .int v → decode cL_ends pc = .ok (.ireturn, 1) → W p l e (rmD 7 1 12) s m args below meth c H locs 1 12 Q (F0 m pc ls [.int v])) →
      W p l e (rmD 7 1 12) s m args below meth c s.heap [] 0 0 Q (F0 m 0 ls [])) : ME l J z ad G post := by
  refine Met.ofW (cc := cL_ends) (maxL := 14) (ret := some .boolean) (by decide) rfl ?_
  intro p e s m args below meth c s₁ B hml hv
  obtain ⟨rfl, hU⟩ := hv
  have hts := atoms_spec (ws := wsY yL_ends cL_ends 14 (some .boolean)) B.pre
  have hl := lv_entry [.ref (ad 0)] (n := 14) (Nat.le_of_ble_eq_true rfl)
  rw [lg_entry_eq]
  exact body p e s m _ below meth c _ _ ⟨B.exec, B.bytes, hml, findClass_of_methodNamed B.named, fun w hw => hts w (List.mem_cons_of_mem _ hw)⟩ (HS.of0 hU) hl (fun v G1 H locs pc ls hp h hn hdg => W.zret B.exec B.bytes B.returns hn (fun t ht hW => ⟨⟨v, G1, rfl, hp, h.toU ht hW⟩, h.2.2.2.1.F ht⟩) h.2.2.2.1.2.2 hdg B.notSynchronized)
theorem stC_loc2 {J : JJ} {a a1 : Nat → Nat} {b c : Nat} {g : Nat → Int32} (h : ∀ i, i < 210 → a i = a1 i) (hb : b + 24 < 210) : stC J a b c g = stC J a1 b c g := by
  unfold stC
  split <;> first | rfl | simp only [h (b + 1) (by omega), h (b + 2) (by omega), h (b + 3) (by omega), h (b + 4) (by omega), h (b + 5) (by omega), h (b + 6) (by omega), h (b + 7) (by omega), h (b + 8) (by omega), h (b + 9) (by omega), h (b + 10) (by omega), h (b + 11) (by omega), h (b + 12) (by omega), h (b + 13) (by omega), h (b + 14) (by omega), h (b + 15) (by omega), h (b + 16) (by omega), h (b + 17) (by omega), h (b + 18) (by omega), h (b + 19) (by omega), h (b + 20) (by omega), h (b + 21) (by omega), h (b + 22) (by omega), h (b + 23) (by omega), h (b + 24) (by omega)]
theorem shC_loc {J : JJ} {a a1 : Nat → Nat} {g : Nat → Int32} (h : ∀ i, i < 210 → a i = a1 i) {k : Nat} (hk : k < 210) : shC J a k g = shC J a1 k g := by
  unfold shC
  split
  · rw [h 1 (by omega), h 26 (by omega), h 51 (by omega), h 76 (by omega), h 101 (by omega), h 203 (by omega)]
  split
  · exact stC_loc2 h (by omega)
  split
  · rw [h 102 (by omega)]
  split
  · unfold ringF
    rw [h 103 (by omega), h 128 (by omega), h 153 (by omega), h 178 (by omega)]
  split
  · exact stC_loc2 h (by omega)
  unfold txC
  split
  · rw [h 204 (by omega), h 205 (by omega), h 206 (by omega), h 207 (by omega), h 208 (by omega), h 209 (by omega)]
  all_goals rfl
theorem locG (J : JJ) (G : GG) : LocF (fun a => shp J a G) 210 := fun _ _ h _ hj => shC_loc h hj
def arG (G : GG) : Nat → Int32 := fun j => if j < 1000 then G 210 j else 0
theorem arr_in {J : JJ} {z : ZZ} {ad : Nat → Nat} {s : State} {G : GG} {H : Heap} {locs : List Loc} (h : HS J z.1 ad (210 + 1) (va_up (shp J ad G) 210 (.inl (J.2.1, 12, .inl (fun _ => 0)))) s H locs) : HG J (z.1, 1) ad s (u1 G 210 (arG G)) H locs := by
  have e : (fun _ => (0 : Int32)) = (fun j => arG G (j + 1000)) := by
    funext j
    exact (if_neg (by omega)).symm
  rw [e, shp_u (J := J) (ad := ad) (G := G) (k := 210) (e := .inl (J.2.1, 12, .inl (fun j => arG G (j + 1000)))) (g := arG G) rfl] at h
  exact h
theorem arr_out {J : JJ} {z : ZZ} {ad ad1 : Nat → Nat} {s : State} {G : GG} {H : Heap} {locs : List Loc} (hz : z.2 = 0) (h : HG J (z.1, 1) ad1 s G H locs) (e : ∀ j, j < 210 → ad1 j = ad j) : HG J z ad s G H locs := by
  obtain ⟨hK, hP, hD, hS, hz1⟩ := h
  have e2 : wl ad (210 + z.2) (shp J ad G) = wl ad1 210 (shp J ad1 G) := by
    rw [hz]
    exact wl_cg (fun j hj => (e j hj).symm) (fun j hj => shC_loc (fun i hi => (e i hi).symm) hj)
  have sub : ∀ (k : Nat) (q : Nat × va_E), (wl ad1 210 (shp J ad1 G))[k]? = some q → (wl ad1 (210 + 1) (shp J ad1 G))[k]? = some q := by
    intro k q hq
    by_cases hk : k < 210
    · rw [wl_get hk] at hq
      rw [wl_get (by omega)]
      exact hq
    · rw [List.getElem?_eq_none (by simp [wl_len]; omega)] at hq
      cases hq
  refine ⟨hK, ?_, ?_, hS, hz1⟩
  · rw [e2]
    exact fun k q hq => hP k q (sub k q hq)
  · rw [e2]
    exact ⟨fun i j p q hi hj => hD.1 i j p q (sub i p hi) (sub j q hj), fun k q hq => hD.2 k q (sub k q hq)⟩
theorem arr_st {J : JJ} {z : ZZ} {ad : Nat → Nat} {s : State} {G : GG} {H : Heap} {locs : List Loc} {d : Nat} {x : Int32} (h : HS J z.1 ad (210 + z.2) (va_up (shp J ad G) 210 (.inl (J.2.1, 12, .inl (upd (fun j => G 210 (j + 1000)) d x)))) s H locs) : HG J z ad s (u1 G 210 (upd (G 210) (d + 1000) x)) H locs := by
  have e : upd (fun j => G 210 (j + 1000)) d x = (fun j => upd (G 210) (d + 1000) x (j + 1000)) := by
    funext j
    by_cases c : j = d
    · rw [c, upd_s, upd_s]
    · rw [upd_n c, upd_n (by omega)]
  rw [e, shp_u (J := J) (ad := ad) (G := G) (k := 210) (e := .inl (J.2.1, 12, .inl (fun j => upd (G 210) (d + 1000) x (j + 1000)))) (g := upd (G 210) (d + 1000) x) rfl] at h
  exact h
theorem i32_as (a b c : Int32) : a + b - c = a + (b - c) := by rw [Int32.sub_eq_add_neg, Int32.sub_eq_add_neg, Int32.add_assoc]
theorem drI_t {r : Nat → Int32} {k : Nat} (h : (hearC r).2.2 k = 0) : drI r k ||| (nI 1 <<< (nI (pd r k) &&& 31)) = drI r (k + 1) := by
  show _ = drI r k ||| (cif ((hearC r).2.2 k = 0) (nI 1 <<< (nI (pd r k) &&& 31)) (nI 0))
  rw [cif_t h]
theorem drI_f {r : Nat → Int32} {k : Nat} (h : ¬ (hearC r).2.2 k = 0) : drI r k ||| nI 0 = drI r (k + 1) := by
  show _ = drI r k ||| (cif ((hearC r).2.2 k = 0) (nI 1 <<< (nI (pd r k) &&& 31)) (nI 0))
  rw [cif_f h]
theorem left_no {e L : Nat} (h : L ≤ e) (he : e < 60) : ¬ nI 1 ≤ nI L - nI e := by
  rw [i32_le, pk_sub_toInt (by omega) (by omega), nI_toInt (by omega)]
  omega
set_option maxHeartbeats 4000000 in
set_option maxRecDepth 100000 in
theorem c_L_ends2 (l : Launch) (J : JJ) (z : ZZ) (ad : Nat → Nat) (G : GG) (hz1 : z.2 = 1) (r : Nat → Int32) (n B : Nat) (hv : Hv G r n) (hI : Iv B r) (hB : B + 60 ≤ 99999) {pr : Program} {e : Env} {s : State} {m : MethodId} {args : Array Value} {below : List Frame} {meth : Method} {c : Code} {ls : Array Slot} {Q : State → Prop} {H : Heap} {locs : List Loc} (X : Cx pr c cL_ends s m RL args 14) (h : HG J z ad s G H locs) (hl : lv_has ls 14 [(0, .ref (ad 0)), (1, .long (PR r)), (4, .int (r 3)), (5, .int (nI ((mn r)))), (6, .int (r 8)), (7, .int (r 9)), (8, .int (drI r (mn r))), (9, .int (nI ((cnt (fun q => (hearC r).2.2 q = 0) (mn r)))))])
    (hret : ∀ (v : Int32) (G1 : GG) (H : Heap) (locs : List Loc) (pc : Nat) (ls : Array Slot), v = nI 1 ∧ Hv G1 r (if n = 4 then 3 else n) → HG J z ad s G1 H locs → narrow .boolean (.int v) = .int v → decode cL_ends pc = .ok (.ireturn, 1) → W pr l e (rmD 7 1 12) s m args below meth c H locs 1 12 Q (F0 m pc ls [.int v])) : W pr l e (rmD 7 1 12) s m args below meth c H locs 1 12 Q (F0 m 162 ls [.ref (ad 210)]) := by
  have hx := X.1
  have hb := X.2.1
  have hown := X.2.2.2.1
  have hts := X.2.2.2.2
  have hz : z.2 ≤ 1 := by omega
  have hR := hv.rep
  have h14 := hv.at
  have hW := hI.1.1
  obtain ⟨⟨w1, w2⟩, ⟨w3, w4⟩, ⟨w5, w6⟩, w7, w8⟩ := hI.1.1
  have hnn := hv.2.2.1
  obtain ⟨D0, S0, ee, a0, b0, -, -, ⟨e4, e60⟩, -⟩ := hI.2.2.1
  obtain ⟨m0, L0, -, l1, l2, l3⟩ := hI.2.2.2.1
  refine lv_astore (lv' := [(10, .ref (ad 210)), (0, .ref (ad 0)), (1, .long (PR r)), (4, .int (r 3)), (5, .int (nI ((mn r)))), (6, .int (r 8)), (7, .int (r 9)), (8, .int (drI r (mn r))), (9, .int (nI ((cnt (fun q => (hearC r).2.2 q = 0) (mn r)))))]) hx hb dL_ends_162 hl (by decide) rfl (fun ls hl => ?_)
  refine lv_iconst (v := nI 0) hx hb dL_ends_164 (by decide) ?_
  refine lv_istore (lv' := [(11, .int (nI 0)), (10, .ref (ad 210)), (0, .ref (ad 0)), (1, .long (PR r)), (4, .int (r 3)), (5, .int (nI ((mn r)))), (6, .int (r 8)), (7, .int (r 9)), (8, .int (drI r (mn r))), (9, .int (nI ((cnt (fun q => (hearC r).2.2 q = 0) (mn r)))))]) hx hb dL_ends_165 hl (by decide) rfl (fun ls hl => ?_)
  have LP_167 : ∀ (k_167 i_167 : Nat), (kn r) + 1 ≤ i_167 + k_167 → i_167 ≤ (kn r) → ∀ (Gl : GG) (hv : Hv Gl r n) (ha : ∀ j, j < i_167 → Gl 210 (j + 1000) = r (6 * j + 16)) (H : Heap) (locs : List Loc) (ls : Array Slot), HG J z ad s Gl H locs → lv_has ls 14 [(0, .ref (ad 0)), (1, .long (PR r)), (4, .int (r 3)), (5, .int (nI ((mn r)))), (6, .int (r 8)), (7, .int (r 9)), (8, .int (drI r (mn r))), (9, .int (nI ((cnt (fun q => (hearC r).2.2 q = 0) (mn r))))), (10, .ref (ad 210)), (11, .int (nI i_167))] → W pr l e (rmD 7 1 12) s m args below meth c H locs 1 12 Q (F0 m 167 ls []) := by
    intro k_167
    induction k_167 with
    | zero =>
      intro i_167 g1 g2
      exact absurd g1 (by omega)
    | succ k_167 ih_167 =>
      intro i_167 g1_167 g2_167 Gl hv ha H locs ls h hl
      have hR := hv.rep
      have h14 := hv.at
      refine lv_iload hx hb dL_ends_167 (lv_at hl 9 rfl) ?_
      refine lv_aload_n hx hb dL_ends_169 rfl (lv_at hl 0 rfl) ?_
      refine lv_iconst (v := nI 3) hx hb dL_ends_170 (by decide) ?_
      refine rg_civd (As := [.int (nI 3)]) (rest := [.int (nI i_167)]) X hl.1 h (c_X7_count l J z ad Gl r hR (nI n) (Gl 203 1) h14 rfl (nI 3)) mw_103 mw_104 mw_105 mw_2 mw_106 pdX7_count (by decide) (xo_0 J ad _) rfl rfl ⟨Nat.le_of_ble_eq_true rfl, Nat.le_of_ble_eq_true rfl⟩ ⟨Nat.le_of_ble_eq_true rfl, Nat.le_of_ble_eq_true rfl⟩ rfl (Nat.le_of_ble_eq_true rfl) dL_ends_171 (fun H locs h => ?_)
      refine lv_as (y := nI ((kn r))) (kn_ct hI.1) ?_
      refine lv_icmp_ge (tgt := 195) hx hb dL_ends_174 (by decide) (fun c_174 => ?_) (fun c_174 => ?_)
      · rw [nI_leI (by omega) (by omega)] at c_174
        have ex_167 : i_167 = kn r := by omega
        refine lv_aload_n hx hb dL_ends_195 rfl (lv_at hl 0 rfl) ?_
        refine lv_bipush (v := nI 13) hx hb dL_ends_196 (by decide) ?_
        refine rg_civd (As := [.int (nI 13)]) (rest := []) X hl.1 h (c_X7_count l J z ad Gl r hR (nI n) (Gl 203 1) h14 rfl (nI 13)) mw_103 mw_104 mw_105 mw_2 mw_106 pdX7_count (by decide) (xo_0 J ad _) rfl rfl ⟨Nat.le_of_ble_eq_true rfl, Nat.le_of_ble_eq_true rfl⟩ ⟨Nat.le_of_ble_eq_true rfl, Nat.le_of_ble_eq_true rfl⟩ rfl (Nat.le_of_ble_eq_true rfl) dL_ends_198 (fun H locs h => ?_)
        refine lv_as (y := nI L0) ((ct_at (by omega)).trans l1) ?_
        refine lv_aload_n hx hb dL_ends_201 rfl (lv_at hl 0 rfl) ?_
        refine lv_iconst (v := nI 2) hx hb dL_ends_202 (by decide) ?_
        refine rg_civd (As := [.int (nI 2)]) (rest := [.int (nI L0)]) X hl.1 h (c_X7_count l J z ad Gl r hR (nI n) (Gl 203 1) h14 rfl (nI 2)) mw_103 mw_104 mw_105 mw_2 mw_106 pdX7_count (by decide) (xo_0 J ad _) rfl rfl ⟨Nat.le_of_ble_eq_true rfl, Nat.le_of_ble_eq_true rfl⟩ ⟨Nat.le_of_ble_eq_true rfl, Nat.le_of_ble_eq_true rfl⟩ rfl (Nat.le_of_ble_eq_true rfl) dL_ends_203 (fun H locs h => ?_)
        refine lv_as (y := nI ee) ((ct_at (by omega)).trans e4) ?_
        rcases Nat.lt_or_ge ee L0 with hcase | hcase
        · refine lv_isub hx hb dL_ends_206 ?_
          obtain ⟨T, hT⟩ : ∃ T, T = L0 - ee := ⟨_, rfl⟩
          refine lv_as (y := nI T) (nI_subc (by omega)) ?_
          refine lv_istore (lv' := [(11, .int (nI T)), (0, .ref (ad 0)), (1, .long (PR r)), (4, .int (r 3)), (5, .int (nI ((mn r)))), (6, .int (r 8)), (7, .int (r 9)), (8, .int (drI r (mn r))), (9, .int (nI ((cnt (fun q => (hearC r).2.2 q = 0) (mn r))))), (10, .ref (ad 210))]) hx hb dL_ends_207 hl (by decide) rfl (fun ls hl => ?_)
          refine lv_aload_n hx hb dL_ends_209 rfl (lv_at hl 1 rfl) ?_
          refine lv_iload hx hb dL_ends_210 (lv_at hl 0 rfl) ?_
          refine lv_iconst (v := nI 1) hx hb dL_ends_212 (by decide) ?_
          refine lv_icmp_ge (tgt := 220) hx hb dL_ends_213 (by decide) (fun c_213 => ?_) (fun c_213 => absurd ((nI_leI (by omega) (by omega)).mpr (by omega)) c_213)
          refine lv_iload hx hb dL_ends_220 (lv_at hl 0 rfl) ?_
          have hT2 : (ee < L0 ∧ T = L0 - ee) ∨ (L0 ≤ ee ∧ T = 1) := Or.inl ⟨hcase, hT⟩
          refine rg_civ (As := [.int (nI T)]) (rest := []) X hl.1 h (k_X7_pass l J z ad Gl n hv.2.1 hv.2.2.1 hv.1 r hv.2.2.2.2 (nI T)) mw_331 mw_332 mw_333 mw_2 mw_334 pdX7_pass (by decide) (xo_0 J ad _) rfl rfl ⟨Nat.le_of_ble_eq_true rfl, Nat.le_of_ble_eq_true rfl⟩ ⟨Nat.le_of_ble_eq_true rfl, Nat.le_of_ble_eq_true rfl⟩ rfl (Nat.le_of_ble_eq_true rfl) dL_ends_222 (fun r1 G1 H locs q1 h => ?_)
          obtain ⟨ea_222, G1_, hp_222, hv_222, ht_222, har_222⟩ := Hv_act hv ((edR_hi hI.1.1 (nI T)).cn hv.2.2.2.1) q1
          have h := HG.ph h hz hp_222
          refine lv_as (y := edA r (nI T)) ea_222 ?_
          obtain ⟨pe1, pe0, pe3, pe4, pe6, pe8, pe9, pe14, pe16, peI⟩ := pass_end hI hB e4 e60 l1 l2 l3 hT2
          have hcm := cnt_le (fun q => (hearC r).2.2 q = 0) (mn r)
          have hA0 : 0 ≤ edA r (nI T) := by rw [pe1]; exact nI_pos' (by omega)
          rw [nx_pos hA0] at hv_222 ht_222
          have htp := ht_222 hA0
          have hv1 := hv_222
          have hR1 := hv1.rep
          have h141 := hv1.at
          have hk1 : kn (edR r (nI T)) = kn r := by unfold kn; rw [pe0 5 (by omega) (by omega)]
          have hm1 : mn (edR r (nI T)) = 0 := by unfold mn; rw [pe6]; exact tn_nI (by omega)
          have w2y : kn (edR r (nI T)) ≤ 12 := by omega
          have w4y : mn (edR r (nI T)) ≤ 12 := by omega
          refine lv_as (y := nI (cnt (fun q => (hearC r).2.2 q = 0) (mn r))) pe1 ?_
          refine lv_iload hx hb dL_ends_225 (lv_at hl 8 rfl) ?_
          refine lv_icmp_ne (tgt := 294) hx hb dL_ends_227 (by decide) (fun c_227 => absurd (rfl) c_227) (fun c_227 => ?_)
          refine lv_aload_n hx hb dL_ends_230 rfl (lv_at hl 1 rfl) ?_
          refine lv_iconst (v := nI 1) hx hb dL_ends_231 (by decide) ?_
          refine rg_civd (As := [.int (nI 1)]) (rest := []) X hl.1 h (c_X7_count l J z ad G1_ (edR r (nI T)) hR1 (nI (if n = 4 then 4 else n + 1)) (G1_ 203 1) h141 rfl (nI 1)) mw_103 mw_104 mw_105 mw_2 mw_106 pdX7_count (by decide) (xo_0 J ad _) rfl rfl ⟨Nat.le_of_ble_eq_true rfl, Nat.le_of_ble_eq_true rfl⟩ ⟨Nat.le_of_ble_eq_true rfl, Nat.le_of_ble_eq_true rfl⟩ rfl (Nat.le_of_ble_eq_true rfl) dL_ends_232 (fun H locs h => ?_)
          refine lv_as (y := (edR r (nI T)) 3) (ct_at (by omega)) ?_
          refine lv_iload hx hb dL_ends_235 (lv_at hl 3 rfl) ?_
          refine lv_iconst (v := nI 1) hx hb dL_ends_237 (by decide) ?_
          refine lv_iadd hx hb dL_ends_238 ?_
          refine lv_icmp_ne (tgt := 294) hx hb dL_ends_239 (by decide) (fun c_239 => absurd (pe3) c_239) (fun c_239 => ?_)
          refine lv_aload_n hx hb dL_ends_242 rfl (lv_at hl 1 rfl) ?_
          refine lv_iconst (v := nI 2) hx hb dL_ends_243 (by decide) ?_
          refine rg_civd (As := [.int (nI 2)]) (rest := []) X hl.1 h (c_X7_count l J z ad G1_ (edR r (nI T)) hR1 (nI (if n = 4 then 4 else n + 1)) (G1_ 203 1) h141 rfl (nI 2)) mw_103 mw_104 mw_105 mw_2 mw_106 pdX7_count (by decide) (xo_0 J ad _) rfl rfl ⟨Nat.le_of_ble_eq_true rfl, Nat.le_of_ble_eq_true rfl⟩ ⟨Nat.le_of_ble_eq_true rfl, Nat.le_of_ble_eq_true rfl⟩ rfl (Nat.le_of_ble_eq_true rfl) dL_ends_244 (fun H locs h => ?_)
          refine lv_as (y := (edR r (nI T)) 4) (ct_at (by omega)) ?_
          refine lv_if_ne (tgt := 294) hx hb dL_ends_247 (by decide) (fun c_247 => absurd (pe4) c_247) (fun c_247 => ?_)
          refine lv_aload_n hx hb dL_ends_250 rfl (lv_at hl 1 rfl) ?_
          refine lv_bipush (v := nI 6) hx hb dL_ends_251 (by decide) ?_
          refine rg_civd (As := [.int (nI 6)]) (rest := []) X hl.1 h (c_X7_count l J z ad G1_ (edR r (nI T)) hR1 (nI (if n = 4 then 4 else n + 1)) (G1_ 203 1) h141 rfl (nI 6)) mw_103 mw_104 mw_105 mw_2 mw_106 pdX7_count (by decide) (xo_0 J ad _) rfl rfl ⟨Nat.le_of_ble_eq_true rfl, Nat.le_of_ble_eq_true rfl⟩ ⟨Nat.le_of_ble_eq_true rfl, Nat.le_of_ble_eq_true rfl⟩ rfl (Nat.le_of_ble_eq_true rfl) dL_ends_253 (fun H locs h => ?_)
          refine lv_as (y := nI 0) ((mn_ct peI.1).trans (congrArg nI hm1)) ?_
          refine lv_if_ne (tgt := 294) hx hb dL_ends_256 (by decide) (fun c_256 => absurd (by decide) c_256) (fun c_256 => ?_)
          refine lv_aload_n hx hb dL_ends_259 rfl (lv_at hl 1 rfl) ?_
          refine lv_bipush (v := nI 8) hx hb dL_ends_260 (by decide) ?_
          refine rg_civd (As := [.int (nI 8)]) (rest := []) X hl.1 h (c_X7_count l J z ad G1_ (edR r (nI T)) hR1 (nI (if n = 4 then 4 else n + 1)) (G1_ 203 1) h141 rfl (nI 8)) mw_103 mw_104 mw_105 mw_2 mw_106 pdX7_count (by decide) (xo_0 J ad _) rfl rfl ⟨Nat.le_of_ble_eq_true rfl, Nat.le_of_ble_eq_true rfl⟩ ⟨Nat.le_of_ble_eq_true rfl, Nat.le_of_ble_eq_true rfl⟩ rfl (Nat.le_of_ble_eq_true rfl) dL_ends_262 (fun H locs h => ?_)
          refine lv_as (y := (edR r (nI T)) 8) (ct_at (by omega)) ?_
          refine lv_iload hx hb dL_ends_265 (lv_at hl 5 rfl) ?_
          refine lv_iload hx hb dL_ends_267 (lv_at hl 8 rfl) ?_
          refine lv_iadd hx hb dL_ends_269 ?_
          refine lv_icmp_ne (tgt := 294) hx hb dL_ends_270 (by decide) (fun c_270 => absurd (pe8) c_270) (fun c_270 => ?_)
          refine lv_aload_n hx hb dL_ends_273 rfl (lv_at hl 1 rfl) ?_
          refine lv_bipush (v := nI 9) hx hb dL_ends_274 (by decide) ?_
          refine rg_civd (As := [.int (nI 9)]) (rest := []) X hl.1 h (c_X7_count l J z ad G1_ (edR r (nI T)) hR1 (nI (if n = 4 then 4 else n + 1)) (G1_ 203 1) h141 rfl (nI 9)) mw_103 mw_104 mw_105 mw_2 mw_106 pdX7_count (by decide) (xo_0 J ad _) rfl rfl ⟨Nat.le_of_ble_eq_true rfl, Nat.le_of_ble_eq_true rfl⟩ ⟨Nat.le_of_ble_eq_true rfl, Nat.le_of_ble_eq_true rfl⟩ rfl (Nat.le_of_ble_eq_true rfl) dL_ends_276 (fun H locs h => ?_)
          refine lv_as (y := (edR r (nI T)) 9) (ct_at (by omega)) ?_
          refine lv_iload hx hb dL_ends_279 (lv_at hl 6 rfl) ?_
          refine lv_iload hx hb dL_ends_281 (lv_at hl 4 rfl) ?_
          refine lv_iadd hx hb dL_ends_283 ?_
          refine lv_iload hx hb dL_ends_284 (lv_at hl 8 rfl) ?_
          refine lv_isub hx hb dL_ends_286 ?_
          refine lv_icmp_ne (tgt := 294) hx hb dL_ends_287 (by decide) (fun c_287 => absurd (pe9.trans (i32_as _ _ _).symm) c_287) (fun c_287 => ?_)
          refine lv_iconst (v := nI 1) hx hb dL_ends_290 (by decide) ?_
          refine lv_goto (tgt := 295) hx hb dL_ends_291 (by decide) ?_
          refine lv_istore (lv' := [(12, .int (nI 1)), (11, .int (nI T)), (0, .ref (ad 0)), (1, .long (PR r)), (4, .int (r 3)), (5, .int (nI ((mn r)))), (6, .int (r 8)), (7, .int (r 9)), (8, .int (drI r (mn r))), (9, .int (nI ((cnt (fun q => (hearC r).2.2 q = 0) (mn r))))), (10, .ref (ad 210))]) hx hb dL_ends_295 hl (by decide) rfl (fun ls hl => ?_)
          refine lv_iconst (v := nI 0) hx hb dL_ends_297 (by decide) ?_
          refine lv_istore (lv' := [(13, .int (nI 0)), (12, .int (nI 1)), (11, .int (nI T)), (0, .ref (ad 0)), (1, .long (PR r)), (4, .int (r 3)), (5, .int (nI ((mn r)))), (6, .int (r 8)), (7, .int (r 9)), (8, .int (drI r (mn r))), (9, .int (nI ((cnt (fun q => (hearC r).2.2 q = 0) (mn r))))), (10, .ref (ad 210))]) hx hb dL_ends_298 hl (by decide) rfl (fun ls hl => ?_)
          have LP_300 : ∀ (k_300 i_300 : Nat), (kn r) + 1 ≤ i_300 + k_300 → i_300 ≤ (kn r) → ∀ (H : Heap) (locs : List Loc) (ls : Array Slot), HG J z ad s G1_ H locs → lv_has ls 14 [(0, .ref (ad 0)), (1, .long (PR r)), (8, .int (drI r (mn r))), (10, .ref (ad 210)), (12, .int (nI 1)), (13, .int (nI i_300))] → W pr l e (rmD 7 1 12) s m args below meth c H locs 1 12 Q (F0 m 300 ls []) := by
            intro k_300
            induction k_300 with
            | zero =>
              intro i_300 g1 g2
              exact absurd g1 (by omega)
            | succ k_300 ih_300 =>
              intro i_300 g1_300 g2_300  H locs ls h hl
              refine lv_iload hx hb dL_ends_300 (lv_at hl 5 rfl) ?_
              refine lv_aload_n hx hb dL_ends_302 rfl (lv_at hl 0 rfl) ?_
              refine lv_iconst (v := nI 3) hx hb dL_ends_303 (by decide) ?_
              refine rg_civd (As := [.int (nI 3)]) (rest := [.int (nI i_300)]) X hl.1 h (c_X7_count l J z ad G1_ (edR r (nI T)) hR1 (nI (if n = 4 then 4 else n + 1)) (G1_ 203 1) h141 rfl (nI 3)) mw_103 mw_104 mw_105 mw_2 mw_106 pdX7_count (by decide) (xo_0 J ad _) rfl rfl ⟨Nat.le_of_ble_eq_true rfl, Nat.le_of_ble_eq_true rfl⟩ ⟨Nat.le_of_ble_eq_true rfl, Nat.le_of_ble_eq_true rfl⟩ rfl (Nat.le_of_ble_eq_true rfl) dL_ends_304 (fun H locs h => ?_)
              refine lv_as (y := nI ((kn r))) ((kn_ct peI.1).trans (congrArg nI hk1)) ?_
              refine lv_icmp_ge (tgt := 363) hx hb dL_ends_307 (by decide) (fun c_307 => ?_) (fun c_307 => ?_)
              · rw [nI_leI (by omega) (by omega)] at c_307
                refine lv_iload hx hb dL_ends_363 (lv_at hl 4 rfl) ?_
                refine lv_if_eq (tgt := 395) hx hb dL_ends_365 (by decide) (fun c_365 => absurd c_365 (by decide)) (fun c_365 => ?_)
                refine lv_aload_n hx hb dL_ends_368 rfl (lv_at hl 0 rfl) ?_
                refine rg_cisd (As := [.ref (ad 0)]) (rest := []) X hl.1 h (c_L_hangs l J z ad G1_ hz (edR r (nI T)) (if n = 4 then 4 else n + 1) (B + 60) hv1 peI hB) mw_99 mw_100 mw_101 mw_102 pdL_hangs ⟨Nat.le_of_ble_eq_true rfl, Nat.le_of_ble_eq_true rfl⟩ ⟨Nat.le_of_ble_eq_true rfl, Nat.le_of_ble_eq_true rfl⟩ rfl (Nat.le_of_ble_eq_true rfl) dL_ends_369 (fun H locs h => ?_)
                refine lv_if_eq (tgt := 395) hx hb dL_ends_372 (by decide) (fun c_372 => absurd c_372 (by decide)) (fun c_372 => ?_)
                refine lv_aload_n hx hb dL_ends_375 rfl (lv_at hl 0 rfl) ?_
                refine rg_civ (As := []) (rest := []) X hl.1 h (c_X7_undo l J z ad G1_ (if n = 4 then 4 else n + 1) hv1.2.1 hv1.2.2.1 hv1.1) mw_368 mw_369 mw_370 mw_2 mw_371 pdX7_undo (by decide) (xo_0 J ad _) rfl rfl ⟨Nat.le_of_ble_eq_true rfl, Nat.le_of_ble_eq_true rfl⟩ ⟨Nat.le_of_ble_eq_true rfl, Nat.le_of_ble_eq_true rfl⟩ rfl (Nat.le_of_ble_eq_true rfl) dL_ends_376 (fun r2 G2 H locs q2 h => ?_)
                obtain ⟨ea_376, G2_, hp_376, hv_376, har_376⟩ := Hv_undo hv1 htp q2
                have h := HG.ph h hz hp_376
                refine lv_as (y := nI (if n = 4 then 3 else n)) (ea_376.trans (congrArg nI (by split <;> omega))) ?_
                have hv := hv_376
                rw [show (if n = 4 then 4 else n + 1) - 1 = (if n = 4 then 3 else n) by split <;> omega] at hv
                refine lv_if_lt (tgt := 395) hx hb dL_ends_379 (by decide) (fun c_379 => absurd c_379 (nI_nn (by split <;> omega))) (fun c_379 => ?_)
                refine lv_aload_n hx hb dL_ends_382 rfl (lv_at hl 0 rfl) ?_
                refine rg_cisl (As := [.ref (ad 0)]) (rest := []) X hl.1 h (c_L_print l J z ad G2_ hz r (if n = 4 then 3 else n) B hv hI) mw_257 mw_258 mw_101 mw_259 pdL_print ⟨Nat.le_of_ble_eq_true rfl, Nat.le_of_ble_eq_true rfl⟩ ⟨Nat.le_of_ble_eq_true rfl, Nat.le_of_ble_eq_true rfl⟩ rfl (Nat.le_of_ble_eq_true rfl) dL_ends_383 (fun H locs h => ?_)
                refine lv_lload_n hx hb dL_ends_386 rfl (lv_at hl 1 rfl) ?_
                refine W.lcmp hx hb dL_ends_387 ?_
                refine lv_if_ne (tgt := 395) hx hb dL_ends_388 (by decide) (fun c_388 => absurd (lg_self _) c_388) (fun c_388 => ?_)
                refine lv_iconst (v := nI 1) hx hb dL_ends_391 (by decide) ?_
                refine lv_goto (tgt := 396) hx hb dL_ends_392 (by decide) ?_
                exact hret (nI 1) G2_ _ _ 396 _ (⟨rfl, hv⟩) h rfl dL_ends_396
              · rw [nI_leI (by omega) (by omega)] at c_307
                refine lv_iload hx hb dL_ends_310 (lv_at hl 4 rfl) ?_
                refine lv_if_eq (tgt := 354) hx hb dL_ends_312 (by decide) (fun c_312 => absurd c_312 (by decide)) (fun c_312 => ?_)
                refine lv_aload_n hx hb dL_ends_315 rfl (lv_at hl 0 rfl) ?_
                refine lv_iload hx hb dL_ends_316 (lv_at hl 5 rfl) ?_
                refine lv_iconst (v := nI 5) hx hb dL_ends_318 (by decide) ?_
                refine rg_civd (As := [.int (nI i_300), .int (nI 5)]) (rest := []) X hl.1 h (c_X7_drone l J z ad G1_ (edR r (nI T)) hR1 (nI i_300) (nI 5)) mw_176 mw_177 mw_178 mw_2 mw_179 pdX7_drone (by decide) (xo_0 J ad _) rfl rfl ⟨Nat.le_of_ble_eq_true rfl, Nat.le_of_ble_eq_true rfl⟩ ⟨Nat.le_of_ble_eq_true rfl, Nat.le_of_ble_eq_true rfl⟩ rfl (Nat.le_of_ble_eq_true rfl) dL_ends_319 (fun H locs h => ?_)
                refine lv_as (y := (edR r (nI T)) (6 * i_300 + 16)) ((dr_hi w2y (by omega) (by omega) (by omega)).trans (congrArg (edR r (nI T)) (by omega))) ?_
                refine lv_aload hx hb dL_ends_322 (lv_at hl 3 rfl) ?_
                refine lv_iload hx hb dL_ends_324 (lv_at hl 5 rfl) ?_
                refine rw_ild X h 210 (by omega) (f := fun j => G1_ 210 (j + 1000)) (N := 12) rfl i_300 rfl (by omega) (by decide) dL_ends_326 ?_
                refine lv_as (y := r (6 * i_300 + 16)) ((har_222 _ (by omega)).trans (ha i_300 (by omega))) ?_
                refine lv_iload hx hb dL_ends_327 (lv_at hl 2 rfl) ?_
                refine lv_iload hx hb dL_ends_329 (lv_at hl 5 rfl) ?_
                refine lv_ishr hx hb dL_ends_331 ?_
                refine lv_iconst (v := nI 1) hx hb dL_ends_332 (by decide) ?_
                refine lv_iand hx hb dL_ends_333 ?_
                refine lv_iadd hx hb dL_ends_334 ?_
                refine lv_icmp_ne (tgt := 354) hx hb dL_ends_335 (by decide) (fun c_335 => absurd ((pe16 i_300 (by omega)).trans (congrArg (r (6 * i_300 + 16) + ·) (dr_eq hI.1 (by omega)).symm)) c_335) (fun c_335 => ?_)
                refine lv_aload_n hx hb dL_ends_338 rfl (lv_at hl 0 rfl) ?_
                refine lv_iload hx hb dL_ends_339 (lv_at hl 5 rfl) ?_
                refine lv_iconst (v := nI 2) hx hb dL_ends_341 (by decide) ?_
                refine rg_civd (As := [.int (nI i_300), .int (nI 2)]) (rest := []) X hl.1 h (c_X7_drone l J z ad G1_ (edR r (nI T)) hR1 (nI i_300) (nI 2)) mw_176 mw_177 mw_178 mw_2 mw_179 pdX7_drone (by decide) (xo_0 J ad _) rfl rfl ⟨Nat.le_of_ble_eq_true rfl, Nat.le_of_ble_eq_true rfl⟩ ⟨Nat.le_of_ble_eq_true rfl, Nat.le_of_ble_eq_true rfl⟩ rfl (Nat.le_of_ble_eq_true rfl) dL_ends_342 (fun H locs h => ?_)
                refine lv_as (y := (-5)) (((dr_lo w2y (by omega) (by omega)).trans (congrArg _ (by omega))).trans (pe14 i_300 (by omega))) ?_
                refine lv_bipush (v := (-5)) hx hb dL_ends_345 (by decide) ?_
                refine lv_icmp_ne (tgt := 354) hx hb dL_ends_347 (by decide) (fun c_347 => absurd (by decide) c_347) (fun c_347 => ?_)
                refine lv_iconst (v := nI 1) hx hb dL_ends_350 (by decide) ?_
                refine lv_goto (tgt := 355) hx hb dL_ends_351 (by decide) ?_
                refine lv_istore (lv' := [(12, .int (nI 1)), (0, .ref (ad 0)), (1, .long (PR r)), (8, .int (drI r (mn r))), (10, .ref (ad 210)), (13, .int (nI i_300))]) hx hb dL_ends_355 hl (by decide) rfl (fun ls hl => ?_)
                refine lv_iinc (v := nI (i_300 + 1)) (lv' := [(13, .int (nI (i_300 + 1))), (12, .int (nI 1)), (0, .ref (ad 0)), (1, .long (PR r)), (8, .int (drI r (mn r))), (10, .ref (ad 210))]) hx hb dL_ends_357 hl (k := 5) rfl (nI_addc (b := 1) (by omega)) (by decide) rfl (fun ls hl => ?_)
                refine lv_goto (tgt := 300) hx hb dL_ends_360 (by decide) ?_
                exact ih_300 (i_300 + 1) (by omega) (by omega) _ _ _ h (lv_sub hl [2, 3, 4, 5, 1, 0] rfl)
          exact LP_300 ((kn r) + 1) 0 (by omega) (by omega) _ _ _ h (lv_sub hl [3, 4, 9, 11, 1, 0] rfl)
        · refine lv_isub hx hb dL_ends_206 ?_
          refine lv_istore (lv' := [(11, .int (nI L0 - nI ee)), (0, .ref (ad 0)), (1, .long (PR r)), (4, .int (r 3)), (5, .int (nI ((mn r)))), (6, .int (r 8)), (7, .int (r 9)), (8, .int (drI r (mn r))), (9, .int (nI ((cnt (fun q => (hearC r).2.2 q = 0) (mn r))))), (10, .ref (ad 210))]) hx hb dL_ends_207 hl (by decide) rfl (fun ls hl => ?_)
          refine lv_aload_n hx hb dL_ends_209 rfl (lv_at hl 1 rfl) ?_
          refine lv_iload hx hb dL_ends_210 (lv_at hl 0 rfl) ?_
          refine lv_iconst (v := nI 1) hx hb dL_ends_212 (by decide) ?_
          refine lv_icmp_ge (tgt := 220) hx hb dL_ends_213 (by decide) (fun c_213 => absurd c_213 (left_no hcase e60)) (fun c_213 => ?_)
          refine lv_iconst (v := nI 1) hx hb dL_ends_216 (by decide) ?_
          refine lv_goto (tgt := 222) hx hb dL_ends_217 (by decide) ?_
          obtain ⟨T, hT⟩ : ∃ T, T = 1 := ⟨_, rfl⟩
          have hT2 : (ee < L0 ∧ T = L0 - ee) ∨ (L0 ≤ ee ∧ T = 1) := Or.inr ⟨hcase, hT⟩
          refine lv_as (y := nI T) (congrArg nI hT.symm) ?_
          refine rg_civ (As := [.int (nI T)]) (rest := []) X hl.1 h (k_X7_pass l J z ad Gl n hv.2.1 hv.2.2.1 hv.1 r hv.2.2.2.2 (nI T)) mw_331 mw_332 mw_333 mw_2 mw_334 pdX7_pass (by decide) (xo_0 J ad _) rfl rfl ⟨Nat.le_of_ble_eq_true rfl, Nat.le_of_ble_eq_true rfl⟩ ⟨Nat.le_of_ble_eq_true rfl, Nat.le_of_ble_eq_true rfl⟩ rfl (Nat.le_of_ble_eq_true rfl) dL_ends_222 (fun r3 G3 H locs q3 h => ?_)
          obtain ⟨ea_222, G3_, hp_222, hv_222, ht_222, har_222⟩ := Hv_act hv ((edR_hi hI.1.1 (nI T)).cn hv.2.2.2.1) q3
          have h := HG.ph h hz hp_222
          refine lv_as (y := edA r (nI T)) ea_222 ?_
          obtain ⟨pe1, pe0, pe3, pe4, pe6, pe8, pe9, pe14, pe16, peI⟩ := pass_end hI hB e4 e60 l1 l2 l3 hT2
          have hcm := cnt_le (fun q => (hearC r).2.2 q = 0) (mn r)
          have hA0 : 0 ≤ edA r (nI T) := by rw [pe1]; exact nI_pos' (by omega)
          rw [nx_pos hA0] at hv_222 ht_222
          have htp := ht_222 hA0
          have hv1 := hv_222
          have hR1 := hv1.rep
          have h141 := hv1.at
          have hk1 : kn (edR r (nI T)) = kn r := by unfold kn; rw [pe0 5 (by omega) (by omega)]
          have hm1 : mn (edR r (nI T)) = 0 := by unfold mn; rw [pe6]; exact tn_nI (by omega)
          have w2y : kn (edR r (nI T)) ≤ 12 := by omega
          have w4y : mn (edR r (nI T)) ≤ 12 := by omega
          refine lv_as (y := nI (cnt (fun q => (hearC r).2.2 q = 0) (mn r))) pe1 ?_
          refine lv_iload hx hb dL_ends_225 (lv_at hl 8 rfl) ?_
          refine lv_icmp_ne (tgt := 294) hx hb dL_ends_227 (by decide) (fun c_227 => absurd (rfl) c_227) (fun c_227 => ?_)
          refine lv_aload_n hx hb dL_ends_230 rfl (lv_at hl 1 rfl) ?_
          refine lv_iconst (v := nI 1) hx hb dL_ends_231 (by decide) ?_
          refine rg_civd (As := [.int (nI 1)]) (rest := []) X hl.1 h (c_X7_count l J z ad G3_ (edR r (nI T)) hR1 (nI (if n = 4 then 4 else n + 1)) (G3_ 203 1) h141 rfl (nI 1)) mw_103 mw_104 mw_105 mw_2 mw_106 pdX7_count (by decide) (xo_0 J ad _) rfl rfl ⟨Nat.le_of_ble_eq_true rfl, Nat.le_of_ble_eq_true rfl⟩ ⟨Nat.le_of_ble_eq_true rfl, Nat.le_of_ble_eq_true rfl⟩ rfl (Nat.le_of_ble_eq_true rfl) dL_ends_232 (fun H locs h => ?_)
          refine lv_as (y := (edR r (nI T)) 3) (ct_at (by omega)) ?_
          refine lv_iload hx hb dL_ends_235 (lv_at hl 3 rfl) ?_
          refine lv_iconst (v := nI 1) hx hb dL_ends_237 (by decide) ?_
          refine lv_iadd hx hb dL_ends_238 ?_
          refine lv_icmp_ne (tgt := 294) hx hb dL_ends_239 (by decide) (fun c_239 => absurd (pe3) c_239) (fun c_239 => ?_)
          refine lv_aload_n hx hb dL_ends_242 rfl (lv_at hl 1 rfl) ?_
          refine lv_iconst (v := nI 2) hx hb dL_ends_243 (by decide) ?_
          refine rg_civd (As := [.int (nI 2)]) (rest := []) X hl.1 h (c_X7_count l J z ad G3_ (edR r (nI T)) hR1 (nI (if n = 4 then 4 else n + 1)) (G3_ 203 1) h141 rfl (nI 2)) mw_103 mw_104 mw_105 mw_2 mw_106 pdX7_count (by decide) (xo_0 J ad _) rfl rfl ⟨Nat.le_of_ble_eq_true rfl, Nat.le_of_ble_eq_true rfl⟩ ⟨Nat.le_of_ble_eq_true rfl, Nat.le_of_ble_eq_true rfl⟩ rfl (Nat.le_of_ble_eq_true rfl) dL_ends_244 (fun H locs h => ?_)
          refine lv_as (y := (edR r (nI T)) 4) (ct_at (by omega)) ?_
          refine lv_if_ne (tgt := 294) hx hb dL_ends_247 (by decide) (fun c_247 => absurd (pe4) c_247) (fun c_247 => ?_)
          refine lv_aload_n hx hb dL_ends_250 rfl (lv_at hl 1 rfl) ?_
          refine lv_bipush (v := nI 6) hx hb dL_ends_251 (by decide) ?_
          refine rg_civd (As := [.int (nI 6)]) (rest := []) X hl.1 h (c_X7_count l J z ad G3_ (edR r (nI T)) hR1 (nI (if n = 4 then 4 else n + 1)) (G3_ 203 1) h141 rfl (nI 6)) mw_103 mw_104 mw_105 mw_2 mw_106 pdX7_count (by decide) (xo_0 J ad _) rfl rfl ⟨Nat.le_of_ble_eq_true rfl, Nat.le_of_ble_eq_true rfl⟩ ⟨Nat.le_of_ble_eq_true rfl, Nat.le_of_ble_eq_true rfl⟩ rfl (Nat.le_of_ble_eq_true rfl) dL_ends_253 (fun H locs h => ?_)
          refine lv_as (y := nI 0) ((mn_ct peI.1).trans (congrArg nI hm1)) ?_
          refine lv_if_ne (tgt := 294) hx hb dL_ends_256 (by decide) (fun c_256 => absurd (by decide) c_256) (fun c_256 => ?_)
          refine lv_aload_n hx hb dL_ends_259 rfl (lv_at hl 1 rfl) ?_
          refine lv_bipush (v := nI 8) hx hb dL_ends_260 (by decide) ?_
          refine rg_civd (As := [.int (nI 8)]) (rest := []) X hl.1 h (c_X7_count l J z ad G3_ (edR r (nI T)) hR1 (nI (if n = 4 then 4 else n + 1)) (G3_ 203 1) h141 rfl (nI 8)) mw_103 mw_104 mw_105 mw_2 mw_106 pdX7_count (by decide) (xo_0 J ad _) rfl rfl ⟨Nat.le_of_ble_eq_true rfl, Nat.le_of_ble_eq_true rfl⟩ ⟨Nat.le_of_ble_eq_true rfl, Nat.le_of_ble_eq_true rfl⟩ rfl (Nat.le_of_ble_eq_true rfl) dL_ends_262 (fun H locs h => ?_)
          refine lv_as (y := (edR r (nI T)) 8) (ct_at (by omega)) ?_
          refine lv_iload hx hb dL_ends_265 (lv_at hl 5 rfl) ?_
          refine lv_iload hx hb dL_ends_267 (lv_at hl 8 rfl) ?_
          refine lv_iadd hx hb dL_ends_269 ?_
          refine lv_icmp_ne (tgt := 294) hx hb dL_ends_270 (by decide) (fun c_270 => absurd (pe8) c_270) (fun c_270 => ?_)
          refine lv_aload_n hx hb dL_ends_273 rfl (lv_at hl 1 rfl) ?_
          refine lv_bipush (v := nI 9) hx hb dL_ends_274 (by decide) ?_
          refine rg_civd (As := [.int (nI 9)]) (rest := []) X hl.1 h (c_X7_count l J z ad G3_ (edR r (nI T)) hR1 (nI (if n = 4 then 4 else n + 1)) (G3_ 203 1) h141 rfl (nI 9)) mw_103 mw_104 mw_105 mw_2 mw_106 pdX7_count (by decide) (xo_0 J ad _) rfl rfl ⟨Nat.le_of_ble_eq_true rfl, Nat.le_of_ble_eq_true rfl⟩ ⟨Nat.le_of_ble_eq_true rfl, Nat.le_of_ble_eq_true rfl⟩ rfl (Nat.le_of_ble_eq_true rfl) dL_ends_276 (fun H locs h => ?_)
          refine lv_as (y := (edR r (nI T)) 9) (ct_at (by omega)) ?_
          refine lv_iload hx hb dL_ends_279 (lv_at hl 6 rfl) ?_
          refine lv_iload hx hb dL_ends_281 (lv_at hl 4 rfl) ?_
          refine lv_iadd hx hb dL_ends_283 ?_
          refine lv_iload hx hb dL_ends_284 (lv_at hl 8 rfl) ?_
          refine lv_isub hx hb dL_ends_286 ?_
          refine lv_icmp_ne (tgt := 294) hx hb dL_ends_287 (by decide) (fun c_287 => absurd (pe9.trans (i32_as _ _ _).symm) c_287) (fun c_287 => ?_)
          refine lv_iconst (v := nI 1) hx hb dL_ends_290 (by decide) ?_
          refine lv_goto (tgt := 295) hx hb dL_ends_291 (by decide) ?_
          refine lv_istore (lv' := [(12, .int (nI 1)), (11, .int (nI L0 - nI ee)), (0, .ref (ad 0)), (1, .long (PR r)), (4, .int (r 3)), (5, .int (nI ((mn r)))), (6, .int (r 8)), (7, .int (r 9)), (8, .int (drI r (mn r))), (9, .int (nI ((cnt (fun q => (hearC r).2.2 q = 0) (mn r))))), (10, .ref (ad 210))]) hx hb dL_ends_295 hl (by decide) rfl (fun ls hl => ?_)
          refine lv_iconst (v := nI 0) hx hb dL_ends_297 (by decide) ?_
          refine lv_istore (lv' := [(13, .int (nI 0)), (12, .int (nI 1)), (11, .int (nI L0 - nI ee)), (0, .ref (ad 0)), (1, .long (PR r)), (4, .int (r 3)), (5, .int (nI ((mn r)))), (6, .int (r 8)), (7, .int (r 9)), (8, .int (drI r (mn r))), (9, .int (nI ((cnt (fun q => (hearC r).2.2 q = 0) (mn r))))), (10, .ref (ad 210))]) hx hb dL_ends_298 hl (by decide) rfl (fun ls hl => ?_)
          have LP_300 : ∀ (k_300 i_300 : Nat), (kn r) + 1 ≤ i_300 + k_300 → i_300 ≤ (kn r) → ∀ (H : Heap) (locs : List Loc) (ls : Array Slot), HG J z ad s G3_ H locs → lv_has ls 14 [(0, .ref (ad 0)), (1, .long (PR r)), (8, .int (drI r (mn r))), (10, .ref (ad 210)), (12, .int (nI 1)), (13, .int (nI i_300))] → W pr l e (rmD 7 1 12) s m args below meth c H locs 1 12 Q (F0 m 300 ls []) := by
            intro k_300
            induction k_300 with
            | zero =>
              intro i_300 g1 g2
              exact absurd g1 (by omega)
            | succ k_300 ih_300 =>
              intro i_300 g1_300 g2_300  H locs ls h hl
              refine lv_iload hx hb dL_ends_300 (lv_at hl 5 rfl) ?_
              refine lv_aload_n hx hb dL_ends_302 rfl (lv_at hl 0 rfl) ?_
              refine lv_iconst (v := nI 3) hx hb dL_ends_303 (by decide) ?_
              refine rg_civd (As := [.int (nI 3)]) (rest := [.int (nI i_300)]) X hl.1 h (c_X7_count l J z ad G3_ (edR r (nI T)) hR1 (nI (if n = 4 then 4 else n + 1)) (G3_ 203 1) h141 rfl (nI 3)) mw_103 mw_104 mw_105 mw_2 mw_106 pdX7_count (by decide) (xo_0 J ad _) rfl rfl ⟨Nat.le_of_ble_eq_true rfl, Nat.le_of_ble_eq_true rfl⟩ ⟨Nat.le_of_ble_eq_true rfl, Nat.le_of_ble_eq_true rfl⟩ rfl (Nat.le_of_ble_eq_true rfl) dL_ends_304 (fun H locs h => ?_)
              refine lv_as (y := nI ((kn r))) ((kn_ct peI.1).trans (congrArg nI hk1)) ?_
              refine lv_icmp_ge (tgt := 363) hx hb dL_ends_307 (by decide) (fun c_307 => ?_) (fun c_307 => ?_)
              · rw [nI_leI (by omega) (by omega)] at c_307
                refine lv_iload hx hb dL_ends_363 (lv_at hl 4 rfl) ?_
                refine lv_if_eq (tgt := 395) hx hb dL_ends_365 (by decide) (fun c_365 => absurd c_365 (by decide)) (fun c_365 => ?_)
                refine lv_aload_n hx hb dL_ends_368 rfl (lv_at hl 0 rfl) ?_
                refine rg_cisd (As := [.ref (ad 0)]) (rest := []) X hl.1 h (c_L_hangs l J z ad G3_ hz (edR r (nI T)) (if n = 4 then 4 else n + 1) (B + 60) hv1 peI hB) mw_99 mw_100 mw_101 mw_102 pdL_hangs ⟨Nat.le_of_ble_eq_true rfl, Nat.le_of_ble_eq_true rfl⟩ ⟨Nat.le_of_ble_eq_true rfl, Nat.le_of_ble_eq_true rfl⟩ rfl (Nat.le_of_ble_eq_true rfl) dL_ends_369 (fun H locs h => ?_)
                refine lv_if_eq (tgt := 395) hx hb dL_ends_372 (by decide) (fun c_372 => absurd c_372 (by decide)) (fun c_372 => ?_)
                refine lv_aload_n hx hb dL_ends_375 rfl (lv_at hl 0 rfl) ?_
                refine rg_civ (As := []) (rest := []) X hl.1 h (c_X7_undo l J z ad G3_ (if n = 4 then 4 else n + 1) hv1.2.1 hv1.2.2.1 hv1.1) mw_368 mw_369 mw_370 mw_2 mw_371 pdX7_undo (by decide) (xo_0 J ad _) rfl rfl ⟨Nat.le_of_ble_eq_true rfl, Nat.le_of_ble_eq_true rfl⟩ ⟨Nat.le_of_ble_eq_true rfl, Nat.le_of_ble_eq_true rfl⟩ rfl (Nat.le_of_ble_eq_true rfl) dL_ends_376 (fun r4 G4 H locs q4 h => ?_)
                obtain ⟨ea_376, G4_, hp_376, hv_376, har_376⟩ := Hv_undo hv1 htp q4
                have h := HG.ph h hz hp_376
                refine lv_as (y := nI (if n = 4 then 3 else n)) (ea_376.trans (congrArg nI (by split <;> omega))) ?_
                have hv := hv_376
                rw [show (if n = 4 then 4 else n + 1) - 1 = (if n = 4 then 3 else n) by split <;> omega] at hv
                refine lv_if_lt (tgt := 395) hx hb dL_ends_379 (by decide) (fun c_379 => absurd c_379 (nI_nn (by split <;> omega))) (fun c_379 => ?_)
                refine lv_aload_n hx hb dL_ends_382 rfl (lv_at hl 0 rfl) ?_
                refine rg_cisl (As := [.ref (ad 0)]) (rest := []) X hl.1 h (c_L_print l J z ad G4_ hz r (if n = 4 then 3 else n) B hv hI) mw_257 mw_258 mw_101 mw_259 pdL_print ⟨Nat.le_of_ble_eq_true rfl, Nat.le_of_ble_eq_true rfl⟩ ⟨Nat.le_of_ble_eq_true rfl, Nat.le_of_ble_eq_true rfl⟩ rfl (Nat.le_of_ble_eq_true rfl) dL_ends_383 (fun H locs h => ?_)
                refine lv_lload_n hx hb dL_ends_386 rfl (lv_at hl 1 rfl) ?_
                refine W.lcmp hx hb dL_ends_387 ?_
                refine lv_if_ne (tgt := 395) hx hb dL_ends_388 (by decide) (fun c_388 => absurd (lg_self _) c_388) (fun c_388 => ?_)
                refine lv_iconst (v := nI 1) hx hb dL_ends_391 (by decide) ?_
                refine lv_goto (tgt := 396) hx hb dL_ends_392 (by decide) ?_
                exact hret (nI 1) G4_ _ _ 396 _ (⟨rfl, hv⟩) h rfl dL_ends_396
              · rw [nI_leI (by omega) (by omega)] at c_307
                refine lv_iload hx hb dL_ends_310 (lv_at hl 4 rfl) ?_
                refine lv_if_eq (tgt := 354) hx hb dL_ends_312 (by decide) (fun c_312 => absurd c_312 (by decide)) (fun c_312 => ?_)
                refine lv_aload_n hx hb dL_ends_315 rfl (lv_at hl 0 rfl) ?_
                refine lv_iload hx hb dL_ends_316 (lv_at hl 5 rfl) ?_
                refine lv_iconst (v := nI 5) hx hb dL_ends_318 (by decide) ?_
                refine rg_civd (As := [.int (nI i_300), .int (nI 5)]) (rest := []) X hl.1 h (c_X7_drone l J z ad G3_ (edR r (nI T)) hR1 (nI i_300) (nI 5)) mw_176 mw_177 mw_178 mw_2 mw_179 pdX7_drone (by decide) (xo_0 J ad _) rfl rfl ⟨Nat.le_of_ble_eq_true rfl, Nat.le_of_ble_eq_true rfl⟩ ⟨Nat.le_of_ble_eq_true rfl, Nat.le_of_ble_eq_true rfl⟩ rfl (Nat.le_of_ble_eq_true rfl) dL_ends_319 (fun H locs h => ?_)
                refine lv_as (y := (edR r (nI T)) (6 * i_300 + 16)) ((dr_hi w2y (by omega) (by omega) (by omega)).trans (congrArg (edR r (nI T)) (by omega))) ?_
                refine lv_aload hx hb dL_ends_322 (lv_at hl 3 rfl) ?_
                refine lv_iload hx hb dL_ends_324 (lv_at hl 5 rfl) ?_
                refine rw_ild X h 210 (by omega) (f := fun j => G3_ 210 (j + 1000)) (N := 12) rfl i_300 rfl (by omega) (by decide) dL_ends_326 ?_
                refine lv_as (y := r (6 * i_300 + 16)) ((har_222 _ (by omega)).trans (ha i_300 (by omega))) ?_
                refine lv_iload hx hb dL_ends_327 (lv_at hl 2 rfl) ?_
                refine lv_iload hx hb dL_ends_329 (lv_at hl 5 rfl) ?_
                refine lv_ishr hx hb dL_ends_331 ?_
                refine lv_iconst (v := nI 1) hx hb dL_ends_332 (by decide) ?_
                refine lv_iand hx hb dL_ends_333 ?_
                refine lv_iadd hx hb dL_ends_334 ?_
                refine lv_icmp_ne (tgt := 354) hx hb dL_ends_335 (by decide) (fun c_335 => absurd ((pe16 i_300 (by omega)).trans (congrArg (r (6 * i_300 + 16) + ·) (dr_eq hI.1 (by omega)).symm)) c_335) (fun c_335 => ?_)
                refine lv_aload_n hx hb dL_ends_338 rfl (lv_at hl 0 rfl) ?_
                refine lv_iload hx hb dL_ends_339 (lv_at hl 5 rfl) ?_
                refine lv_iconst (v := nI 2) hx hb dL_ends_341 (by decide) ?_
                refine rg_civd (As := [.int (nI i_300), .int (nI 2)]) (rest := []) X hl.1 h (c_X7_drone l J z ad G3_ (edR r (nI T)) hR1 (nI i_300) (nI 2)) mw_176 mw_177 mw_178 mw_2 mw_179 pdX7_drone (by decide) (xo_0 J ad _) rfl rfl ⟨Nat.le_of_ble_eq_true rfl, Nat.le_of_ble_eq_true rfl⟩ ⟨Nat.le_of_ble_eq_true rfl, Nat.le_of_ble_eq_true rfl⟩ rfl (Nat.le_of_ble_eq_true rfl) dL_ends_342 (fun H locs h => ?_)
                refine lv_as (y := (-5)) (((dr_lo w2y (by omega) (by omega)).trans (congrArg _ (by omega))).trans (pe14 i_300 (by omega))) ?_
                refine lv_bipush (v := (-5)) hx hb dL_ends_345 (by decide) ?_
                refine lv_icmp_ne (tgt := 354) hx hb dL_ends_347 (by decide) (fun c_347 => absurd (by decide) c_347) (fun c_347 => ?_)
                refine lv_iconst (v := nI 1) hx hb dL_ends_350 (by decide) ?_
                refine lv_goto (tgt := 355) hx hb dL_ends_351 (by decide) ?_
                refine lv_istore (lv' := [(12, .int (nI 1)), (0, .ref (ad 0)), (1, .long (PR r)), (8, .int (drI r (mn r))), (10, .ref (ad 210)), (13, .int (nI i_300))]) hx hb dL_ends_355 hl (by decide) rfl (fun ls hl => ?_)
                refine lv_iinc (v := nI (i_300 + 1)) (lv' := [(13, .int (nI (i_300 + 1))), (12, .int (nI 1)), (0, .ref (ad 0)), (1, .long (PR r)), (8, .int (drI r (mn r))), (10, .ref (ad 210))]) hx hb dL_ends_357 hl (k := 5) rfl (nI_addc (b := 1) (by omega)) (by decide) rfl (fun ls hl => ?_)
                refine lv_goto (tgt := 300) hx hb dL_ends_360 (by decide) ?_
                exact ih_300 (i_300 + 1) (by omega) (by omega) _ _ _ h (lv_sub hl [2, 3, 4, 5, 1, 0] rfl)
          exact LP_300 ((kn r) + 1) 0 (by omega) (by omega) _ _ _ h (lv_sub hl [3, 4, 9, 11, 1, 0] rfl)
      · rw [nI_leI (by omega) (by omega)] at c_174
        refine lv_aload hx hb dL_ends_177 (lv_at hl 8 rfl) ?_
        refine lv_iload hx hb dL_ends_179 (lv_at hl 9 rfl) ?_
        refine lv_aload_n hx hb dL_ends_181 rfl (lv_at hl 0 rfl) ?_
        refine lv_iload hx hb dL_ends_182 (lv_at hl 9 rfl) ?_
        refine lv_iconst (v := nI 5) hx hb dL_ends_184 (by decide) ?_
        refine rg_civd (As := [.int (nI i_167), .int (nI 5)]) (rest := [.int (nI i_167), .ref (ad 210)]) X hl.1 h (c_X7_drone l J z ad Gl r hR (nI i_167) (nI 5)) mw_176 mw_177 mw_178 mw_2 mw_179 pdX7_drone (by decide) (xo_0 J ad _) rfl rfl ⟨Nat.le_of_ble_eq_true rfl, Nat.le_of_ble_eq_true rfl⟩ ⟨Nat.le_of_ble_eq_true rfl, Nat.le_of_ble_eq_true rfl⟩ rfl (Nat.le_of_ble_eq_true rfl) dL_ends_185 (fun H locs h => ?_)
        refine lv_as (y := r (6 * i_167 + 16)) ((dr_hi w2 (by omega) (by omega) (by omega)).trans (congrArg r (by omega))) ?_
        refine rw_ist X h 210 (by omega) (f := fun j => Gl 210 (j + 1000)) (N := 12) rfl i_167 rfl (by omega) (by decide) dL_ends_188 (fun H locs h => ?_)
        have h := arr_st h
        have hv := hv.arr (g := upd (Gl 210) (i_167 + 1000) (r (6 * i_167 + 16))) (fun j hj => upd_n (by omega))
        have ha : ∀ j, j < i_167 + 1 → (u1 Gl 210 (upd (Gl 210) (i_167 + 1000) (r (6 * i_167 + 16)))) 210 (j + 1000) = r (6 * j + 16) := by
          intro j hj
          rw [u1_s]
          by_cases c : j = i_167
          · rw [c, upd_s]
          · rw [upd_n (by omega)]
            exact ha j (by omega)
        refine lv_iinc (v := nI (i_167 + 1)) (lv' := [(11, .int (nI (i_167 + 1))), (0, .ref (ad 0)), (1, .long (PR r)), (4, .int (r 3)), (5, .int (nI ((mn r)))), (6, .int (r 8)), (7, .int (r 9)), (8, .int (drI r (mn r))), (9, .int (nI ((cnt (fun q => (hearC r).2.2 q = 0) (mn r))))), (10, .ref (ad 210))]) hx hb dL_ends_189 hl (k := 9) rfl (nI_addc (b := 1) (by omega)) (by decide) rfl (fun ls hl => ?_)
        refine lv_goto (tgt := 167) hx hb dL_ends_192 (by decide) ?_
        exact ih_167 (i_167 + 1) (by omega) (by omega) _ hv ha _ _ _ h (lv_sub hl [1, 2, 3, 4, 5, 6, 7, 8, 9, 0] rfl)
  exact LP_167 ((kn r) + 1) 0 (by omega) (by omega) _ hv (fun j hj => absurd hj (Nat.not_lt_zero _)) _ _ _ h (lv_sub hl [2, 3, 4, 5, 6, 7, 8, 9, 1, 0] rfl)
set_option maxHeartbeats 4000000 in
set_option maxRecDepth 100000 in
theorem c_L_ends (l : Launch) (J : JJ) (z : ZZ) (ad : Nat → Nat) (G : GG) (hz0 : z.2 = 0) (r : Nat → Int32) (n B : Nat) (hv : Hv G r n) (hI : Iv B r) (hB : B + 60 ≤ 99999) : ME l J z ad G (fun ans uG => ans = nI 1 ∧ Hv uG r (if n = 4 then 3 else n)) := by
  refine ME.go ?_
  intro pr e s m args below meth c ls Q X h hl hret
  have hx := X.1
  have hb := X.2.1
  have hown := X.2.2.2.1
  have hts := X.2.2.2.2
  have hz : z.2 ≤ 1 := by omega
  have hl : lv_has ls 14 [(0, .ref (ad 0))] := hl
  have hR := hv.rep
  have h14 := hv.at
  have hW := hI.1.1
  obtain ⟨⟨w1, w2⟩, ⟨w3, w4⟩, ⟨w5, w6⟩, w7, w8⟩ := hI.1.1
  have hnn := hv.2.2.1
  refine lv_aload_n hx hb dL_ends_0 rfl (lv_at hl 0 rfl) ?_
  refine rg_cisl (As := [.ref (ad 0)]) (rest := []) X hl.1 h (c_L_print l J z ad G hz r n B hv hI) mw_257 mw_258 mw_101 mw_259 pdL_print ⟨Nat.le_of_ble_eq_true rfl, Nat.le_of_ble_eq_true rfl⟩ ⟨Nat.le_of_ble_eq_true rfl, Nat.le_of_ble_eq_true rfl⟩ rfl (Nat.le_of_ble_eq_true rfl) dL_ends_1 (fun H locs h => ?_)
  refine lv_lstore_n (lv' := [(1, .long (PR r)), (0, .ref (ad 0))]) hx hb dL_ends_4 rfl hl (by decide) rfl (fun ls hl => ?_)
  refine lv_aload_n hx hb dL_ends_5 rfl (lv_at hl 1 rfl) ?_
  refine rg_civ (As := []) (rest := []) X hl.1 h (c_X7_wouldPass l J z ad G r hR ) mw_262 mw_263 mw_264 mw_2 mw_265 pdX7_wouldPass (by decide) (xo_0 J ad _) rfl rfl ⟨Nat.le_of_ble_eq_true rfl, Nat.le_of_ble_eq_true rfl⟩ ⟨Nat.le_of_ble_eq_true rfl, Nat.le_of_ble_eq_true rfl⟩ rfl (Nat.le_of_ble_eq_true rfl) dL_ends_6 (fun r1 G1 H locs q1 h => ?_)
  obtain ⟨ea_6, tr_6⟩ := q1
  refine lv_as (y := wpA r ) (ea_6) ?_
  have hv := Hv.tr hv tr_6
  have hR := hv.rep
  have h14 := hv.at
  refine lv_istore_n (lv' := [(3, .int (wpA r )), (1, .long (PR r)), (0, .ref (ad 0))]) hx hb dL_ends_9 rfl hl (by decide) rfl (fun ls hl => ?_)
  refine lv_aload_n hx hb dL_ends_10 rfl (lv_at hl 2 rfl) ?_
  refine lv_iconst (v := nI 1) hx hb dL_ends_11 (by decide) ?_
  refine rg_civd (As := [.int (nI 1)]) (rest := []) X hl.1 h (c_X7_count l J z ad G1 r hR (nI n) (G1 203 1) h14 rfl (nI 1)) mw_103 mw_104 mw_105 mw_2 mw_106 pdX7_count (by decide) (xo_0 J ad _) rfl rfl ⟨Nat.le_of_ble_eq_true rfl, Nat.le_of_ble_eq_true rfl⟩ ⟨Nat.le_of_ble_eq_true rfl, Nat.le_of_ble_eq_true rfl⟩ rfl (Nat.le_of_ble_eq_true rfl) dL_ends_12 (fun H locs h => ?_)
  refine lv_as (y := r 3) (ct_at (by omega)) ?_
  refine lv_istore (lv' := [(4, .int (r 3)), (3, .int (wpA r )), (1, .long (PR r)), (0, .ref (ad 0))]) hx hb dL_ends_15 hl (by decide) rfl (fun ls hl => ?_)
  refine lv_aload_n hx hb dL_ends_17 rfl (lv_at hl 3 rfl) ?_
  refine lv_bipush (v := nI 6) hx hb dL_ends_18 (by decide) ?_
  refine rg_civd (As := [.int (nI 6)]) (rest := []) X hl.1 h (c_X7_count l J z ad G1 r hR (nI n) (G1 203 1) h14 rfl (nI 6)) mw_103 mw_104 mw_105 mw_2 mw_106 pdX7_count (by decide) (xo_0 J ad _) rfl rfl ⟨Nat.le_of_ble_eq_true rfl, Nat.le_of_ble_eq_true rfl⟩ ⟨Nat.le_of_ble_eq_true rfl, Nat.le_of_ble_eq_true rfl⟩ rfl (Nat.le_of_ble_eq_true rfl) dL_ends_20 (fun H locs h => ?_)
  refine lv_as (y := nI ((mn r))) (mn_ct hI.1) ?_
  refine lv_istore (lv' := [(5, .int (nI ((mn r)))), (4, .int (r 3)), (3, .int (wpA r )), (1, .long (PR r)), (0, .ref (ad 0))]) hx hb dL_ends_23 hl (by decide) rfl (fun ls hl => ?_)
  refine lv_aload_n hx hb dL_ends_25 rfl (lv_at hl 4 rfl) ?_
  refine lv_bipush (v := nI 8) hx hb dL_ends_26 (by decide) ?_
  refine rg_civd (As := [.int (nI 8)]) (rest := []) X hl.1 h (c_X7_count l J z ad G1 r hR (nI n) (G1 203 1) h14 rfl (nI 8)) mw_103 mw_104 mw_105 mw_2 mw_106 pdX7_count (by decide) (xo_0 J ad _) rfl rfl ⟨Nat.le_of_ble_eq_true rfl, Nat.le_of_ble_eq_true rfl⟩ ⟨Nat.le_of_ble_eq_true rfl, Nat.le_of_ble_eq_true rfl⟩ rfl (Nat.le_of_ble_eq_true rfl) dL_ends_28 (fun H locs h => ?_)
  refine lv_as (y := r 8) (ct_at (by omega)) ?_
  refine lv_istore (lv' := [(6, .int (r 8)), (5, .int (nI ((mn r)))), (4, .int (r 3)), (3, .int (wpA r )), (1, .long (PR r)), (0, .ref (ad 0))]) hx hb dL_ends_31 hl (by decide) rfl (fun ls hl => ?_)
  refine lv_aload_n hx hb dL_ends_33 rfl (lv_at hl 5 rfl) ?_
  refine lv_bipush (v := nI 9) hx hb dL_ends_34 (by decide) ?_
  refine rg_civd (As := [.int (nI 9)]) (rest := []) X hl.1 h (c_X7_count l J z ad G1 r hR (nI n) (G1 203 1) h14 rfl (nI 9)) mw_103 mw_104 mw_105 mw_2 mw_106 pdX7_count (by decide) (xo_0 J ad _) rfl rfl ⟨Nat.le_of_ble_eq_true rfl, Nat.le_of_ble_eq_true rfl⟩ ⟨Nat.le_of_ble_eq_true rfl, Nat.le_of_ble_eq_true rfl⟩ rfl (Nat.le_of_ble_eq_true rfl) dL_ends_36 (fun H locs h => ?_)
  refine lv_as (y := r 9) (ct_at (by omega)) ?_
  refine lv_istore (lv' := [(7, .int (r 9)), (6, .int (r 8)), (5, .int (nI ((mn r)))), (4, .int (r 3)), (3, .int (wpA r )), (1, .long (PR r)), (0, .ref (ad 0))]) hx hb dL_ends_39 hl (by decide) rfl (fun ls hl => ?_)
  refine lv_iconst (v := nI 0) hx hb dL_ends_41 (by decide) ?_
  refine lv_istore (lv' := [(8, .int (nI 0)), (7, .int (r 9)), (6, .int (r 8)), (5, .int (nI ((mn r)))), (4, .int (r 3)), (3, .int (wpA r )), (1, .long (PR r)), (0, .ref (ad 0))]) hx hb dL_ends_42 hl (by decide) rfl (fun ls hl => ?_)
  refine lv_iconst (v := nI 0) hx hb dL_ends_44 (by decide) ?_
  refine lv_istore (lv' := [(9, .int (nI 0)), (8, .int (nI 0)), (7, .int (r 9)), (6, .int (r 8)), (5, .int (nI ((mn r)))), (4, .int (r 3)), (3, .int (wpA r )), (1, .long (PR r)), (0, .ref (ad 0))]) hx hb dL_ends_45 hl (by decide) rfl (fun ls hl => ?_)
  refine lv_iconst (v := nI 0) hx hb dL_ends_47 (by decide) ?_
  refine lv_istore (lv' := [(10, .int (nI 0)), (9, .int (nI 0)), (8, .int (nI 0)), (7, .int (r 9)), (6, .int (r 8)), (5, .int (nI ((mn r)))), (4, .int (r 3)), (3, .int (wpA r )), (1, .long (PR r)), (0, .ref (ad 0))]) hx hb dL_ends_48 hl (by decide) rfl (fun ls hl => ?_)
  have hl : lv_has ls 14 [(10, .int (nI 0)), (9, .int (nI ((cnt (fun q => (hearC r).2.2 q = 0) 0)))), (8, .int (drI r 0)), (7, .int (r 9)), (6, .int (r 8)), (5, .int (nI ((mn r)))), (4, .int (r 3)), (3, .int (wpA r )), (1, .long (PR r)), (0, .ref (ad 0))] := hl
  have LP_50 : ∀ (k_50 i_50 : Nat), (mn r) + 1 ≤ i_50 + k_50 → i_50 ≤ (mn r) → ∀ (Gl : GG) (hv : Hv Gl r n) (H : Heap) (locs : List Loc) (ls : Array Slot), HG J z ad s Gl H locs → lv_has ls 14 [(0, .ref (ad 0)), (1, .long (PR r)), (3, .int (wpA r)), (4, .int (r 3)), (5, .int (nI ((mn r)))), (6, .int (r 8)), (7, .int (r 9)), (8, .int (drI r i_50)), (9, .int (nI ((cnt (fun q => (hearC r).2.2 q = 0) i_50)))), (10, .int (nI i_50))] → W pr l e (rmD 7 1 12) s m args below meth c H locs 0 0 Q (F0 m 50 ls []) := by
    intro k_50
    induction k_50 with
    | zero =>
      intro i_50 g1 g2
      exact absurd g1 (by omega)
    | succ k_50 ih_50 =>
      intro i_50 g1_50 g2_50 Gl hv H locs ls h hl
      have hR := hv.rep
      have h14 := hv.at
      refine lv_iload hx hb dL_ends_50 (lv_at hl 9 rfl) ?_
      refine lv_iload hx hb dL_ends_52 (lv_at hl 4 rfl) ?_
      refine lv_icmp_ge (tgt := 158) hx hb dL_ends_54 (by decide) (fun c_54 => ?_) (fun c_54 => ?_)
      · rw [nI_leI (by omega) (by omega)] at c_54
        have ex_50 : i_50 = mn r := by omega
        rw [ex_50] at hl
        refine lv_bipush (v := nI 12) hx hb dL_ends_158 (by decide) ?_
        have h2 : HS J z.1 ad (210 + z.2) (shp J ad Gl) s _ _ := h
        rw [hz0] at h2
        refine rk_newi (n := 210) (fe := fun a => shp J a Gl) X (locG J Gl) h2 12 rfl (by omega) mw_44 (Nat.le_of_ble_eq_true rfl) (Nat.le_of_ble_eq_true rfl) dL_ends_160 (fun ad1 H e1 h => ?_)
        rw [← e1 0 (by omega)] at hl
        exact c_L_ends2 l J (z.1, 1) ad1 (u1 Gl 210 (arG Gl)) rfl r n B (hv.arr (fun j hj => if_pos hj)) hI hB X (arr_in h) (lv_sub hl [0, 1, 3, 4, 5, 6, 7, 8] rfl) (fun v G1 H locs pc ls hp h hn hdg => hret v G1 H locs pc ls hp (arr_out hz0 h e1) hn hdg)
      · rw [nI_leI (by omega) (by omega)] at c_54
        have hcm := cnt_le (fun q => (hearC r).2.2 q = 0) i_50
        rcases Classical.em ((hearC r).2.2 i_50 = 0) with vk | vk
        · have hcase := vk
          refine lv_iload_n hx hb dL_ends_57 rfl (lv_at hl 2 rfl) ?_
          refine lv_iload hx hb dL_ends_58 (lv_at hl 9 rfl) ?_
          refine lv_ishr hx hb dL_ends_60 ?_
          refine lv_iconst (v := nI 1) hx hb dL_ends_61 (by decide) ?_
          refine lv_iand hx hb dL_ends_62 ?_
          refine lv_iconst (v := nI 1) hx hb dL_ends_63 (by decide) ?_
          refine lv_icmp_ne (tgt := 71) hx hb dL_ends_64 (by decide) (fun c_64 => absurd ((wp_bit w4 (by omega)).mpr vk) c_64) (fun c_64 => ?_)
          refine lv_iconst (v := nI 1) hx hb dL_ends_67 (by decide) ?_
          refine lv_goto (tgt := 72) hx hb dL_ends_68 (by decide) ?_
          refine lv_istore (lv' := [(11, .int (nI 1)), (0, .ref (ad 0)), (1, .long (PR r)), (3, .int (wpA r)), (4, .int (r 3)), (5, .int (nI ((mn r)))), (6, .int (r 8)), (7, .int (r 9)), (8, .int (drI r i_50)), (9, .int (nI ((cnt (fun q => (hearC r).2.2 q = 0) i_50)))), (10, .int (nI i_50))]) hx hb dL_ends_72 hl (by decide) rfl (fun ls hl => ?_)
          refine lv_iload hx hb dL_ends_74 (lv_at hl 9 rfl) ?_
          refine lv_iload hx hb dL_ends_76 (lv_at hl 0 rfl) ?_
          refine lv_if_eq (tgt := 85) hx hb dL_ends_78 (by decide) (fun c_78 => absurd c_78 (by decide)) (fun c_78 => ?_)
          refine lv_iconst (v := nI 1) hx hb dL_ends_81 (by decide) ?_
          refine lv_goto (tgt := 86) hx hb dL_ends_82 (by decide) ?_
          refine lv_iadd hx hb dL_ends_86 ?_
          refine lv_as (y := nI ((cnt (fun q => (hearC r).2.2 q = 0) i_50) + 1)) (nI_addc (by omega)) ?_
          refine lv_as (y := nI ((cnt (fun q => (hearC r).2.2 q = 0) (i_50 + 1)))) (congrArg nI (by rw [cnt_t (P := (fun q => (hearC r).2.2 q = 0)) vk])) ?_
          refine lv_istore (lv' := [(9, .int (nI ((cnt (fun q => (hearC r).2.2 q = 0) (i_50 + 1))))), (11, .int (nI 1)), (0, .ref (ad 0)), (1, .long (PR r)), (3, .int (wpA r)), (4, .int (r 3)), (5, .int (nI ((mn r)))), (6, .int (r 8)), (7, .int (r 9)), (8, .int (drI r i_50)), (10, .int (nI i_50))]) hx hb dL_ends_87 hl (by decide) rfl (fun ls hl => ?_)
          refine lv_iload hx hb dL_ends_89 (lv_at hl 9 rfl) ?_
          refine lv_iload hx hb dL_ends_91 (lv_at hl 1 rfl) ?_
          refine lv_if_eq (tgt := 108) hx hb dL_ends_93 (by decide) (fun c_93 => absurd c_93 (by decide)) (fun c_93 => ?_)
          refine lv_iconst (v := nI 1) hx hb dL_ends_96 (by decide) ?_
          refine lv_aload_n hx hb dL_ends_97 rfl (lv_at hl 2 rfl) ?_
          refine lv_iload hx hb dL_ends_98 (lv_at hl 10 rfl) ?_
          refine lv_iconst (v := nI 0) hx hb dL_ends_100 (by decide) ?_
          refine rg_civd (As := [.int (nI i_50), .int (nI 0)]) (rest := [.int (nI 1), .int (drI r i_50)]) X hl.1 h (c_X7_petitionOf l J z ad Gl r hR (nI i_50) (nI 0)) mw_220 mw_221 mw_222 mw_2 mw_223 pdX7_petitionOf (by decide) (xo_0 J ad _) rfl rfl ⟨Nat.le_of_ble_eq_true rfl, Nat.le_of_ble_eq_true rfl⟩ ⟨Nat.le_of_ble_eq_true rfl, Nat.le_of_ble_eq_true rfl⟩ rfl (Nat.le_of_ble_eq_true rfl) dL_ends_101 (fun H locs h => ?_)
          refine lv_as (y := nI ((pd r i_50))) ((po_lo w4 (by omega) (by omega)).trans ((congrArg r (by omega)).trans (w7 i_50 (by omega)).1)) ?_
          refine lv_ishl hx hb dL_ends_104 ?_
          refine lv_goto (tgt := 109) hx hb dL_ends_105 (by decide) ?_
          refine lv_ior hx hb dL_ends_109 ?_
          refine lv_as (y := drI r (i_50 + 1)) (drI_t vk) ?_
          refine lv_istore (lv' := [(8, .int (drI r (i_50 + 1))), (9, .int (nI ((cnt (fun q => (hearC r).2.2 q = 0) (i_50 + 1))))), (11, .int (nI 1)), (0, .ref (ad 0)), (1, .long (PR r)), (3, .int (wpA r)), (4, .int (r 3)), (5, .int (nI ((mn r)))), (6, .int (r 8)), (7, .int (r 9)), (10, .int (nI i_50))]) hx hb dL_ends_110 hl (by decide) rfl (fun ls hl => ?_)
          refine lv_iload hx hb dL_ends_112 (lv_at hl 2 rfl) ?_
          refine lv_aload_n hx hb dL_ends_114 rfl (lv_at hl 3 rfl) ?_
          refine lv_iload hx hb dL_ends_115 (lv_at hl 10 rfl) ?_
          refine rg_civ (As := [.int (nI i_50)]) (rest := [.int (nI 1)]) X hl.1 h (c_X7_reason l J z ad Gl r hR (nI i_50)) mw_327 mw_328 mw_329 mw_2 mw_330 pdX7_reason (by decide) (xo_0 J ad _) rfl rfl ⟨Nat.le_of_ble_eq_true rfl, Nat.le_of_ble_eq_true rfl⟩ ⟨Nat.le_of_ble_eq_true rfl, Nat.le_of_ble_eq_true rfl⟩ rfl (Nat.le_of_ble_eq_true rfl) dL_ends_117 (fun r2 G2 H locs q2 h => ?_)
          obtain ⟨ea_117, tr_117⟩ := q2
          refine lv_as (y := (hearC r).2.2 i_50) (ea_117.trans (rs_at w4 (by omega))) ?_
          have hv := Hv.tr hv tr_117
          have hR := hv.rep
          have h14 := hv.at
          refine lv_if_ne (tgt := 127) hx hb dL_ends_120 (by decide) (fun c_120 => absurd (vk) c_120) (fun c_120 => ?_)
          refine lv_iconst (v := nI 1) hx hb dL_ends_123 (by decide) ?_
          refine lv_goto (tgt := 128) hx hb dL_ends_124 (by decide) ?_
          refine lv_icmp_ne (tgt := 150) hx hb dL_ends_128 (by decide) (fun c_128 => absurd (by decide) c_128) (fun c_128 => ?_)
          refine lv_aload_n hx hb dL_ends_131 rfl (lv_at hl 3 rfl) ?_
          refine lv_iload hx hb dL_ends_132 (lv_at hl 10 rfl) ?_
          refine rg_civ (As := [.int (nI i_50)]) (rest := []) X hl.1 h (c_X7_reason l J z ad G2 r hR (nI i_50)) mw_327 mw_328 mw_329 mw_2 mw_330 pdX7_reason (by decide) (xo_0 J ad _) rfl rfl ⟨Nat.le_of_ble_eq_true rfl, Nat.le_of_ble_eq_true rfl⟩ ⟨Nat.le_of_ble_eq_true rfl, Nat.le_of_ble_eq_true rfl⟩ rfl (Nat.le_of_ble_eq_true rfl) dL_ends_134 (fun r3 G3 H locs q3 h => ?_)
          obtain ⟨ea_134, tr_134⟩ := q3
          refine lv_as (y := (hearC r).2.2 i_50) (ea_134.trans (rs_at w4 (by omega))) ?_
          have hv := Hv.tr hv tr_134
          have hR := hv.rep
          have h14 := hv.at
          refine lv_if_lt (tgt := 150) hx hb dL_ends_137 (by decide) (fun c_137 => absurd c_137 (Int32.not_lt.mpr (hearC_nn r i_50))) (fun c_137 => ?_)
          refine lv_aload_n hx hb dL_ends_140 rfl (lv_at hl 3 rfl) ?_
          refine lv_iload hx hb dL_ends_141 (lv_at hl 10 rfl) ?_
          refine rg_civ (As := [.int (nI i_50)]) (rest := []) X hl.1 h (c_X7_reason l J z ad G3 r hR (nI i_50)) mw_327 mw_328 mw_329 mw_2 mw_330 pdX7_reason (by decide) (xo_0 J ad _) rfl rfl ⟨Nat.le_of_ble_eq_true rfl, Nat.le_of_ble_eq_true rfl⟩ ⟨Nat.le_of_ble_eq_true rfl, Nat.le_of_ble_eq_true rfl⟩ rfl (Nat.le_of_ble_eq_true rfl) dL_ends_143 (fun r4 G4 H locs q4 h => ?_)
          obtain ⟨ea_143, tr_143⟩ := q4
          refine lv_as (y := (hearC r).2.2 i_50) (ea_143.trans (rs_at w4 (by omega))) ?_
          have hv := Hv.tr hv tr_143
          have hR := hv.rep
          have h14 := hv.at
          refine lv_iconst (v := nI 5) hx hb dL_ends_146 (by decide) ?_
          refine lv_icmp_le (tgt := 152) hx hb dL_ends_147 (by decide) (fun c_147 => ?_) (fun c_147 => absurd (hearC_5 r i_50) c_147)
          refine lv_iinc (v := nI (i_50 + 1)) (lv' := [(10, .int (nI (i_50 + 1))), (8, .int (drI r (i_50 + 1))), (9, .int (nI ((cnt (fun q => (hearC r).2.2 q = 0) (i_50 + 1))))), (11, .int (nI 1)), (0, .ref (ad 0)), (1, .long (PR r)), (3, .int (wpA r)), (4, .int (r 3)), (5, .int (nI ((mn r)))), (6, .int (r 8)), (7, .int (r 9))]) hx hb dL_ends_152 hl (k := 10) rfl (nI_addc (b := 1) (by omega)) (by decide) rfl (fun ls hl => ?_)
          refine lv_goto (tgt := 50) hx hb dL_ends_155 (by decide) ?_
          exact ih_50 (i_50 + 1) (by omega) (by omega) _ hv _ _ _ h (lv_sub hl [4, 5, 6, 7, 8, 9, 10, 1, 2, 0] rfl)
        · have hcase := vk
          refine lv_iload_n hx hb dL_ends_57 rfl (lv_at hl 2 rfl) ?_
          refine lv_iload hx hb dL_ends_58 (lv_at hl 9 rfl) ?_
          refine lv_ishr hx hb dL_ends_60 ?_
          refine lv_iconst (v := nI 1) hx hb dL_ends_61 (by decide) ?_
          refine lv_iand hx hb dL_ends_62 ?_
          refine lv_iconst (v := nI 1) hx hb dL_ends_63 (by decide) ?_
          refine lv_icmp_ne (tgt := 71) hx hb dL_ends_64 (by decide) (fun c_64 => ?_) (fun c_64 => absurd c_64 (fun q => vk ((wp_bit w4 (by omega)).mp q)))
          refine lv_iconst (v := nI 0) hx hb dL_ends_71 (by decide) ?_
          refine lv_istore (lv' := [(11, .int (nI 0)), (0, .ref (ad 0)), (1, .long (PR r)), (3, .int (wpA r)), (4, .int (r 3)), (5, .int (nI ((mn r)))), (6, .int (r 8)), (7, .int (r 9)), (8, .int (drI r i_50)), (9, .int (nI ((cnt (fun q => (hearC r).2.2 q = 0) i_50)))), (10, .int (nI i_50))]) hx hb dL_ends_72 hl (by decide) rfl (fun ls hl => ?_)
          refine lv_iload hx hb dL_ends_74 (lv_at hl 9 rfl) ?_
          refine lv_iload hx hb dL_ends_76 (lv_at hl 0 rfl) ?_
          refine lv_if_eq (tgt := 85) hx hb dL_ends_78 (by decide) (fun c_78 => ?_) (fun c_78 => absurd (by decide) c_78)
          refine lv_iconst (v := nI 0) hx hb dL_ends_85 (by decide) ?_
          refine lv_iadd hx hb dL_ends_86 ?_
          refine lv_as (y := nI ((cnt (fun q => (hearC r).2.2 q = 0) i_50))) (nI_addc (by omega)) ?_
          refine lv_as (y := nI ((cnt (fun q => (hearC r).2.2 q = 0) (i_50 + 1)))) (congrArg nI (by rw [cnt_f (P := (fun q => (hearC r).2.2 q = 0)) vk])) ?_
          refine lv_istore (lv' := [(9, .int (nI ((cnt (fun q => (hearC r).2.2 q = 0) (i_50 + 1))))), (11, .int (nI 0)), (0, .ref (ad 0)), (1, .long (PR r)), (3, .int (wpA r)), (4, .int (r 3)), (5, .int (nI ((mn r)))), (6, .int (r 8)), (7, .int (r 9)), (8, .int (drI r i_50)), (10, .int (nI i_50))]) hx hb dL_ends_87 hl (by decide) rfl (fun ls hl => ?_)
          refine lv_iload hx hb dL_ends_89 (lv_at hl 9 rfl) ?_
          refine lv_iload hx hb dL_ends_91 (lv_at hl 1 rfl) ?_
          refine lv_if_eq (tgt := 108) hx hb dL_ends_93 (by decide) (fun c_93 => ?_) (fun c_93 => absurd (by decide) c_93)
          refine lv_iconst (v := nI 0) hx hb dL_ends_108 (by decide) ?_
          refine lv_ior hx hb dL_ends_109 ?_
          refine lv_as (y := drI r (i_50 + 1)) (drI_f vk) ?_
          refine lv_istore (lv' := [(8, .int (drI r (i_50 + 1))), (9, .int (nI ((cnt (fun q => (hearC r).2.2 q = 0) (i_50 + 1))))), (11, .int (nI 0)), (0, .ref (ad 0)), (1, .long (PR r)), (3, .int (wpA r)), (4, .int (r 3)), (5, .int (nI ((mn r)))), (6, .int (r 8)), (7, .int (r 9)), (10, .int (nI i_50))]) hx hb dL_ends_110 hl (by decide) rfl (fun ls hl => ?_)
          refine lv_iload hx hb dL_ends_112 (lv_at hl 2 rfl) ?_
          refine lv_aload_n hx hb dL_ends_114 rfl (lv_at hl 3 rfl) ?_
          refine lv_iload hx hb dL_ends_115 (lv_at hl 10 rfl) ?_
          refine rg_civ (As := [.int (nI i_50)]) (rest := [.int (nI 0)]) X hl.1 h (c_X7_reason l J z ad Gl r hR (nI i_50)) mw_327 mw_328 mw_329 mw_2 mw_330 pdX7_reason (by decide) (xo_0 J ad _) rfl rfl ⟨Nat.le_of_ble_eq_true rfl, Nat.le_of_ble_eq_true rfl⟩ ⟨Nat.le_of_ble_eq_true rfl, Nat.le_of_ble_eq_true rfl⟩ rfl (Nat.le_of_ble_eq_true rfl) dL_ends_117 (fun r5 G5 H locs q5 h => ?_)
          obtain ⟨ea_117, tr_117⟩ := q5
          refine lv_as (y := (hearC r).2.2 i_50) (ea_117.trans (rs_at w4 (by omega))) ?_
          have hv := Hv.tr hv tr_117
          have hR := hv.rep
          have h14 := hv.at
          refine lv_if_ne (tgt := 127) hx hb dL_ends_120 (by decide) (fun c_120 => ?_) (fun c_120 => absurd c_120 (vk))
          refine lv_iconst (v := nI 0) hx hb dL_ends_127 (by decide) ?_
          refine lv_icmp_ne (tgt := 150) hx hb dL_ends_128 (by decide) (fun c_128 => absurd (by decide) c_128) (fun c_128 => ?_)
          refine lv_aload_n hx hb dL_ends_131 rfl (lv_at hl 3 rfl) ?_
          refine lv_iload hx hb dL_ends_132 (lv_at hl 10 rfl) ?_
          refine rg_civ (As := [.int (nI i_50)]) (rest := []) X hl.1 h (c_X7_reason l J z ad G5 r hR (nI i_50)) mw_327 mw_328 mw_329 mw_2 mw_330 pdX7_reason (by decide) (xo_0 J ad _) rfl rfl ⟨Nat.le_of_ble_eq_true rfl, Nat.le_of_ble_eq_true rfl⟩ ⟨Nat.le_of_ble_eq_true rfl, Nat.le_of_ble_eq_true rfl⟩ rfl (Nat.le_of_ble_eq_true rfl) dL_ends_134 (fun r6 G6 H locs q6 h => ?_)
          obtain ⟨ea_134, tr_134⟩ := q6
          refine lv_as (y := (hearC r).2.2 i_50) (ea_134.trans (rs_at w4 (by omega))) ?_
          have hv := Hv.tr hv tr_134
          have hR := hv.rep
          have h14 := hv.at
          refine lv_if_lt (tgt := 150) hx hb dL_ends_137 (by decide) (fun c_137 => absurd c_137 (Int32.not_lt.mpr (hearC_nn r i_50))) (fun c_137 => ?_)
          refine lv_aload_n hx hb dL_ends_140 rfl (lv_at hl 3 rfl) ?_
          refine lv_iload hx hb dL_ends_141 (lv_at hl 10 rfl) ?_
          refine rg_civ (As := [.int (nI i_50)]) (rest := []) X hl.1 h (c_X7_reason l J z ad G6 r hR (nI i_50)) mw_327 mw_328 mw_329 mw_2 mw_330 pdX7_reason (by decide) (xo_0 J ad _) rfl rfl ⟨Nat.le_of_ble_eq_true rfl, Nat.le_of_ble_eq_true rfl⟩ ⟨Nat.le_of_ble_eq_true rfl, Nat.le_of_ble_eq_true rfl⟩ rfl (Nat.le_of_ble_eq_true rfl) dL_ends_143 (fun r7 G7 H locs q7 h => ?_)
          obtain ⟨ea_143, tr_143⟩ := q7
          refine lv_as (y := (hearC r).2.2 i_50) (ea_143.trans (rs_at w4 (by omega))) ?_
          have hv := Hv.tr hv tr_143
          have hR := hv.rep
          have h14 := hv.at
          refine lv_iconst (v := nI 5) hx hb dL_ends_146 (by decide) ?_
          refine lv_icmp_le (tgt := 152) hx hb dL_ends_147 (by decide) (fun c_147 => ?_) (fun c_147 => absurd (hearC_5 r i_50) c_147)
          refine lv_iinc (v := nI (i_50 + 1)) (lv' := [(10, .int (nI (i_50 + 1))), (8, .int (drI r (i_50 + 1))), (9, .int (nI ((cnt (fun q => (hearC r).2.2 q = 0) (i_50 + 1))))), (11, .int (nI 0)), (0, .ref (ad 0)), (1, .long (PR r)), (3, .int (wpA r)), (4, .int (r 3)), (5, .int (nI ((mn r)))), (6, .int (r 8)), (7, .int (r 9))]) hx hb dL_ends_152 hl (k := 10) rfl (nI_addc (b := 1) (by omega)) (by decide) rfl (fun ls hl => ?_)
          refine lv_goto (tgt := 50) hx hb dL_ends_155 (by decide) ?_
          exact ih_50 (i_50 + 1) (by omega) (by omega) _ hv _ _ _ h (lv_sub hl [4, 5, 6, 7, 8, 9, 10, 1, 2, 0] rfl)
  exact LP_50 ((mn r) + 1) 0 (by omega) (by omega) _ hv _ _ _ h (lv_sub hl [9, 8, 7, 6, 5, 4, 3, 2, 1, 0] rfl)
