/-! THE CLASS: copies, small reads -/
section LEN
variable {p : Program} {l : Launch} {e : Env} {R : Room} {s : State} {m : MethodId} {args : Array Value} {below : List Frame} {meth : Method} {c : Code} {H : Heap} {locs : List Loc} {cells slots : Nat} {Q : State → Prop}
variable {cc : ByteArray} {pc : Nat} {ls : Array Slot} {rest : List Value} {J : JJ} {z : ZZ} {nL : Nat} {ad : Nat → Nat} {own : String} {G : GG}
theorem rg_len (X : Cx p c cc s m own args nL) (h : HG J z ad s G H locs) (k : Nat) (hk : k < 210) {N : Nat} (hA : ∀ g, shC J ad k g = .inl (J.2.1, N, .inl g)) {v : Int32} (hv : Int32.ofNat N = v) (hdg : decode cc pc = .ok (.arraylength, 1))
    (kk : W p l e R s m args below meth c H locs cells slots Q (F0 m (pc + 1) ls (.int v :: rest))) : W p l e R s m args below meth c H locs cells slots Q (F0 m pc ls (.ref (ad k) :: rest)) := by
  obtain ⟨hx, hb, hml, hown, hts⟩ := X
  obtain ⟨hK, hP, hD, hS, hz⟩ := h
  exact va_alen hx hb hK hP k 0 (x := (N, .inl (G k))) (by rw [wl_get (zlt z hk)]; exact congrArg (fun t => some (ad k, t)) (hA (G k))) rfl hv hdg kk
theorem rg_ald (X : Cx p c cc s m own args nL) (h : HG J z ad s G H locs) {i : Int32} (j : Nat) (hi : i = nI j) (hj : j < 4) {a : Nat} (hf : ringF ad j = some a) (hdg : decode cc pc = .ok (.aaload, 1))
    (kk : W p l e R s m args below meth c H locs cells slots Q (F0 m (pc + 1) ls (.ref a :: rest))) : W p l e R s m args below meth c H locs cells slots Q (F0 m pc ls (.int i :: .ref (ad 102) :: rest)) :=
  rw_ald X h 102 (zlt z (by decide)) (f := ringF ad) (N := 4) rfl j hi hj (by decide) hf hdg kk
theorem rg_cisN (X : Cx p c cc s m own args nL) (hl : ls.size = nL) (h : HG J z ad s G H locs) {y : MethodName} {bytes : ByteArray} {mx : Nat} {ty : FieldType} {d : Nat} {As : List Value} {E : Int32} {G1 : GG} (hM : MI l J z ad y bytes mx ty d As G (fun r u => r = E ∧ u = G1)) {index : Nat} {host own2 : String} (w1 : va_Nw (.methodLinkNest own index y host) s) (w2 : Cond.static y ∈ ws0) (w4 : Cond.initialized own2 ∈ ws0) (w5 : Cond.code y bytes mx (some ty) ∈ ws0)
    (hd : y.cls = own2 ∧ y.cls ≠ "java/lang/invoke/MethodHandle" ∧ y.cls ≠ "java/lang/invoke/VarHandle" ∧ (parseMethodDescriptor y.desc).map (fun d => d.parameters.length) = some As.length) (hR : d + 1 ≤ R.frames ∧ 8 + (mx + 11) + 30 * d ≤ R.locals) (hf : cells + 0 ≤ R.cells ∧ slots + 0 ≤ R.slots) {st : List Value} (hst : st = As.reverse ++ rest) (hrest : (rest.map fun v => v.category).sum ≤ 8) (hdg : decode cc pc = .ok (.invokestatic index, 3))
    (kk : ∀ (H1 : Heap) (locs1 : List Loc), HG J z ad s G1 H1 locs1 → W p l e R s m args below meth c H1 locs1 cells slots Q (F0 m (pc + 3) ls (.int E :: rest))) : W p l e R s m args below meth c H locs cells slots Q (F0 m pc ls st) := by
  have hg : GoodIn ws0 (wsY y bytes mx (some ty)) := by
    intro w hw
    have hin : w ∈ ws0 := by
      simp only [wsY, List.mem_cons] at hw
      rcases hw with rfl | hw
      · exact w5
      · exact hw
    exact ws0_self w hin
  obtain ⟨e0, hd1⟩ := hd
  subst e0
  refine va_calli (st0 := st) (va_runSN (As := As) (rest := rest) X hM ⟨va_cnB As.length X.2.2.2.2 hg rfl rfl rfl w1 (X.2.2.2.2 _ w4) hd1 hR, X.2.2.2.2 _ w2, trivial⟩ ⟨HV.blind, fun U hU hW => ⟨rfl, h.toU hU hW⟩⟩ rfl rfl hl hst (lv_room hrest) hdg hf) h.2.2.2.1 (fun _ _ h => h) (fun _ h => h) (fun r u t H1 locs1 ht hvm hp hB _ _ hS => ?_)
  obtain ⟨rfl, rfl⟩ := hp
  exact kk H1 locs1 (HS.ofU hB ht hvm hS h.2.2.2.2)
end LEN
def CPd (G uG : GG) (b b2 : Nat) (S : Nat → Nat → Prop) : Prop := (∀ c j, S c j → c < 25) ∧ (∀ k j, (∀ c, S c j → k ≠ b + c) → uG k j = G k j) ∧ ∀ c j, S c j → uG (b + c) j = G (b2 + c) j
theorem CPd.rf (G : GG) (b b2 : Nat) : CPd G G b b2 (fun _ _ => False) := ⟨fun _ _ h => h.elim, fun _ _ _ => rfl, fun _ _ h => h.elim⟩
theorem CPd.arr {G uG : GG} {b b2 c n : Nat} {S : Nat → Nat → Prop} (h : CPd G uG b b2 S) (hd : b + 25 ≤ b2 ∨ b2 + 25 ≤ b) (hc : c < 25) : CPd G (u1 uG (b + c) (fun j => if j < n then uG (b2 + c) j else uG (b + c) j)) b b2 (fun x j => (x = c ∧ j < n) ∨ S x j) := by
  obtain ⟨h1, h2, h3⟩ := h
  refine ⟨fun x j hx => ?_, fun k j hk => ?_, fun x j hx => ?_⟩
  · rcases hx with ⟨hx, -⟩ | hx
    · omega
    · exact h1 x j hx
  · by_cases e : k = b + c
    · subst e
      rw [u1_s]
      by_cases g : j < n
      · exact absurd rfl (hk c (Or.inl ⟨rfl, g⟩))
      · show (if j < n then _ else _) = _
        rw [if_neg g]
        exact h2 _ _ (fun x hx => hk x (Or.inr hx))
    · rw [u1_n e]
      exact h2 _ _ (fun x hx => hk x (Or.inr hx))
  · by_cases e : x = c
    · subst e
      rw [u1_s]
      show (if j < n then _ else _) = _
      by_cases g : j < n
      · rw [if_pos g]
        exact h2 _ _ (fun y hy => by have := h1 y j hy; omega)
      · rw [if_neg g]
        rcases hx with ⟨-, hx⟩ | hx
        · exact absurd hx g
        · exact h3 x j hx
    · rw [u1_n (by omega)]
      rcases hx with ⟨hx, -⟩ | hx
      · exact absurd hx e
      · exact h3 x j hx
theorem CPd.fld {G uG : GG} {b b2 c j0 : Nat} {S : Nat → Nat → Prop} (h : CPd G uG b b2 S) (hd : b + 25 ≤ b2 ∨ b2 + 25 ≤ b) (hc : c < 25) : CPd G (u1 uG (b + c) (upd (uG (b + c)) j0 (uG (b2 + c) j0))) b b2 (fun x j => (x = c ∧ j = j0) ∨ S x j) := by
  obtain ⟨h1, h2, h3⟩ := h
  refine ⟨fun x j hx => ?_, fun k j hk => ?_, fun x j hx => ?_⟩
  · rcases hx with ⟨hx, -⟩ | hx
    · omega
    · exact h1 x j hx
  · by_cases e : k = b + c
    · subst e
      rw [u1_s]
      by_cases g : j = j0
      · exact absurd rfl (hk c (Or.inl ⟨rfl, g⟩))
      · rw [upd_n g]
        exact h2 _ _ (fun x hx => hk x (Or.inr hx))
    · rw [u1_n e]
      exact h2 _ _ (fun x hx => hk x (Or.inr hx))
  · by_cases e : x = c
    · subst e
      rw [u1_s]
      by_cases g : j = j0
      · subst g
        rw [upd_s]
        exact h2 _ _ (fun y hy => by have := h1 y j hy; omega)
      · rw [upd_n g]
        rcases hx with ⟨-, hx⟩ | hx
        · exact absurd hx g
        · exact h3 x j hx
    · rw [u1_n (by omega)]
      rcases hx with ⟨hx, -⟩ | hx
      · exact absurd hx e
      · exact h3 x j hx
theorem CPd.tr {G G1 G2 : GG} {b b2 : Nat} {S T : Nat → Nat → Prop} (h : CPd G G1 b b2 S) (g : CPd G1 G2 b b2 T) (hd : b + 25 ≤ b2 ∨ b2 + 25 ≤ b) : CPd G G2 b b2 (fun c j => T c j ∨ S c j) := by
  obtain ⟨h1, h2, h3⟩ := h
  obtain ⟨g1, g2, g3⟩ := g
  refine ⟨fun c j hc => hc.elim (g1 c j) (h1 c j), fun k j hk => (g2 k j (fun c hc => hk c (Or.inl hc))).trans (h2 k j (fun c hc => hk c (Or.inr hc))), fun c j hc => ?_⟩
  rcases Classical.em (T c j) with t | t
  · have := g1 c j t
    exact (g3 c j t).trans (h2 _ _ (fun y hy => by have := h1 y j hy; omega))
  · have hs := hc.resolve_left t
    exact (g2 _ _ (fun y hy e => t (by have e2 : c = y := by omega
                                       rw [e2]; exact hy))).trans (h3 c j hs)
theorem CPd.cast {G uG : GG} {b b2 : Nat} {S T : Nat → Nat → Prop} (h : CPd G uG b b2 S) (hs : ∀ c j, S c j ↔ T c j) : CPd G uG b b2 T := by
  have : S = T := funext fun c => funext fun j => propext (hs c j)
  rw [← this]
  exact h
def cpd (G uG : GG) (b b2 : Nat) : Prop := (∀ k, (k < b ∨ b + 24 ≤ k) → uG k = G k) ∧ ∀ c j, rel c j → uG (b + c) j = G (b2 + c) j
theorem CPd.out {G uG : GG} {b b2 : Nat} {S : Nat → Nat → Prop} (h : CPd G uG b b2 S) (h1 : ∀ c j, S c j → c < 24) (h2 : ∀ c j, rel c j → S c j) : cpd G uG b b2 :=
  ⟨fun k hk => funext fun j => h.2.1 k j (fun c hc => by have := h1 c j hc; omega), fun c j hc => h.2.2 c j (h2 c j hc)⟩
theorem cpd.rep {G uG : GG} {b b2 : Nat} {r : Nat → Int32} (h : cpd G uG b b2) (hR : Rep G b2 r) : Rep uG b r := Rep_cells h.2 hR
theorem cpd.oth {G uG : GG} {b b2 x : Nat} {r : Nat → Int32} (h : cpd G uG b b2) (hB : IsB b) (hx : IsB x) (hn : b ≠ x) (hR : Rep G x r) : Rep uG x r :=
  Rep_frame (fun k h1 h2 => h.1 k (by have := hB.dis hx hn; omega)) hR
set_option maxHeartbeats 4000000 in
set_option maxRecDepth 100000 in
theorem c_X6_copyFrom (l : Launch) (J : JJ) (z : ZZ) (ad : Nat → Nat) (G : GG) (b b2 : Nat) (hB : IsB b) (hB2 : IsB b2) (hd : b + 25 ≤ b2 ∨ b2 + 25 ≤ b) : MV l J z ad yX6_copyFrom cX6_copyFrom 2 1 [.ref (ad (b + 1)), .ref (ad (b2 + 1))] G (fun uG => CPd G uG b b2 (fun c j => (c = 1 ∧ j = 0) ∨ (2 ≤ c ∧ c ≤ 6 ∧ j < 12))) := by
  refine MV.go (by decide) (Nat.le_of_ble_eq_true rfl) ?_
  intro pr e s m args below meth c ls Q X h hl hret
  have hx := X.1
  have hb := X.2.1
  have hown := X.2.2.2.1
  have hts := X.2.2.2.2
  have hl : lv_has ls 2 [(0, .ref (ad (b + 1))), (1, .ref (ad (b2 + 1)))] := hl
  have hF : ∀ c j, ((c = 6 ∧ j < 12) ∨ (c = 5 ∧ j < 12) ∨ (c = 4 ∧ j < 12) ∨ (c = 3 ∧ j < 12) ∨ (c = 2 ∧ j < 12) ∨ (c = 1 ∧ j = 0) ∨ False) → ((c = 1 ∧ j = 0) ∨ (2 ≤ c ∧ c ≤ 6 ∧ j < 12)) := by
    intro c j hc
    rcases hc with ⟨a, d⟩ | ⟨a, d⟩ | ⟨a, d⟩ | ⟨a, d⟩ | ⟨a, d⟩ | ⟨a, d⟩ | hf
    · omega
    · omega
    · omega
    · omega
    · omega
    · omega
    · exact hf.elim
  have hG : ∀ c j, ((c = 1 ∧ j = 0) ∨ (2 ≤ c ∧ c ≤ 6 ∧ j < 12)) → ((c = 6 ∧ j < 12) ∨ (c = 5 ∧ j < 12) ∨ (c = 4 ∧ j < 12) ∨ (c = 3 ∧ j < 12) ∨ (c = 2 ∧ j < 12) ∨ (c = 1 ∧ j = 0) ∨ False) := by
    intro c j hc
    rcases hc with hc | hc
    · exact Or.inr (Or.inr (Or.inr (Or.inr (Or.inr (Or.inl (⟨hc.1, hc.2⟩))))))
    · rcases (show c = 6 ∨ c = 5 ∨ c = 4 ∨ c = 3 ∨ c = 2 by omega) with e | e | e | e | e
      · exact Or.inl (⟨e, hc.2.2⟩)
      · exact Or.inr (Or.inl (⟨e, hc.2.2⟩))
      · exact Or.inr (Or.inr (Or.inl (⟨e, hc.2.2⟩)))
      · exact Or.inr (Or.inr (Or.inr (Or.inl (⟨e, hc.2.2⟩))))
      · exact Or.inr (Or.inr (Or.inr (Or.inr (Or.inl (⟨e, hc.2.2⟩)))))
  have hC := CPd.rf G b b2
  refine lv_aload_n hx hb dX6_copyFrom_0 rfl (lv_at hl 0 rfl) ?_
  refine lv_aload_n hx hb dX6_copyFrom_1 rfl (lv_at hl 1 rfl) ?_
  refine fg_X6_27 hB2 X h dX6_copyFrom_2 ?_
  refine fp_X6_27 hB X h dX6_copyFrom_5 (fun H locs h => ?_)
  have hC : CPd G (u1 G (b + 1) (upd (G (b + 1)) 0 (G (b2 + 1) 0))) b b2 _ := CPd.fld (c := 1) (j0 := 0) hC hd (by omega)
  generalize u1 G (b + 1) (upd (G (b + 1)) 0 (G (b2 + 1) 0)) = U1 at h hC
  refine lv_aload_n hx hb dX6_copyFrom_8 rfl (lv_at hl 1 rfl) ?_
  refine fg_X6_9 hB2 X h dX6_copyFrom_9 ?_
  refine lv_iconst (v := nI 0) hx hb dX6_copyFrom_12 (by decide) ?_
  refine lv_aload_n hx hb dX6_copyFrom_13 rfl (lv_at hl 0 rfl) ?_
  refine fg_X6_9 hB X h dX6_copyFrom_14 ?_
  refine lv_iconst (v := nI 0) hx hb dX6_copyFrom_17 (by decide) ?_
  refine lv_bipush (v := nI 12) hx hb dX6_copyFrom_18 (by decide) ?_
  refine rg_cpy X hl.1 h mw_279 mw_280 mw_281 mw_282 (b2 + 2) (b + 2) (hB2.lt (by decide)) (hB.lt (by decide)) (sa_2 hB2 J ad) (sa_2 hB J ad) rfl (by decide) (Nat.le_of_ble_eq_true rfl) (Nat.le_of_ble_eq_true rfl) dX6_copyFrom_20 (fun H locs h => ?_)
  have hC : CPd G (u1 U1 (b + 2) (fun j => if j < 12 then U1 (b2 + 2) j else U1 (b + 2) j)) b b2 _ := CPd.arr (c := 2) (n := 12) hC hd (by omega)
  generalize u1 U1 (b + 2) (fun j => if j < 12 then U1 (b2 + 2) j else U1 (b + 2) j) = U2 at h hC
  refine lv_aload_n hx hb dX6_copyFrom_23 rfl (lv_at hl 1 rfl) ?_
  refine fg_X6_15 hB2 X h dX6_copyFrom_24 ?_
  refine lv_iconst (v := nI 0) hx hb dX6_copyFrom_27 (by decide) ?_
  refine lv_aload_n hx hb dX6_copyFrom_28 rfl (lv_at hl 0 rfl) ?_
  refine fg_X6_15 hB X h dX6_copyFrom_29 ?_
  refine lv_iconst (v := nI 0) hx hb dX6_copyFrom_32 (by decide) ?_
  refine lv_bipush (v := nI 12) hx hb dX6_copyFrom_33 (by decide) ?_
  refine rg_cpy X hl.1 h mw_279 mw_280 mw_281 mw_282 (b2 + 3) (b + 3) (hB2.lt (by decide)) (hB.lt (by decide)) (sa_3 hB2 J ad) (sa_3 hB J ad) rfl (by decide) (Nat.le_of_ble_eq_true rfl) (Nat.le_of_ble_eq_true rfl) dX6_copyFrom_35 (fun H locs h => ?_)
  have hC : CPd G (u1 U2 (b + 3) (fun j => if j < 12 then U2 (b2 + 3) j else U2 (b + 3) j)) b b2 _ := CPd.arr (c := 3) (n := 12) hC hd (by omega)
  generalize u1 U2 (b + 3) (fun j => if j < 12 then U2 (b2 + 3) j else U2 (b + 3) j) = U3 at h hC
  refine lv_aload_n hx hb dX6_copyFrom_38 rfl (lv_at hl 1 rfl) ?_
  refine fg_X6_18 hB2 X h dX6_copyFrom_39 ?_
  refine lv_iconst (v := nI 0) hx hb dX6_copyFrom_42 (by decide) ?_
  refine lv_aload_n hx hb dX6_copyFrom_43 rfl (lv_at hl 0 rfl) ?_
  refine fg_X6_18 hB X h dX6_copyFrom_44 ?_
  refine lv_iconst (v := nI 0) hx hb dX6_copyFrom_47 (by decide) ?_
  refine lv_bipush (v := nI 12) hx hb dX6_copyFrom_48 (by decide) ?_
  refine rg_cpy X hl.1 h mw_279 mw_280 mw_281 mw_282 (b2 + 4) (b + 4) (hB2.lt (by decide)) (hB.lt (by decide)) (sa_4 hB2 J ad) (sa_4 hB J ad) rfl (by decide) (Nat.le_of_ble_eq_true rfl) (Nat.le_of_ble_eq_true rfl) dX6_copyFrom_50 (fun H locs h => ?_)
  have hC : CPd G (u1 U3 (b + 4) (fun j => if j < 12 then U3 (b2 + 4) j else U3 (b + 4) j)) b b2 _ := CPd.arr (c := 4) (n := 12) hC hd (by omega)
  generalize u1 U3 (b + 4) (fun j => if j < 12 then U3 (b2 + 4) j else U3 (b + 4) j) = U4 at h hC
  refine lv_aload_n hx hb dX6_copyFrom_53 rfl (lv_at hl 1 rfl) ?_
  refine fg_X6_21 hB2 X h dX6_copyFrom_54 ?_
  refine lv_iconst (v := nI 0) hx hb dX6_copyFrom_57 (by decide) ?_
  refine lv_aload_n hx hb dX6_copyFrom_58 rfl (lv_at hl 0 rfl) ?_
  refine fg_X6_21 hB X h dX6_copyFrom_59 ?_
  refine lv_iconst (v := nI 0) hx hb dX6_copyFrom_62 (by decide) ?_
  refine lv_bipush (v := nI 12) hx hb dX6_copyFrom_63 (by decide) ?_
  refine rg_cpy X hl.1 h mw_279 mw_280 mw_281 mw_282 (b2 + 5) (b + 5) (hB2.lt (by decide)) (hB.lt (by decide)) (sa_5 hB2 J ad) (sa_5 hB J ad) rfl (by decide) (Nat.le_of_ble_eq_true rfl) (Nat.le_of_ble_eq_true rfl) dX6_copyFrom_65 (fun H locs h => ?_)
  have hC : CPd G (u1 U4 (b + 5) (fun j => if j < 12 then U4 (b2 + 5) j else U4 (b + 5) j)) b b2 _ := CPd.arr (c := 5) (n := 12) hC hd (by omega)
  generalize u1 U4 (b + 5) (fun j => if j < 12 then U4 (b2 + 5) j else U4 (b + 5) j) = U5 at h hC
  refine lv_aload_n hx hb dX6_copyFrom_68 rfl (lv_at hl 1 rfl) ?_
  refine fg_X6_24 hB2 X h dX6_copyFrom_69 ?_
  refine lv_iconst (v := nI 0) hx hb dX6_copyFrom_72 (by decide) ?_
  refine lv_aload_n hx hb dX6_copyFrom_73 rfl (lv_at hl 0 rfl) ?_
  refine fg_X6_24 hB X h dX6_copyFrom_74 ?_
  refine lv_iconst (v := nI 0) hx hb dX6_copyFrom_77 (by decide) ?_
  refine lv_bipush (v := nI 12) hx hb dX6_copyFrom_78 (by decide) ?_
  refine rg_cpy X hl.1 h mw_279 mw_280 mw_281 mw_282 (b2 + 6) (b + 6) (hB2.lt (by decide)) (hB.lt (by decide)) (sa_6 hB2 J ad) (sa_6 hB J ad) rfl (by decide) (Nat.le_of_ble_eq_true rfl) (Nat.le_of_ble_eq_true rfl) dX6_copyFrom_80 (fun H locs h => ?_)
  have hC : CPd G (u1 U5 (b + 6) (fun j => if j < 12 then U5 (b2 + 6) j else U5 (b + 6) j)) b b2 _ := CPd.arr (c := 6) (n := 12) hC hd (by omega)
  generalize u1 U5 (b + 6) (fun j => if j < 12 then U5 (b2 + 6) j else U5 (b + 6) j) = U6 at h hC
  exact hret U6 _ _ 83 _ (CPd.cast hC (fun c j => ⟨hF c j, hG c j⟩)) h dX6_copyFrom_83
set_option maxHeartbeats 4000000 in
set_option maxRecDepth 100000 in
theorem c_X1_copyFrom (l : Launch) (J : JJ) (z : ZZ) (ad : Nat → Nat) (G : GG) (b b2 : Nat) (hB : IsB b) (hB2 : IsB b2) (hd : b + 25 ≤ b2 ∨ b2 + 25 ≤ b) : MV l J z ad yX1_copyFrom cX1_copyFrom 2 1 [.ref (ad (b + 7)), .ref (ad (b2 + 7))] G (fun uG => CPd G uG b b2 (fun c j => 8 ≤ c ∧ c ≤ 10 ∧ j < 140)) := by
  refine MV.go (by decide) (Nat.le_of_ble_eq_true rfl) ?_
  intro pr e s m args below meth c ls Q X h hl hret
  have hx := X.1
  have hb := X.2.1
  have hown := X.2.2.2.1
  have hts := X.2.2.2.2
  have hl : lv_has ls 2 [(0, .ref (ad (b + 7))), (1, .ref (ad (b2 + 7)))] := hl
  have hF : ∀ c j, ((c = 10 ∧ j < 140) ∨ (c = 9 ∧ j < 140) ∨ (c = 8 ∧ j < 140) ∨ False) → (8 ≤ c ∧ c ≤ 10 ∧ j < 140) := by
    intro c j hc
    rcases hc with ⟨a, d⟩ | ⟨a, d⟩ | ⟨a, d⟩ | hf
    · omega
    · omega
    · omega
    · exact hf.elim
  have hG : ∀ c j, (8 ≤ c ∧ c ≤ 10 ∧ j < 140) → ((c = 10 ∧ j < 140) ∨ (c = 9 ∧ j < 140) ∨ (c = 8 ∧ j < 140) ∨ False) := by
    intro c j hc
    rcases (show c = 10 ∨ c = 9 ∨ c = 8 by omega) with e | e | e
    · exact Or.inl (⟨e, hc.2.2⟩)
    · exact Or.inr (Or.inl (⟨e, hc.2.2⟩))
    · exact Or.inr (Or.inr (Or.inl (⟨e, hc.2.2⟩)))
  have hC := CPd.rf G b b2
  refine lv_aload_n hx hb dX1_copyFrom_0 rfl (lv_at hl 1 rfl) ?_
  refine fg_X1_9 hB2 X h dX1_copyFrom_1 ?_
  refine lv_iconst (v := nI 0) hx hb dX1_copyFrom_4 (by decide) ?_
  refine lv_aload_n hx hb dX1_copyFrom_5 rfl (lv_at hl 0 rfl) ?_
  refine fg_X1_9 hB X h dX1_copyFrom_6 ?_
  refine lv_iconst (v := nI 0) hx hb dX1_copyFrom_9 (by decide) ?_
  refine lv_sipush (v := nI 140) hx hb dX1_copyFrom_10 (by decide) ?_
  refine rg_cpy X hl.1 h mw_287 mw_280 mw_281 mw_282 (b2 + 8) (b + 8) (hB2.lt (by decide)) (hB.lt (by decide)) (sa_8 hB2 J ad) (sa_8 hB J ad) rfl (by decide) (Nat.le_of_ble_eq_true rfl) (Nat.le_of_ble_eq_true rfl) dX1_copyFrom_13 (fun H locs h => ?_)
  have hC : CPd G (u1 G (b + 8) (fun j => if j < 140 then G (b2 + 8) j else G (b + 8) j)) b b2 _ := CPd.arr (c := 8) (n := 140) hC hd (by omega)
  generalize u1 G (b + 8) (fun j => if j < 140 then G (b2 + 8) j else G (b + 8) j) = U1 at h hC
  refine lv_aload_n hx hb dX1_copyFrom_16 rfl (lv_at hl 1 rfl) ?_
  refine fg_X1_15 hB2 X h dX1_copyFrom_17 ?_
  refine lv_iconst (v := nI 0) hx hb dX1_copyFrom_20 (by decide) ?_
  refine lv_aload_n hx hb dX1_copyFrom_21 rfl (lv_at hl 0 rfl) ?_
  refine fg_X1_15 hB X h dX1_copyFrom_22 ?_
  refine lv_iconst (v := nI 0) hx hb dX1_copyFrom_25 (by decide) ?_
  refine lv_sipush (v := nI 140) hx hb dX1_copyFrom_26 (by decide) ?_
  refine rg_cpy X hl.1 h mw_287 mw_280 mw_281 mw_282 (b2 + 9) (b + 9) (hB2.lt (by decide)) (hB.lt (by decide)) (sa_9 hB2 J ad) (sa_9 hB J ad) rfl (by decide) (Nat.le_of_ble_eq_true rfl) (Nat.le_of_ble_eq_true rfl) dX1_copyFrom_29 (fun H locs h => ?_)
  have hC : CPd G (u1 U1 (b + 9) (fun j => if j < 140 then U1 (b2 + 9) j else U1 (b + 9) j)) b b2 _ := CPd.arr (c := 9) (n := 140) hC hd (by omega)
  generalize u1 U1 (b + 9) (fun j => if j < 140 then U1 (b2 + 9) j else U1 (b + 9) j) = U2 at h hC
  refine lv_aload_n hx hb dX1_copyFrom_32 rfl (lv_at hl 1 rfl) ?_
  refine fg_X1_18 hB2 X h dX1_copyFrom_33 ?_
  refine lv_iconst (v := nI 0) hx hb dX1_copyFrom_36 (by decide) ?_
  refine lv_aload_n hx hb dX1_copyFrom_37 rfl (lv_at hl 0 rfl) ?_
  refine fg_X1_18 hB X h dX1_copyFrom_38 ?_
  refine lv_iconst (v := nI 0) hx hb dX1_copyFrom_41 (by decide) ?_
  refine lv_sipush (v := nI 140) hx hb dX1_copyFrom_42 (by decide) ?_
  refine rg_cpy X hl.1 h mw_287 mw_280 mw_281 mw_282 (b2 + 10) (b + 10) (hB2.lt (by decide)) (hB.lt (by decide)) (sa_10 hB2 J ad) (sa_10 hB J ad) rfl (by decide) (Nat.le_of_ble_eq_true rfl) (Nat.le_of_ble_eq_true rfl) dX1_copyFrom_45 (fun H locs h => ?_)
  have hC : CPd G (u1 U2 (b + 10) (fun j => if j < 140 then U2 (b2 + 10) j else U2 (b + 10) j)) b b2 _ := CPd.arr (c := 10) (n := 140) hC hd (by omega)
  generalize u1 U2 (b + 10) (fun j => if j < 140 then U2 (b2 + 10) j else U2 (b + 10) j) = U3 at h hC
  exact hret U3 _ _ 48 _ (CPd.cast hC (fun c j => ⟨hF c j, hG c j⟩)) h dX1_copyFrom_48
set_option maxHeartbeats 4000000 in
set_option maxRecDepth 100000 in
theorem c_X3_copyFrom (l : Launch) (J : JJ) (z : ZZ) (ad : Nat → Nat) (G : GG) (b b2 : Nat) (hB : IsB b) (hB2 : IsB b2) (hd : b + 25 ≤ b2 ∨ b2 + 25 ≤ b) : MV l J z ad yX3_copyFrom cX3_copyFrom 2 1 [.ref (ad (b + 11)), .ref (ad (b2 + 11))] G (fun uG => CPd G uG b b2 (fun c j => (c = 11 ∧ j = 0) ∨ (12 ≤ c ∧ c ≤ 17 ∧ j < 12))) := by
  refine MV.go (by decide) (Nat.le_of_ble_eq_true rfl) ?_
  intro pr e s m args below meth c ls Q X h hl hret
  have hx := X.1
  have hb := X.2.1
  have hown := X.2.2.2.1
  have hts := X.2.2.2.2
  have hl : lv_has ls 2 [(0, .ref (ad (b + 11))), (1, .ref (ad (b2 + 11)))] := hl
  have hF : ∀ c j, ((c = 17 ∧ j < 12) ∨ (c = 16 ∧ j < 12) ∨ (c = 15 ∧ j < 12) ∨ (c = 14 ∧ j < 12) ∨ (c = 13 ∧ j < 12) ∨ (c = 12 ∧ j < 12) ∨ (c = 11 ∧ j = 0) ∨ False) → ((c = 11 ∧ j = 0) ∨ (12 ≤ c ∧ c ≤ 17 ∧ j < 12)) := by
    intro c j hc
    rcases hc with ⟨a, d⟩ | ⟨a, d⟩ | ⟨a, d⟩ | ⟨a, d⟩ | ⟨a, d⟩ | ⟨a, d⟩ | ⟨a, d⟩ | hf
    · omega
    · omega
    · omega
    · omega
    · omega
    · omega
    · omega
    · exact hf.elim
  have hG : ∀ c j, ((c = 11 ∧ j = 0) ∨ (12 ≤ c ∧ c ≤ 17 ∧ j < 12)) → ((c = 17 ∧ j < 12) ∨ (c = 16 ∧ j < 12) ∨ (c = 15 ∧ j < 12) ∨ (c = 14 ∧ j < 12) ∨ (c = 13 ∧ j < 12) ∨ (c = 12 ∧ j < 12) ∨ (c = 11 ∧ j = 0) ∨ False) := by
    intro c j hc
    rcases hc with hc | hc
    · exact Or.inr (Or.inr (Or.inr (Or.inr (Or.inr (Or.inr (Or.inl (⟨hc.1, hc.2⟩)))))))
    · rcases (show c = 17 ∨ c = 16 ∨ c = 15 ∨ c = 14 ∨ c = 13 ∨ c = 12 by omega) with e | e | e | e | e | e
      · exact Or.inl (⟨e, hc.2.2⟩)
      · exact Or.inr (Or.inl (⟨e, hc.2.2⟩))
      · exact Or.inr (Or.inr (Or.inl (⟨e, hc.2.2⟩)))
      · exact Or.inr (Or.inr (Or.inr (Or.inl (⟨e, hc.2.2⟩))))
      · exact Or.inr (Or.inr (Or.inr (Or.inr (Or.inl (⟨e, hc.2.2⟩)))))
      · exact Or.inr (Or.inr (Or.inr (Or.inr (Or.inr (Or.inl (⟨e, hc.2.2⟩))))))
  have hC := CPd.rf G b b2
  refine lv_aload_n hx hb dX3_copyFrom_0 rfl (lv_at hl 0 rfl) ?_
  refine lv_aload_n hx hb dX3_copyFrom_1 rfl (lv_at hl 1 rfl) ?_
  refine fg_X3_30 hB2 X h dX3_copyFrom_2 ?_
  refine fp_X3_30 hB X h dX3_copyFrom_5 (fun H locs h => ?_)
  have hC : CPd G (u1 G (b + 11) (upd (G (b + 11)) 0 (G (b2 + 11) 0))) b b2 _ := CPd.fld (c := 11) (j0 := 0) hC hd (by omega)
  generalize u1 G (b + 11) (upd (G (b + 11)) 0 (G (b2 + 11) 0)) = U1 at h hC
  refine lv_aload_n hx hb dX3_copyFrom_8 rfl (lv_at hl 1 rfl) ?_
  refine fg_X3_9 hB2 X h dX3_copyFrom_9 ?_
  refine lv_iconst (v := nI 0) hx hb dX3_copyFrom_12 (by decide) ?_
  refine lv_aload_n hx hb dX3_copyFrom_13 rfl (lv_at hl 0 rfl) ?_
  refine fg_X3_9 hB X h dX3_copyFrom_14 ?_
  refine lv_iconst (v := nI 0) hx hb dX3_copyFrom_17 (by decide) ?_
  refine lv_bipush (v := nI 12) hx hb dX3_copyFrom_18 (by decide) ?_
  refine rg_cpy X hl.1 h mw_292 mw_280 mw_281 mw_282 (b2 + 12) (b + 12) (hB2.lt (by decide)) (hB.lt (by decide)) (sa_12 hB2 J ad) (sa_12 hB J ad) rfl (by decide) (Nat.le_of_ble_eq_true rfl) (Nat.le_of_ble_eq_true rfl) dX3_copyFrom_20 (fun H locs h => ?_)
  have hC : CPd G (u1 U1 (b + 12) (fun j => if j < 12 then U1 (b2 + 12) j else U1 (b + 12) j)) b b2 _ := CPd.arr (c := 12) (n := 12) hC hd (by omega)
  generalize u1 U1 (b + 12) (fun j => if j < 12 then U1 (b2 + 12) j else U1 (b + 12) j) = U2 at h hC
  refine lv_aload_n hx hb dX3_copyFrom_23 rfl (lv_at hl 1 rfl) ?_
  refine fg_X3_15 hB2 X h dX3_copyFrom_24 ?_
  refine lv_iconst (v := nI 0) hx hb dX3_copyFrom_27 (by decide) ?_
  refine lv_aload_n hx hb dX3_copyFrom_28 rfl (lv_at hl 0 rfl) ?_
  refine fg_X3_15 hB X h dX3_copyFrom_29 ?_
  refine lv_iconst (v := nI 0) hx hb dX3_copyFrom_32 (by decide) ?_
  refine lv_bipush (v := nI 12) hx hb dX3_copyFrom_33 (by decide) ?_
  refine rg_cpy X hl.1 h mw_292 mw_280 mw_281 mw_282 (b2 + 13) (b + 13) (hB2.lt (by decide)) (hB.lt (by decide)) (sa_13 hB2 J ad) (sa_13 hB J ad) rfl (by decide) (Nat.le_of_ble_eq_true rfl) (Nat.le_of_ble_eq_true rfl) dX3_copyFrom_35 (fun H locs h => ?_)
  have hC : CPd G (u1 U2 (b + 13) (fun j => if j < 12 then U2 (b2 + 13) j else U2 (b + 13) j)) b b2 _ := CPd.arr (c := 13) (n := 12) hC hd (by omega)
  generalize u1 U2 (b + 13) (fun j => if j < 12 then U2 (b2 + 13) j else U2 (b + 13) j) = U3 at h hC
  refine lv_aload_n hx hb dX3_copyFrom_38 rfl (lv_at hl 1 rfl) ?_
  refine fg_X3_18 hB2 X h dX3_copyFrom_39 ?_
  refine lv_iconst (v := nI 0) hx hb dX3_copyFrom_42 (by decide) ?_
  refine lv_aload_n hx hb dX3_copyFrom_43 rfl (lv_at hl 0 rfl) ?_
  refine fg_X3_18 hB X h dX3_copyFrom_44 ?_
  refine lv_iconst (v := nI 0) hx hb dX3_copyFrom_47 (by decide) ?_
  refine lv_bipush (v := nI 12) hx hb dX3_copyFrom_48 (by decide) ?_
  refine rg_cpy X hl.1 h mw_292 mw_280 mw_281 mw_282 (b2 + 14) (b + 14) (hB2.lt (by decide)) (hB.lt (by decide)) (sa_14 hB2 J ad) (sa_14 hB J ad) rfl (by decide) (Nat.le_of_ble_eq_true rfl) (Nat.le_of_ble_eq_true rfl) dX3_copyFrom_50 (fun H locs h => ?_)
  have hC : CPd G (u1 U3 (b + 14) (fun j => if j < 12 then U3 (b2 + 14) j else U3 (b + 14) j)) b b2 _ := CPd.arr (c := 14) (n := 12) hC hd (by omega)
  generalize u1 U3 (b + 14) (fun j => if j < 12 then U3 (b2 + 14) j else U3 (b + 14) j) = U4 at h hC
  refine lv_aload_n hx hb dX3_copyFrom_53 rfl (lv_at hl 1 rfl) ?_
  refine fg_X3_21 hB2 X h dX3_copyFrom_54 ?_
  refine lv_iconst (v := nI 0) hx hb dX3_copyFrom_57 (by decide) ?_
  refine lv_aload_n hx hb dX3_copyFrom_58 rfl (lv_at hl 0 rfl) ?_
  refine fg_X3_21 hB X h dX3_copyFrom_59 ?_
  refine lv_iconst (v := nI 0) hx hb dX3_copyFrom_62 (by decide) ?_
  refine lv_bipush (v := nI 12) hx hb dX3_copyFrom_63 (by decide) ?_
  refine rg_cpy X hl.1 h mw_292 mw_280 mw_281 mw_282 (b2 + 15) (b + 15) (hB2.lt (by decide)) (hB.lt (by decide)) (sa_15 hB2 J ad) (sa_15 hB J ad) rfl (by decide) (Nat.le_of_ble_eq_true rfl) (Nat.le_of_ble_eq_true rfl) dX3_copyFrom_65 (fun H locs h => ?_)
  have hC : CPd G (u1 U4 (b + 15) (fun j => if j < 12 then U4 (b2 + 15) j else U4 (b + 15) j)) b b2 _ := CPd.arr (c := 15) (n := 12) hC hd (by omega)
  generalize u1 U4 (b + 15) (fun j => if j < 12 then U4 (b2 + 15) j else U4 (b + 15) j) = U5 at h hC
  refine lv_aload_n hx hb dX3_copyFrom_68 rfl (lv_at hl 1 rfl) ?_
  refine fg_X3_24 hB2 X h dX3_copyFrom_69 ?_
  refine lv_iconst (v := nI 0) hx hb dX3_copyFrom_72 (by decide) ?_
  refine lv_aload_n hx hb dX3_copyFrom_73 rfl (lv_at hl 0 rfl) ?_
  refine fg_X3_24 hB X h dX3_copyFrom_74 ?_
  refine lv_iconst (v := nI 0) hx hb dX3_copyFrom_77 (by decide) ?_
  refine lv_bipush (v := nI 12) hx hb dX3_copyFrom_78 (by decide) ?_
  refine rg_cpy X hl.1 h mw_292 mw_280 mw_281 mw_282 (b2 + 16) (b + 16) (hB2.lt (by decide)) (hB.lt (by decide)) (sa_16 hB2 J ad) (sa_16 hB J ad) rfl (by decide) (Nat.le_of_ble_eq_true rfl) (Nat.le_of_ble_eq_true rfl) dX3_copyFrom_80 (fun H locs h => ?_)
  have hC : CPd G (u1 U5 (b + 16) (fun j => if j < 12 then U5 (b2 + 16) j else U5 (b + 16) j)) b b2 _ := CPd.arr (c := 16) (n := 12) hC hd (by omega)
  generalize u1 U5 (b + 16) (fun j => if j < 12 then U5 (b2 + 16) j else U5 (b + 16) j) = U6 at h hC
  refine lv_aload_n hx hb dX3_copyFrom_83 rfl (lv_at hl 1 rfl) ?_
  refine fg_X3_27 hB2 X h dX3_copyFrom_84 ?_
  refine lv_iconst (v := nI 0) hx hb dX3_copyFrom_87 (by decide) ?_
  refine lv_aload_n hx hb dX3_copyFrom_88 rfl (lv_at hl 0 rfl) ?_
  refine fg_X3_27 hB X h dX3_copyFrom_89 ?_
  refine lv_iconst (v := nI 0) hx hb dX3_copyFrom_92 (by decide) ?_
  refine lv_bipush (v := nI 12) hx hb dX3_copyFrom_93 (by decide) ?_
  refine rg_cpy X hl.1 h mw_292 mw_280 mw_281 mw_282 (b2 + 17) (b + 17) (hB2.lt (by decide)) (hB.lt (by decide)) (sa_17 hB2 J ad) (sa_17 hB J ad) rfl (by decide) (Nat.le_of_ble_eq_true rfl) (Nat.le_of_ble_eq_true rfl) dX3_copyFrom_95 (fun H locs h => ?_)
  have hC : CPd G (u1 U6 (b + 17) (fun j => if j < 12 then U6 (b2 + 17) j else U6 (b + 17) j)) b b2 _ := CPd.arr (c := 17) (n := 12) hC hd (by omega)
  generalize u1 U6 (b + 17) (fun j => if j < 12 then U6 (b2 + 17) j else U6 (b + 17) j) = U7 at h hC
  exact hret U7 _ _ 98 _ (CPd.cast hC (fun c j => ⟨hF c j, hG c j⟩)) h dX3_copyFrom_98
set_option maxHeartbeats 4000000 in
set_option maxRecDepth 100000 in
theorem c_X4_copyFrom (l : Launch) (J : JJ) (z : ZZ) (ad : Nat → Nat) (G : GG) (b b2 : Nat) (hB : IsB b) (hB2 : IsB b2) (hd : b + 25 ≤ b2 ∨ b2 + 25 ≤ b) : MV l J z ad yX4_copyFrom cX4_copyFrom 2 1 [.ref (ad (b + 18)), .ref (ad (b2 + 18))] G (fun uG => CPd G uG b b2 (fun c j => (c = 18 ∧ j = 0) ∨ (19 ≤ c ∧ c ≤ 22 ∧ j < 12))) := by
  refine MV.go (by decide) (Nat.le_of_ble_eq_true rfl) ?_
  intro pr e s m args below meth c ls Q X h hl hret
  have hx := X.1
  have hb := X.2.1
  have hown := X.2.2.2.1
  have hts := X.2.2.2.2
  have hl : lv_has ls 2 [(0, .ref (ad (b + 18))), (1, .ref (ad (b2 + 18)))] := hl
  have hF : ∀ c j, ((c = 22 ∧ j < 12) ∨ (c = 21 ∧ j < 12) ∨ (c = 20 ∧ j < 12) ∨ (c = 19 ∧ j < 12) ∨ (c = 18 ∧ j = 0) ∨ False) → ((c = 18 ∧ j = 0) ∨ (19 ≤ c ∧ c ≤ 22 ∧ j < 12)) := by
    intro c j hc
    rcases hc with ⟨a, d⟩ | ⟨a, d⟩ | ⟨a, d⟩ | ⟨a, d⟩ | ⟨a, d⟩ | hf
    · omega
    · omega
    · omega
    · omega
    · omega
    · exact hf.elim
  have hG : ∀ c j, ((c = 18 ∧ j = 0) ∨ (19 ≤ c ∧ c ≤ 22 ∧ j < 12)) → ((c = 22 ∧ j < 12) ∨ (c = 21 ∧ j < 12) ∨ (c = 20 ∧ j < 12) ∨ (c = 19 ∧ j < 12) ∨ (c = 18 ∧ j = 0) ∨ False) := by
    intro c j hc
    rcases hc with hc | hc
    · exact Or.inr (Or.inr (Or.inr (Or.inr (Or.inl (⟨hc.1, hc.2⟩)))))
    · rcases (show c = 22 ∨ c = 21 ∨ c = 20 ∨ c = 19 by omega) with e | e | e | e
      · exact Or.inl (⟨e, hc.2.2⟩)
      · exact Or.inr (Or.inl (⟨e, hc.2.2⟩))
      · exact Or.inr (Or.inr (Or.inl (⟨e, hc.2.2⟩)))
      · exact Or.inr (Or.inr (Or.inr (Or.inl (⟨e, hc.2.2⟩))))
  have hC := CPd.rf G b b2
  refine lv_aload_n hx hb dX4_copyFrom_0 rfl (lv_at hl 0 rfl) ?_
  refine lv_aload_n hx hb dX4_copyFrom_1 rfl (lv_at hl 1 rfl) ?_
  refine fg_X4_24 hB2 X h dX4_copyFrom_2 ?_
  refine fp_X4_24 hB X h dX4_copyFrom_5 (fun H locs h => ?_)
  have hC : CPd G (u1 G (b + 18) (upd (G (b + 18)) 0 (G (b2 + 18) 0))) b b2 _ := CPd.fld (c := 18) (j0 := 0) hC hd (by omega)
  generalize u1 G (b + 18) (upd (G (b + 18)) 0 (G (b2 + 18) 0)) = U1 at h hC
  refine lv_aload_n hx hb dX4_copyFrom_8 rfl (lv_at hl 1 rfl) ?_
  refine fg_X4_9 hB2 X h dX4_copyFrom_9 ?_
  refine lv_iconst (v := nI 0) hx hb dX4_copyFrom_12 (by decide) ?_
  refine lv_aload_n hx hb dX4_copyFrom_13 rfl (lv_at hl 0 rfl) ?_
  refine fg_X4_9 hB X h dX4_copyFrom_14 ?_
  refine lv_iconst (v := nI 0) hx hb dX4_copyFrom_17 (by decide) ?_
  refine lv_bipush (v := nI 12) hx hb dX4_copyFrom_18 (by decide) ?_
  refine rg_cpy X hl.1 h mw_298 mw_280 mw_281 mw_282 (b2 + 19) (b + 19) (hB2.lt (by decide)) (hB.lt (by decide)) (sa_19 hB2 J ad) (sa_19 hB J ad) rfl (by decide) (Nat.le_of_ble_eq_true rfl) (Nat.le_of_ble_eq_true rfl) dX4_copyFrom_20 (fun H locs h => ?_)
  have hC : CPd G (u1 U1 (b + 19) (fun j => if j < 12 then U1 (b2 + 19) j else U1 (b + 19) j)) b b2 _ := CPd.arr (c := 19) (n := 12) hC hd (by omega)
  generalize u1 U1 (b + 19) (fun j => if j < 12 then U1 (b2 + 19) j else U1 (b + 19) j) = U2 at h hC
  refine lv_aload_n hx hb dX4_copyFrom_23 rfl (lv_at hl 1 rfl) ?_
  refine fg_X4_15 hB2 X h dX4_copyFrom_24 ?_
  refine lv_iconst (v := nI 0) hx hb dX4_copyFrom_27 (by decide) ?_
  refine lv_aload_n hx hb dX4_copyFrom_28 rfl (lv_at hl 0 rfl) ?_
  refine fg_X4_15 hB X h dX4_copyFrom_29 ?_
  refine lv_iconst (v := nI 0) hx hb dX4_copyFrom_32 (by decide) ?_
  refine lv_bipush (v := nI 12) hx hb dX4_copyFrom_33 (by decide) ?_
  refine rg_cpy X hl.1 h mw_298 mw_280 mw_281 mw_282 (b2 + 20) (b + 20) (hB2.lt (by decide)) (hB.lt (by decide)) (sa_20 hB2 J ad) (sa_20 hB J ad) rfl (by decide) (Nat.le_of_ble_eq_true rfl) (Nat.le_of_ble_eq_true rfl) dX4_copyFrom_35 (fun H locs h => ?_)
  have hC : CPd G (u1 U2 (b + 20) (fun j => if j < 12 then U2 (b2 + 20) j else U2 (b + 20) j)) b b2 _ := CPd.arr (c := 20) (n := 12) hC hd (by omega)
  generalize u1 U2 (b + 20) (fun j => if j < 12 then U2 (b2 + 20) j else U2 (b + 20) j) = U3 at h hC
  refine lv_aload_n hx hb dX4_copyFrom_38 rfl (lv_at hl 1 rfl) ?_
  refine fg_X4_18 hB2 X h dX4_copyFrom_39 ?_
  refine lv_iconst (v := nI 0) hx hb dX4_copyFrom_42 (by decide) ?_
  refine lv_aload_n hx hb dX4_copyFrom_43 rfl (lv_at hl 0 rfl) ?_
  refine fg_X4_18 hB X h dX4_copyFrom_44 ?_
  refine lv_iconst (v := nI 0) hx hb dX4_copyFrom_47 (by decide) ?_
  refine lv_bipush (v := nI 12) hx hb dX4_copyFrom_48 (by decide) ?_
  refine rg_cpy X hl.1 h mw_298 mw_280 mw_281 mw_282 (b2 + 21) (b + 21) (hB2.lt (by decide)) (hB.lt (by decide)) (sa_21 hB2 J ad) (sa_21 hB J ad) rfl (by decide) (Nat.le_of_ble_eq_true rfl) (Nat.le_of_ble_eq_true rfl) dX4_copyFrom_50 (fun H locs h => ?_)
  have hC : CPd G (u1 U3 (b + 21) (fun j => if j < 12 then U3 (b2 + 21) j else U3 (b + 21) j)) b b2 _ := CPd.arr (c := 21) (n := 12) hC hd (by omega)
  generalize u1 U3 (b + 21) (fun j => if j < 12 then U3 (b2 + 21) j else U3 (b + 21) j) = U4 at h hC
  refine lv_aload_n hx hb dX4_copyFrom_53 rfl (lv_at hl 1 rfl) ?_
  refine fg_X4_21 hB2 X h dX4_copyFrom_54 ?_
  refine lv_iconst (v := nI 0) hx hb dX4_copyFrom_57 (by decide) ?_
  refine lv_aload_n hx hb dX4_copyFrom_58 rfl (lv_at hl 0 rfl) ?_
  refine fg_X4_21 hB X h dX4_copyFrom_59 ?_
  refine lv_iconst (v := nI 0) hx hb dX4_copyFrom_62 (by decide) ?_
  refine lv_bipush (v := nI 12) hx hb dX4_copyFrom_63 (by decide) ?_
  refine rg_cpy X hl.1 h mw_298 mw_280 mw_281 mw_282 (b2 + 22) (b + 22) (hB2.lt (by decide)) (hB.lt (by decide)) (sa_22 hB2 J ad) (sa_22 hB J ad) rfl (by decide) (Nat.le_of_ble_eq_true rfl) (Nat.le_of_ble_eq_true rfl) dX4_copyFrom_65 (fun H locs h => ?_)
  have hC : CPd G (u1 U4 (b + 22) (fun j => if j < 12 then U4 (b2 + 22) j else U4 (b + 22) j)) b b2 _ := CPd.arr (c := 22) (n := 12) hC hd (by omega)
  generalize u1 U4 (b + 22) (fun j => if j < 12 then U4 (b2 + 22) j else U4 (b + 22) j) = U5 at h hC
  exact hret U5 _ _ 68 _ (CPd.cast hC (fun c j => ⟨hF c j, hG c j⟩)) h dX4_copyFrom_68
set_option maxHeartbeats 4000000 in
set_option maxRecDepth 100000 in
theorem c_X5_copyFrom (l : Launch) (J : JJ) (z : ZZ) (ad : Nat → Nat) (G : GG) (b b2 : Nat) (hB : IsB b) (hB2 : IsB b2) (hd : b + 25 ≤ b2 ∨ b2 + 25 ≤ b) : MV l J z ad yX5_copyFrom cX5_copyFrom 2 2 [.ref (ad b), .ref (ad b2)] G (fun uG => cpd G uG b b2) := by
  refine MV.go (by decide) (Nat.le_of_ble_eq_true rfl) ?_
  intro pr e s m args below meth c ls Q X h hl hret
  have hx := X.1
  have hb := X.2.1
  have hown := X.2.2.2.1
  have hts := X.2.2.2.2
  have hl : lv_has ls 2 [(0, .ref (ad b)), (1, .ref (ad b2))] := hl
  have hF : ∀ c j, ((c = 0 ∧ j = 8) ∨ (c = 0 ∧ j = 7) ∨ (c = 0 ∧ j = 6) ∨ (c = 0 ∧ j = 5) ∨ (c = 23 ∧ j = 1) ∨ (c = 23 ∧ j = 0) ∨ ((c = 18 ∧ j = 0) ∨ (19 ≤ c ∧ c ≤ 22 ∧ j < 12)) ∨ ((c = 11 ∧ j = 0) ∨ (12 ≤ c ∧ c ≤ 17 ∧ j < 12)) ∨ (8 ≤ c ∧ c ≤ 10 ∧ j < 140) ∨ ((c = 1 ∧ j = 0) ∨ (2 ≤ c ∧ c ≤ 6 ∧ j < 12)) ∨ False) → c < 24 := by
    intro c j hc
    rcases hc with ⟨a, d⟩ | ⟨a, d⟩ | ⟨a, d⟩ | ⟨a, d⟩ | ⟨a, d⟩ | ⟨a, d⟩ | hc | hc | hc | hc | hf
    · omega
    · omega
    · omega
    · omega
    · omega
    · omega
    · omega
    · omega
    · omega
    · omega
    · exact hf.elim
  have hG : ∀ c j, rel c j → ((c = 0 ∧ j = 8) ∨ (c = 0 ∧ j = 7) ∨ (c = 0 ∧ j = 6) ∨ (c = 0 ∧ j = 5) ∨ (c = 23 ∧ j = 1) ∨ (c = 23 ∧ j = 0) ∨ ((c = 18 ∧ j = 0) ∨ (19 ≤ c ∧ c ≤ 22 ∧ j < 12)) ∨ ((c = 11 ∧ j = 0) ∨ (12 ≤ c ∧ c ≤ 17 ∧ j < 12)) ∨ (8 ≤ c ∧ c ≤ 10 ∧ j < 140) ∨ ((c = 1 ∧ j = 0) ∨ (2 ≤ c ∧ c ≤ 6 ∧ j < 12)) ∨ False) := by
    intro c j hc
    unfold rel at hc
    rcases hc with ⟨a, d⟩ | ⟨a | a | a, d⟩ | hc | hc | hc | hc | ⟨a, d⟩
    · rcases (show j = 8 ∨ j = 7 ∨ j = 6 ∨ j = 5 by omega) with e | e | e | e
      · exact Or.inl (⟨a, e⟩)
      · exact Or.inr (Or.inl (⟨a, e⟩))
      · exact Or.inr (Or.inr (Or.inl (⟨a, e⟩)))
      · exact Or.inr (Or.inr (Or.inr (Or.inl (⟨a, e⟩))))
    · exact Or.inr (Or.inr (Or.inr (Or.inr (Or.inr (Or.inr (Or.inr (Or.inr (Or.inr (Or.inl (Or.inl ⟨a, d⟩))))))))))
    · exact Or.inr (Or.inr (Or.inr (Or.inr (Or.inr (Or.inr (Or.inr (Or.inl (Or.inl ⟨a, d⟩))))))))
    · exact Or.inr (Or.inr (Or.inr (Or.inr (Or.inr (Or.inr (Or.inl (Or.inl ⟨a, d⟩)))))))
    · exact Or.inr (Or.inr (Or.inr (Or.inr (Or.inr (Or.inr (Or.inr (Or.inr (Or.inr (Or.inl (Or.inr hc))))))))))
    · exact Or.inr (Or.inr (Or.inr (Or.inr (Or.inr (Or.inr (Or.inr (Or.inr (Or.inl (hc)))))))))
    · exact Or.inr (Or.inr (Or.inr (Or.inr (Or.inr (Or.inr (Or.inr (Or.inl (Or.inr hc))))))))
    · exact Or.inr (Or.inr (Or.inr (Or.inr (Or.inr (Or.inr (Or.inl (Or.inr hc)))))))
    · rcases (show j = 1 ∨ j = 0 by omega) with e | e
      · exact Or.inr (Or.inr (Or.inr (Or.inr (Or.inl (⟨a, e⟩)))))
      · exact Or.inr (Or.inr (Or.inr (Or.inr (Or.inr (Or.inl (⟨a, e⟩))))))
  have hC := CPd.rf G b b2
  refine lv_aload_n hx hb dX5_copyFrom_0 rfl (lv_at hl 0 rfl) ?_
  refine fg_X5_12 hB X h dX5_copyFrom_1 ?_
  refine lv_aload_n hx hb dX5_copyFrom_4 rfl (lv_at hl 1 rfl) ?_
  refine fg_X5_12 hB2 X h dX5_copyFrom_5 ?_
  refine rg_cvv (As := [.ref (ad (b2 + 1))]) (rest := []) X hl.1 h (c_X6_copyFrom l J z ad G b b2 hB hB2 hd) mw_275 mw_276 mw_277 mw_30 mw_278 pdX6_copyFrom (hB.lt (by decide)) (so_1 hB J ad _) rfl rfl ⟨Nat.le_of_ble_eq_true rfl, Nat.le_of_ble_eq_true rfl⟩ ⟨Nat.le_of_ble_eq_true rfl, Nat.le_of_ble_eq_true rfl⟩ rfl (Nat.le_of_ble_eq_true rfl) dX5_copyFrom_8 (fun G1 H locs q1 h => ?_)
  have hC := CPd.tr hC q1 hd
  refine lv_aload_n hx hb dX5_copyFrom_11 rfl (lv_at hl 0 rfl) ?_
  refine fg_X5_21 hB X h dX5_copyFrom_12 ?_
  refine lv_aload_n hx hb dX5_copyFrom_15 rfl (lv_at hl 1 rfl) ?_
  refine fg_X5_21 hB2 X h dX5_copyFrom_16 ?_
  refine rg_cvv (As := [.ref (ad (b2 + 7))]) (rest := []) X hl.1 h (c_X1_copyFrom l J z ad G1 b b2 hB hB2 hd) mw_283 mw_284 mw_285 mw_34 mw_286 pdX1_copyFrom (hB.lt (by decide)) (so_7 hB J ad _) rfl rfl ⟨Nat.le_of_ble_eq_true rfl, Nat.le_of_ble_eq_true rfl⟩ ⟨Nat.le_of_ble_eq_true rfl, Nat.le_of_ble_eq_true rfl⟩ rfl (Nat.le_of_ble_eq_true rfl) dX5_copyFrom_19 (fun G2 H locs q2 h => ?_)
  have hC := CPd.tr hC q2 hd
  refine lv_aload_n hx hb dX5_copyFrom_22 rfl (lv_at hl 0 rfl) ?_
  refine fg_X5_28 hB X h dX5_copyFrom_23 ?_
  refine lv_aload_n hx hb dX5_copyFrom_26 rfl (lv_at hl 1 rfl) ?_
  refine fg_X5_28 hB2 X h dX5_copyFrom_27 ?_
  refine rg_cvv (As := [.ref (ad (b2 + 11))]) (rest := []) X hl.1 h (c_X3_copyFrom l J z ad G2 b b2 hB hB2 hd) mw_288 mw_289 mw_290 mw_38 mw_291 pdX3_copyFrom (hB.lt (by decide)) (so_11 hB J ad _) rfl rfl ⟨Nat.le_of_ble_eq_true rfl, Nat.le_of_ble_eq_true rfl⟩ ⟨Nat.le_of_ble_eq_true rfl, Nat.le_of_ble_eq_true rfl⟩ rfl (Nat.le_of_ble_eq_true rfl) dX5_copyFrom_30 (fun G3 H locs q3 h => ?_)
  have hC := CPd.tr hC q3 hd
  refine lv_aload_n hx hb dX5_copyFrom_33 rfl (lv_at hl 0 rfl) ?_
  refine fg_X5_35 hB X h dX5_copyFrom_34 ?_
  refine lv_aload_n hx hb dX5_copyFrom_37 rfl (lv_at hl 1 rfl) ?_
  refine fg_X5_35 hB2 X h dX5_copyFrom_38 ?_
  refine rg_cvv (As := [.ref (ad (b2 + 18))]) (rest := []) X hl.1 h (c_X4_copyFrom l J z ad G3 b b2 hB hB2 hd) mw_293 mw_294 mw_295 mw_42 mw_296 pdX4_copyFrom (hB.lt (by decide)) (so_18 hB J ad _) rfl rfl ⟨Nat.le_of_ble_eq_true rfl, Nat.le_of_ble_eq_true rfl⟩ ⟨Nat.le_of_ble_eq_true rfl, Nat.le_of_ble_eq_true rfl⟩ rfl (Nat.le_of_ble_eq_true rfl) dX5_copyFrom_41 (fun G4 H locs q4 h => ?_)
  have hC := CPd.tr hC q4 hd
  refine lv_aload_n hx hb dX5_copyFrom_44 rfl (lv_at hl 0 rfl) ?_
  refine fg_X5_39 hB X h dX5_copyFrom_45 ?_
  refine lv_iconst (v := nI 0) hx hb dX5_copyFrom_48 (by decide) ?_
  refine lv_aload_n hx hb dX5_copyFrom_49 rfl (lv_at hl 1 rfl) ?_
  refine fg_X5_39 hB2 X h dX5_copyFrom_50 ?_
  refine lv_iconst (v := nI 0) hx hb dX5_copyFrom_53 (by decide) ?_
  refine rg_ild X h (b2 + 23) (hB2.lt (by decide)) (sa_23 hB2 J ad) (0) rfl (by omega) (by decide) dX5_copyFrom_54 ?_
  refine rg_ist X h (b + 23) (hB.lt (by decide)) (sa_23 hB J ad) (0) rfl (by omega) (by decide) dX5_copyFrom_55 (fun H locs h => ?_)
  have hC : CPd G (u1 G4 (b + 23) (upd (G4 (b + 23)) 0 (G4 (b2 + 23) 0))) b b2 _ := CPd.fld (c := 23) (j0 := 0) hC hd (by omega)
  generalize u1 G4 (b + 23) (upd (G4 (b + 23)) 0 (G4 (b2 + 23) 0)) = U1 at h hC
  refine lv_aload_n hx hb dX5_copyFrom_56 rfl (lv_at hl 0 rfl) ?_
  refine fg_X5_39 hB X h dX5_copyFrom_57 ?_
  refine lv_iconst (v := nI 1) hx hb dX5_copyFrom_60 (by decide) ?_
  refine lv_aload_n hx hb dX5_copyFrom_61 rfl (lv_at hl 1 rfl) ?_
  refine fg_X5_39 hB2 X h dX5_copyFrom_62 ?_
  refine lv_iconst (v := nI 1) hx hb dX5_copyFrom_65 (by decide) ?_
  refine rg_ild X h (b2 + 23) (hB2.lt (by decide)) (sa_23 hB2 J ad) (1) rfl (by omega) (by decide) dX5_copyFrom_66 ?_
  refine rg_ist X h (b + 23) (hB.lt (by decide)) (sa_23 hB J ad) (1) rfl (by omega) (by decide) dX5_copyFrom_67 (fun H locs h => ?_)
  have hC : CPd G (u1 U1 (b + 23) (upd (U1 (b + 23)) 1 (U1 (b2 + 23) 1))) b b2 _ := CPd.fld (c := 23) (j0 := 1) hC hd (by omega)
  generalize u1 U1 (b + 23) (upd (U1 (b + 23)) 1 (U1 (b2 + 23) 1)) = U2 at h hC
  refine lv_aload_n hx hb dX5_copyFrom_68 rfl (lv_at hl 0 rfl) ?_
  refine lv_aload_n hx hb dX5_copyFrom_69 rfl (lv_at hl 1 rfl) ?_
  refine fg_X5_59 hB2 X h dX5_copyFrom_70 ?_
  refine fp_X5_59 hB X h dX5_copyFrom_73 (fun H locs h => ?_)
  have hC : CPd G (u1 U2 b (upd (U2 b) 5 (U2 b2 5))) b b2 _ := CPd.fld (c := 0) (j0 := 5) hC hd (by omega)
  generalize u1 U2 b (upd (U2 b) 5 (U2 b2 5)) = U3 at h hC
  refine lv_aload_n hx hb dX5_copyFrom_76 rfl (lv_at hl 0 rfl) ?_
  refine lv_aload_n hx hb dX5_copyFrom_77 rfl (lv_at hl 1 rfl) ?_
  refine fg_X5_63 hB2 X h dX5_copyFrom_78 ?_
  refine fp_X5_63 hB X h dX5_copyFrom_81 (fun H locs h => ?_)
  have hC : CPd G (u1 U3 b (upd (U3 b) 6 (U3 b2 6))) b b2 _ := CPd.fld (c := 0) (j0 := 6) hC hd (by omega)
  generalize u1 U3 b (upd (U3 b) 6 (U3 b2 6)) = U4 at h hC
  refine lv_aload_n hx hb dX5_copyFrom_84 rfl (lv_at hl 0 rfl) ?_
  refine lv_aload_n hx hb dX5_copyFrom_85 rfl (lv_at hl 1 rfl) ?_
  refine fg_X5_66 hB2 X h dX5_copyFrom_86 ?_
  refine fp_X5_66 hB X h dX5_copyFrom_89 (fun H locs h => ?_)
  have hC : CPd G (u1 U4 b (upd (U4 b) 7 (U4 b2 7))) b b2 _ := CPd.fld (c := 0) (j0 := 7) hC hd (by omega)
  generalize u1 U4 b (upd (U4 b) 7 (U4 b2 7)) = U5 at h hC
  refine lv_aload_n hx hb dX5_copyFrom_92 rfl (lv_at hl 0 rfl) ?_
  refine lv_aload_n hx hb dX5_copyFrom_93 rfl (lv_at hl 1 rfl) ?_
  refine fg_X5_69 hB2 X h dX5_copyFrom_94 ?_
  refine fp_X5_69 hB X h dX5_copyFrom_97 (fun H locs h => ?_)
  have hC : CPd G (u1 U5 b (upd (U5 b) 8 (U5 b2 8))) b b2 _ := CPd.fld (c := 0) (j0 := 8) hC hd (by omega)
  generalize u1 U5 b (upd (U5 b) 8 (U5 b2 8)) = U6 at h hC
  exact hret U6 _ _ 100 _ (CPd.out hC hF hG) h dX5_copyFrom_100
set_option maxHeartbeats 4000000 in
set_option maxRecDepth 100000 in
theorem c_X7_isComb (l : Launch) (J : JJ) (z : ZZ) (ad : Nat → Nat) (G : GG) (x : Int32) : MI l J z ad yX7_isComb cX7_isComb 1 .boolean 0 [.int x] G (fun ans uG => ans = (b2 (isN x 6)) ∧ uG = (G)) := by
  refine MZ.go (by decide) (Nat.le_of_ble_eq_true rfl) ?_
  intro pr e s m args below meth c ls Q X h hl hret
  have hx := X.1
  have hb := X.2.1
  have hown := X.2.2.2.1
  have hts := X.2.2.2.2
  have hl : lv_has ls 1 [(0, .int x)] := hl
  refine lv_iload_n hx hb dX7_isComb_0 rfl (lv_at hl 0 rfl) ?_
  refine lv_if_lt (tgt := 14) hx hb dX7_isComb_1 (by decide) (fun c_1 => ?_) (fun c_1 => ?_)
  · refine lv_iconst (v := nI 0) hx hb dX7_isComb_14 (by decide) ?_
    exact hret (nI 0) G _ _ 15 _ (⟨(b2_f (fun q => by first | exact Int32.not_lt.mpr ((lt_isN (by omega)).mpr q).1 c_1 | exact Int32.not_le.mpr ((lt_isN (by omega)).mpr q).2 c_7)).symm, rfl⟩) h rfl dX7_isComb_15
  · refine lv_iload_n hx hb dX7_isComb_4 rfl (lv_at hl 0 rfl) ?_
    refine lv_bipush (v := nI 6) hx hb dX7_isComb_5 (by decide) ?_
    refine lv_icmp_ge (tgt := 14) hx hb dX7_isComb_7 (by decide) (fun c_7 => ?_) (fun c_7 => ?_)
    · refine lv_iconst (v := nI 0) hx hb dX7_isComb_14 (by decide) ?_
      exact hret (nI 0) G _ _ 15 _ (⟨(b2_f (fun q => by first | exact Int32.not_lt.mpr ((lt_isN (by omega)).mpr q).1 c_1 | exact Int32.not_le.mpr ((lt_isN (by omega)).mpr q).2 c_7)).symm, rfl⟩) h rfl dX7_isComb_15
    · refine lv_iconst (v := nI 1) hx hb dX7_isComb_10 (by decide) ?_
      refine lv_goto (tgt := 15) hx hb dX7_isComb_11 (by decide) ?_
      exact hret (nI 1) G _ _ 15 _ (⟨(b2_t ((lt_isN (by omega)).mp ⟨Int32.not_lt.mp c_1, Int32.not_le.mp c_7⟩)).symm, rfl⟩) h rfl dX7_isComb_15
set_option maxHeartbeats 4000000 in
set_option maxRecDepth 100000 in
theorem c_X7_isPlace (l : Launch) (J : JJ) (z : ZZ) (ad : Nat → Nat) (G : GG) (x : Int32) : MI l J z ad yX7_isPlace cX7_isPlace 1 .boolean 0 [.int x] G (fun ans uG => ans = (b2 (isN x 7)) ∧ uG = (G)) := by
  refine MZ.go (by decide) (Nat.le_of_ble_eq_true rfl) ?_
  intro pr e s m args below meth c ls Q X h hl hret
  have hx := X.1
  have hb := X.2.1
  have hown := X.2.2.2.1
  have hts := X.2.2.2.2
  have hl : lv_has ls 1 [(0, .int x)] := hl
  refine lv_iload_n hx hb dX7_isPlace_0 rfl (lv_at hl 0 rfl) ?_
  refine lv_if_lt (tgt := 14) hx hb dX7_isPlace_1 (by decide) (fun c_1 => ?_) (fun c_1 => ?_)
  · refine lv_iconst (v := nI 0) hx hb dX7_isPlace_14 (by decide) ?_
    exact hret (nI 0) G _ _ 15 _ (⟨(b2_f (fun q => by first | exact Int32.not_lt.mpr ((lt_isN (by omega)).mpr q).1 c_1 | exact Int32.not_le.mpr ((lt_isN (by omega)).mpr q).2 c_7)).symm, rfl⟩) h rfl dX7_isPlace_15
  · refine lv_iload_n hx hb dX7_isPlace_4 rfl (lv_at hl 0 rfl) ?_
    refine lv_bipush (v := nI 7) hx hb dX7_isPlace_5 (by decide) ?_
    refine lv_icmp_ge (tgt := 14) hx hb dX7_isPlace_7 (by decide) (fun c_7 => ?_) (fun c_7 => ?_)
    · refine lv_iconst (v := nI 0) hx hb dX7_isPlace_14 (by decide) ?_
      exact hret (nI 0) G _ _ 15 _ (⟨(b2_f (fun q => by first | exact Int32.not_lt.mpr ((lt_isN (by omega)).mpr q).1 c_1 | exact Int32.not_le.mpr ((lt_isN (by omega)).mpr q).2 c_7)).symm, rfl⟩) h rfl dX7_isPlace_15
    · refine lv_iconst (v := nI 1) hx hb dX7_isPlace_10 (by decide) ?_
      refine lv_goto (tgt := 15) hx hb dX7_isPlace_11 (by decide) ?_
      exact hret (nI 1) G _ _ 15 _ (⟨(b2_t ((lt_isN (by omega)).mp ⟨Int32.not_lt.mp c_1, Int32.not_le.mp c_7⟩)).symm, rfl⟩) h rfl dX7_isPlace_15
set_option maxHeartbeats 4000000 in
set_option maxRecDepth 100000 in
theorem c_X7_isDoing (l : Launch) (J : JJ) (z : ZZ) (ad : Nat → Nat) (G : GG) (x : Int32) : MI l J z ad yX7_isDoing cX7_isDoing 1 .boolean 0 [.int x] G (fun ans uG => ans = (b2 (isN x 20)) ∧ uG = (G)) := by
  refine MZ.go (by decide) (Nat.le_of_ble_eq_true rfl) ?_
  intro pr e s m args below meth c ls Q X h hl hret
  have hx := X.1
  have hb := X.2.1
  have hown := X.2.2.2.1
  have hts := X.2.2.2.2
  have hl : lv_has ls 1 [(0, .int x)] := hl
  refine lv_iload_n hx hb dX7_isDoing_0 rfl (lv_at hl 0 rfl) ?_
  refine lv_if_lt (tgt := 14) hx hb dX7_isDoing_1 (by decide) (fun c_1 => ?_) (fun c_1 => ?_)
  · refine lv_iconst (v := nI 0) hx hb dX7_isDoing_14 (by decide) ?_
    exact hret (nI 0) G _ _ 15 _ (⟨(b2_f (fun q => by first | exact Int32.not_lt.mpr ((lt_isN (by omega)).mpr q).1 c_1 | exact Int32.not_le.mpr ((lt_isN (by omega)).mpr q).2 c_7)).symm, rfl⟩) h rfl dX7_isDoing_15
  · refine lv_iload_n hx hb dX7_isDoing_4 rfl (lv_at hl 0 rfl) ?_
    refine lv_bipush (v := nI 20) hx hb dX7_isDoing_5 (by decide) ?_
    refine lv_icmp_ge (tgt := 14) hx hb dX7_isDoing_7 (by decide) (fun c_7 => ?_) (fun c_7 => ?_)
    · refine lv_iconst (v := nI 0) hx hb dX7_isDoing_14 (by decide) ?_
      exact hret (nI 0) G _ _ 15 _ (⟨(b2_f (fun q => by first | exact Int32.not_lt.mpr ((lt_isN (by omega)).mpr q).1 c_1 | exact Int32.not_le.mpr ((lt_isN (by omega)).mpr q).2 c_7)).symm, rfl⟩) h rfl dX7_isDoing_15
    · refine lv_iconst (v := nI 1) hx hb dX7_isDoing_10 (by decide) ?_
      refine lv_goto (tgt := 15) hx hb dX7_isDoing_11 (by decide) ?_
      exact hret (nI 1) G _ _ 15 _ (⟨(b2_t ((lt_isN (by omega)).mp ⟨Int32.not_lt.mp c_1, Int32.not_le.mp c_7⟩)).symm, rfl⟩) h rfl dX7_isDoing_15
set_option maxHeartbeats 4000000 in
set_option maxRecDepth 100000 in
theorem c_X7_sum4 (l : Launch) (J : JJ) (z : ZZ) (ad : Nat → Nat) (G : GG) (b : Nat) (hB : IsB b) : MI l J z ad yX7_sum cX7_sum 6 .int 0 [.ref (ad (b + 4))] G (fun ans uG => ans = (sumN (G (b + 4)) 12) ∧ uG = (G)) := by
  refine MI.go (by decide) (Nat.le_of_ble_eq_true rfl) ?_
  intro pr e s m args below meth c ls Q X h hl hret
  have hx := X.1
  have hb := X.2.1
  have hown := X.2.2.2.1
  have hts := X.2.2.2.2
  have hl : lv_has ls 6 [(0, .ref (ad (b + 4)))] := hl
  refine lv_iconst (v := nI 0) hx hb dX7_sum_0 (by decide) ?_
  refine lv_istore_n (lv' := [(1, .int (nI 0)), (0, .ref (ad (b + 4)))]) hx hb dX7_sum_1 rfl hl (by decide) rfl (fun ls hl => ?_)
  refine lv_aload_n hx hb dX7_sum_2 rfl (lv_at hl 1 rfl) ?_
  refine lv_astore_n (lv' := [(2, .ref (ad (b + 4))), (1, .int (nI 0)), (0, .ref (ad (b + 4)))]) hx hb dX7_sum_3 rfl hl (by decide) rfl (fun ls hl => ?_)
  refine lv_aload_n hx hb dX7_sum_4 rfl (lv_at hl 0 rfl) ?_
  refine rg_len X h (b + 4) (hB.lt (by decide)) (sa_4 hB J ad) (v := nI 12) rfl dX7_sum_5 ?_
  refine lv_istore_n (lv' := [(3, .int (nI 12)), (2, .ref (ad (b + 4))), (1, .int (nI 0)), (0, .ref (ad (b + 4)))]) hx hb dX7_sum_6 rfl hl (by decide) rfl (fun ls hl => ?_)
  refine lv_iconst (v := nI 0) hx hb dX7_sum_7 (by decide) ?_
  refine lv_istore (lv' := [(4, .int (nI 0)), (3, .int (nI 12)), (2, .ref (ad (b + 4))), (1, .int (nI 0)), (0, .ref (ad (b + 4)))]) hx hb dX7_sum_8 hl (by decide) rfl (fun ls hl => ?_)
  have LP_10 : ∀ (k_10 i_10 : Nat), 12 + 1 ≤ i_10 + k_10 → i_10 ≤ 12 → ∀ (H : Heap) (locs : List Loc) (ls : Array Slot), HG J z ad s G H locs → lv_has ls 6 [(1, .int (itr (fun j a => a + G (b + 4) j) (nI 0) i_10)), (2, .ref (ad (b + 4))), (3, .int (nI 12)), (4, .int (nI i_10))] → W pr l e (rmD 0 0 0) s m args below meth c H locs 0 0 Q (F0 m 10 ls []) := by
    intro k_10
    induction k_10 with
    | zero =>
      intro i_10 g1 g2
      exact absurd g1 (by omega)
    | succ k_10 ih_10 =>
      intro i_10 g1_10 g2_10  H locs ls h hl
      refine lv_iload hx hb dX7_sum_10 (lv_at hl 3 rfl) ?_
      refine lv_iload_n hx hb dX7_sum_12 rfl (lv_at hl 2 rfl) ?_
      refine lv_icmp_ge (tgt := 33) hx hb dX7_sum_13 (by decide) (fun c_13 => ?_) (fun c_13 => ?_)
      · rw [nI_leI (by omega) (by omega)] at c_13
        refine lv_iload_n hx hb dX7_sum_33 rfl (lv_at hl 0 rfl) ?_
        exact hret (itr (fun j a => a + G (b + 4) j) (nI 0) i_10) G _ _ 34 _ (⟨by rw [show i_10 = 12 by omega]; rfl, rfl⟩) h dX7_sum_34
      · rw [nI_leI (by omega) (by omega)] at c_13
        refine lv_aload_n hx hb dX7_sum_16 rfl (lv_at hl 1 rfl) ?_
        refine lv_iload hx hb dX7_sum_17 (lv_at hl 3 rfl) ?_
        refine rg_ild X h (b + 4) (hB.lt (by decide)) (sa_4 hB J ad) (i_10) rfl (by omega) (by decide) dX7_sum_19 ?_
        refine lv_istore (lv' := [(5, .int (G (b + 4) i_10)), (1, .int (itr (fun j a => a + G (b + 4) j) (nI 0) i_10)), (2, .ref (ad (b + 4))), (3, .int (nI 12)), (4, .int (nI i_10))]) hx hb dX7_sum_20 hl (by decide) rfl (fun ls hl => ?_)
        refine lv_iload_n hx hb dX7_sum_22 rfl (lv_at hl 1 rfl) ?_
        refine lv_iload hx hb dX7_sum_23 (lv_at hl 0 rfl) ?_
        refine lv_iadd hx hb dX7_sum_25 ?_
        refine lv_istore_n (lv' := [(1, .int ((itr (fun j a => a + G (b + 4) j) (nI 0) i_10) + (G (b + 4) i_10))), (5, .int (G (b + 4) i_10)), (2, .ref (ad (b + 4))), (3, .int (nI 12)), (4, .int (nI i_10))]) hx hb dX7_sum_26 rfl hl (by decide) rfl (fun ls hl => ?_)
        refine lv_iinc (v := nI (i_10 + 1)) (lv' := [(4, .int (nI (i_10 + 1))), (1, .int ((itr (fun j a => a + G (b + 4) j) (nI 0) i_10) + (G (b + 4) i_10))), (5, .int (G (b + 4) i_10)), (2, .ref (ad (b + 4))), (3, .int (nI 12))]) hx hb dX7_sum_27 hl (k := 4) rfl (nI_addc (b := 1) (by omega)) (by decide) rfl (fun ls hl => ?_)
        refine lv_goto (tgt := 10) hx hb dX7_sum_30 (by decide) ?_
        exact ih_10 (i_10 + 1) (by omega) (by omega) _ _ _ h (lv_sub hl [1, 3, 4, 0] rfl)
  exact LP_10 (12 + 1) 0 (by omega) (by omega) _ _ _ h (lv_sub hl [3, 2, 1, 0] rfl)
set_option maxHeartbeats 4000000 in
set_option maxRecDepth 100000 in
theorem c_X7_sum5 (l : Launch) (J : JJ) (z : ZZ) (ad : Nat → Nat) (G : GG) (b : Nat) (hB : IsB b) : MI l J z ad yX7_sum cX7_sum 6 .int 0 [.ref (ad (b + 5))] G (fun ans uG => ans = (sumN (G (b + 5)) 12) ∧ uG = (G)) := by
  refine MI.go (by decide) (Nat.le_of_ble_eq_true rfl) ?_
  intro pr e s m args below meth c ls Q X h hl hret
  have hx := X.1
  have hb := X.2.1
  have hown := X.2.2.2.1
  have hts := X.2.2.2.2
  have hl : lv_has ls 6 [(0, .ref (ad (b + 5)))] := hl
  refine lv_iconst (v := nI 0) hx hb dX7_sum_0 (by decide) ?_
  refine lv_istore_n (lv' := [(1, .int (nI 0)), (0, .ref (ad (b + 5)))]) hx hb dX7_sum_1 rfl hl (by decide) rfl (fun ls hl => ?_)
  refine lv_aload_n hx hb dX7_sum_2 rfl (lv_at hl 1 rfl) ?_
  refine lv_astore_n (lv' := [(2, .ref (ad (b + 5))), (1, .int (nI 0)), (0, .ref (ad (b + 5)))]) hx hb dX7_sum_3 rfl hl (by decide) rfl (fun ls hl => ?_)
  refine lv_aload_n hx hb dX7_sum_4 rfl (lv_at hl 0 rfl) ?_
  refine rg_len X h (b + 5) (hB.lt (by decide)) (sa_5 hB J ad) (v := nI 12) rfl dX7_sum_5 ?_
  refine lv_istore_n (lv' := [(3, .int (nI 12)), (2, .ref (ad (b + 5))), (1, .int (nI 0)), (0, .ref (ad (b + 5)))]) hx hb dX7_sum_6 rfl hl (by decide) rfl (fun ls hl => ?_)
  refine lv_iconst (v := nI 0) hx hb dX7_sum_7 (by decide) ?_
  refine lv_istore (lv' := [(4, .int (nI 0)), (3, .int (nI 12)), (2, .ref (ad (b + 5))), (1, .int (nI 0)), (0, .ref (ad (b + 5)))]) hx hb dX7_sum_8 hl (by decide) rfl (fun ls hl => ?_)
  have LP_10 : ∀ (k_10 i_10 : Nat), 12 + 1 ≤ i_10 + k_10 → i_10 ≤ 12 → ∀ (H : Heap) (locs : List Loc) (ls : Array Slot), HG J z ad s G H locs → lv_has ls 6 [(1, .int (itr (fun j a => a + G (b + 5) j) (nI 0) i_10)), (2, .ref (ad (b + 5))), (3, .int (nI 12)), (4, .int (nI i_10))] → W pr l e (rmD 0 0 0) s m args below meth c H locs 0 0 Q (F0 m 10 ls []) := by
    intro k_10
    induction k_10 with
    | zero =>
      intro i_10 g1 g2
      exact absurd g1 (by omega)
    | succ k_10 ih_10 =>
      intro i_10 g1_10 g2_10  H locs ls h hl
      refine lv_iload hx hb dX7_sum_10 (lv_at hl 3 rfl) ?_
      refine lv_iload_n hx hb dX7_sum_12 rfl (lv_at hl 2 rfl) ?_
      refine lv_icmp_ge (tgt := 33) hx hb dX7_sum_13 (by decide) (fun c_13 => ?_) (fun c_13 => ?_)
      · rw [nI_leI (by omega) (by omega)] at c_13
        refine lv_iload_n hx hb dX7_sum_33 rfl (lv_at hl 0 rfl) ?_
        exact hret (itr (fun j a => a + G (b + 5) j) (nI 0) i_10) G _ _ 34 _ (⟨by rw [show i_10 = 12 by omega]; rfl, rfl⟩) h dX7_sum_34
      · rw [nI_leI (by omega) (by omega)] at c_13
        refine lv_aload_n hx hb dX7_sum_16 rfl (lv_at hl 1 rfl) ?_
        refine lv_iload hx hb dX7_sum_17 (lv_at hl 3 rfl) ?_
        refine rg_ild X h (b + 5) (hB.lt (by decide)) (sa_5 hB J ad) (i_10) rfl (by omega) (by decide) dX7_sum_19 ?_
        refine lv_istore (lv' := [(5, .int (G (b + 5) i_10)), (1, .int (itr (fun j a => a + G (b + 5) j) (nI 0) i_10)), (2, .ref (ad (b + 5))), (3, .int (nI 12)), (4, .int (nI i_10))]) hx hb dX7_sum_20 hl (by decide) rfl (fun ls hl => ?_)
        refine lv_iload_n hx hb dX7_sum_22 rfl (lv_at hl 1 rfl) ?_
        refine lv_iload hx hb dX7_sum_23 (lv_at hl 0 rfl) ?_
        refine lv_iadd hx hb dX7_sum_25 ?_
        refine lv_istore_n (lv' := [(1, .int ((itr (fun j a => a + G (b + 5) j) (nI 0) i_10) + (G (b + 5) i_10))), (5, .int (G (b + 5) i_10)), (2, .ref (ad (b + 5))), (3, .int (nI 12)), (4, .int (nI i_10))]) hx hb dX7_sum_26 rfl hl (by decide) rfl (fun ls hl => ?_)
        refine lv_iinc (v := nI (i_10 + 1)) (lv' := [(4, .int (nI (i_10 + 1))), (1, .int ((itr (fun j a => a + G (b + 5) j) (nI 0) i_10) + (G (b + 5) i_10))), (5, .int (G (b + 5) i_10)), (2, .ref (ad (b + 5))), (3, .int (nI 12))]) hx hb dX7_sum_27 hl (k := 4) rfl (nI_addc (b := 1) (by omega)) (by decide) rfl (fun ls hl => ?_)
        refine lv_goto (tgt := 10) hx hb dX7_sum_30 (by decide) ?_
        exact ih_10 (i_10 + 1) (by omega) (by omega) _ _ _ h (lv_sub hl [1, 3, 4, 0] rfl)
  exact LP_10 (12 + 1) 0 (by omega) (by omega) _ _ _ h (lv_sub hl [3, 2, 1, 0] rfl)
set_option maxHeartbeats 4000000 in
set_option maxRecDepth 100000 in
theorem c_X7_sum6 (l : Launch) (J : JJ) (z : ZZ) (ad : Nat → Nat) (G : GG) (b : Nat) (hB : IsB b) : MI l J z ad yX7_sum cX7_sum 6 .int 0 [.ref (ad (b + 6))] G (fun ans uG => ans = (sumN (G (b + 6)) 12) ∧ uG = (G)) := by
  refine MI.go (by decide) (Nat.le_of_ble_eq_true rfl) ?_
  intro pr e s m args below meth c ls Q X h hl hret
  have hx := X.1
  have hb := X.2.1
  have hown := X.2.2.2.1
  have hts := X.2.2.2.2
  have hl : lv_has ls 6 [(0, .ref (ad (b + 6)))] := hl
  refine lv_iconst (v := nI 0) hx hb dX7_sum_0 (by decide) ?_
  refine lv_istore_n (lv' := [(1, .int (nI 0)), (0, .ref (ad (b + 6)))]) hx hb dX7_sum_1 rfl hl (by decide) rfl (fun ls hl => ?_)
  refine lv_aload_n hx hb dX7_sum_2 rfl (lv_at hl 1 rfl) ?_
  refine lv_astore_n (lv' := [(2, .ref (ad (b + 6))), (1, .int (nI 0)), (0, .ref (ad (b + 6)))]) hx hb dX7_sum_3 rfl hl (by decide) rfl (fun ls hl => ?_)
  refine lv_aload_n hx hb dX7_sum_4 rfl (lv_at hl 0 rfl) ?_
  refine rg_len X h (b + 6) (hB.lt (by decide)) (sa_6 hB J ad) (v := nI 12) rfl dX7_sum_5 ?_
  refine lv_istore_n (lv' := [(3, .int (nI 12)), (2, .ref (ad (b + 6))), (1, .int (nI 0)), (0, .ref (ad (b + 6)))]) hx hb dX7_sum_6 rfl hl (by decide) rfl (fun ls hl => ?_)
  refine lv_iconst (v := nI 0) hx hb dX7_sum_7 (by decide) ?_
  refine lv_istore (lv' := [(4, .int (nI 0)), (3, .int (nI 12)), (2, .ref (ad (b + 6))), (1, .int (nI 0)), (0, .ref (ad (b + 6)))]) hx hb dX7_sum_8 hl (by decide) rfl (fun ls hl => ?_)
  have LP_10 : ∀ (k_10 i_10 : Nat), 12 + 1 ≤ i_10 + k_10 → i_10 ≤ 12 → ∀ (H : Heap) (locs : List Loc) (ls : Array Slot), HG J z ad s G H locs → lv_has ls 6 [(1, .int (itr (fun j a => a + G (b + 6) j) (nI 0) i_10)), (2, .ref (ad (b + 6))), (3, .int (nI 12)), (4, .int (nI i_10))] → W pr l e (rmD 0 0 0) s m args below meth c H locs 0 0 Q (F0 m 10 ls []) := by
    intro k_10
    induction k_10 with
    | zero =>
      intro i_10 g1 g2
      exact absurd g1 (by omega)
    | succ k_10 ih_10 =>
      intro i_10 g1_10 g2_10  H locs ls h hl
      refine lv_iload hx hb dX7_sum_10 (lv_at hl 3 rfl) ?_
      refine lv_iload_n hx hb dX7_sum_12 rfl (lv_at hl 2 rfl) ?_
      refine lv_icmp_ge (tgt := 33) hx hb dX7_sum_13 (by decide) (fun c_13 => ?_) (fun c_13 => ?_)
      · rw [nI_leI (by omega) (by omega)] at c_13
        refine lv_iload_n hx hb dX7_sum_33 rfl (lv_at hl 0 rfl) ?_
        exact hret (itr (fun j a => a + G (b + 6) j) (nI 0) i_10) G _ _ 34 _ (⟨by rw [show i_10 = 12 by omega]; rfl, rfl⟩) h dX7_sum_34
      · rw [nI_leI (by omega) (by omega)] at c_13
        refine lv_aload_n hx hb dX7_sum_16 rfl (lv_at hl 1 rfl) ?_
        refine lv_iload hx hb dX7_sum_17 (lv_at hl 3 rfl) ?_
        refine rg_ild X h (b + 6) (hB.lt (by decide)) (sa_6 hB J ad) (i_10) rfl (by omega) (by decide) dX7_sum_19 ?_
        refine lv_istore (lv' := [(5, .int (G (b + 6) i_10)), (1, .int (itr (fun j a => a + G (b + 6) j) (nI 0) i_10)), (2, .ref (ad (b + 6))), (3, .int (nI 12)), (4, .int (nI i_10))]) hx hb dX7_sum_20 hl (by decide) rfl (fun ls hl => ?_)
        refine lv_iload_n hx hb dX7_sum_22 rfl (lv_at hl 1 rfl) ?_
        refine lv_iload hx hb dX7_sum_23 (lv_at hl 0 rfl) ?_
        refine lv_iadd hx hb dX7_sum_25 ?_
        refine lv_istore_n (lv' := [(1, .int ((itr (fun j a => a + G (b + 6) j) (nI 0) i_10) + (G (b + 6) i_10))), (5, .int (G (b + 6) i_10)), (2, .ref (ad (b + 6))), (3, .int (nI 12)), (4, .int (nI i_10))]) hx hb dX7_sum_26 rfl hl (by decide) rfl (fun ls hl => ?_)
        refine lv_iinc (v := nI (i_10 + 1)) (lv' := [(4, .int (nI (i_10 + 1))), (1, .int ((itr (fun j a => a + G (b + 6) j) (nI 0) i_10) + (G (b + 6) i_10))), (5, .int (G (b + 6) i_10)), (2, .ref (ad (b + 6))), (3, .int (nI 12))]) hx hb dX7_sum_27 hl (k := 4) rfl (nI_addc (b := 1) (by omega)) (by decide) rfl (fun ls hl => ?_)
        refine lv_goto (tgt := 10) hx hb dX7_sum_30 (by decide) ?_
        exact ih_10 (i_10 + 1) (by omega) (by omega) _ _ _ h (lv_sub hl [1, 3, 4, 0] rfl)
  exact LP_10 (12 + 1) 0 (by omega) (by omega) _ _ _ h (lv_sub hl [3, 2, 1, 0] rfl)
set_option maxHeartbeats 4000000 in
set_option maxRecDepth 100000 in
theorem c_X6_knows (l : Launch) (J : JJ) (z : ZZ) (ad : Nat → Nat) (G : GG) (b : Nat) (hB : IsB b) (r : Nat → Int32) (hR : Rep G b r) (x : Int32) : MI l J z ad yX6_knows cX6_knows 2 .boolean 0 [.ref (ad (b + 1)), .int x] G (fun ans uG => ans = (b2 (isN x (kn r))) ∧ uG = (G)) := by
  refine MZ.go (by decide) (Nat.le_of_ble_eq_true rfl) ?_
  intro pr e s m args below meth c ls Q X h hl hret
  have hx := X.1
  have hb := X.2.1
  have hown := X.2.2.2.1
  have hts := X.2.2.2.2
  have hl : lv_has ls 2 [(0, .ref (ad (b + 1))), (1, .int x)] := hl
  have hR0 := hR
  obtain ⟨hI, hS, hL, hP, hQ, hV, hBt⟩ := hR
  have hW := hI.1
  obtain ⟨⟨w1, w2⟩, ⟨w3, w4⟩, ⟨w5, w6⟩, w7, w8⟩ := hI.1
  have k1 : G (b + 1) 0 = nI (kn r) := hS.1.trans w1
  have k2 : G (b + 11) 0 = nI (mn r) := hP.1.trans w3
  have k3 : G (b + 18) 0 = nI (on r) := hQ.1.trans w5
  refine lv_iload_n hx hb dX6_knows_0 rfl (lv_at hl 1 rfl) ?_
  refine lv_if_lt (tgt := 16) hx hb dX6_knows_1 (by decide) (fun c_1 => ?_) (fun c_1 => ?_)
  · refine lv_iconst (v := nI 0) hx hb dX6_knows_16 (by decide) ?_
    exact hret (nI 0) G _ _ 17 _ (⟨(b2_f (fun q => by first | exact Int32.not_lt.mpr ((lt_isN (by omega)).mpr q).1 c_1 | exact Int32.not_le.mpr ((lt_isN (by omega)).mpr q).2 c_9)).symm, rfl⟩) h rfl dX6_knows_17
  · refine lv_iload_n hx hb dX6_knows_4 rfl (lv_at hl 1 rfl) ?_
    refine lv_aload_n hx hb dX6_knows_5 rfl (lv_at hl 0 rfl) ?_
    refine fg_X6_27 hB X h dX6_knows_6 ?_
    refine lv_as (y := nI ((kn r))) (k1) ?_
    refine lv_icmp_ge (tgt := 16) hx hb dX6_knows_9 (by decide) (fun c_9 => ?_) (fun c_9 => ?_)
    · refine lv_iconst (v := nI 0) hx hb dX6_knows_16 (by decide) ?_
      exact hret (nI 0) G _ _ 17 _ (⟨(b2_f (fun q => by first | exact Int32.not_lt.mpr ((lt_isN (by omega)).mpr q).1 c_1 | exact Int32.not_le.mpr ((lt_isN (by omega)).mpr q).2 c_9)).symm, rfl⟩) h rfl dX6_knows_17
    · refine lv_iconst (v := nI 1) hx hb dX6_knows_12 (by decide) ?_
      refine lv_goto (tgt := 17) hx hb dX6_knows_13 (by decide) ?_
      exact hret (nI 1) G _ _ 17 _ (⟨(b2_t ((lt_isN (by omega)).mp ⟨Int32.not_lt.mp c_1, Int32.not_le.mp c_9⟩)).symm, rfl⟩) h rfl dX6_knows_17
set_option maxHeartbeats 4000000 in
set_option maxRecDepth 100000 in
theorem c_X3_has (l : Launch) (J : JJ) (z : ZZ) (ad : Nat → Nat) (G : GG) (b : Nat) (hB : IsB b) (r : Nat → Int32) (hR : Rep G b r) (x : Int32) : MI l J z ad yX3_has cX3_has 2 .boolean 0 [.ref (ad (b + 11)), .int x] G (fun ans uG => ans = (b2 (isN x (mn r))) ∧ uG = (G)) := by
  refine MZ.go (by decide) (Nat.le_of_ble_eq_true rfl) ?_
  intro pr e s m args below meth c ls Q X h hl hret
  have hx := X.1
  have hb := X.2.1
  have hown := X.2.2.2.1
  have hts := X.2.2.2.2
  have hl : lv_has ls 2 [(0, .ref (ad (b + 11))), (1, .int x)] := hl
  have hR0 := hR
  obtain ⟨hI, hS, hL, hP, hQ, hV, hBt⟩ := hR
  have hW := hI.1
  obtain ⟨⟨w1, w2⟩, ⟨w3, w4⟩, ⟨w5, w6⟩, w7, w8⟩ := hI.1
  have k1 : G (b + 1) 0 = nI (kn r) := hS.1.trans w1
  have k2 : G (b + 11) 0 = nI (mn r) := hP.1.trans w3
  have k3 : G (b + 18) 0 = nI (on r) := hQ.1.trans w5
  refine lv_iload_n hx hb dX3_has_0 rfl (lv_at hl 1 rfl) ?_
  refine lv_if_lt (tgt := 16) hx hb dX3_has_1 (by decide) (fun c_1 => ?_) (fun c_1 => ?_)
  · refine lv_iconst (v := nI 0) hx hb dX3_has_16 (by decide) ?_
    exact hret (nI 0) G _ _ 17 _ (⟨(b2_f (fun q => by first | exact Int32.not_lt.mpr ((lt_isN (by omega)).mpr q).1 c_1 | exact Int32.not_le.mpr ((lt_isN (by omega)).mpr q).2 c_9)).symm, rfl⟩) h rfl dX3_has_17
  · refine lv_iload_n hx hb dX3_has_4 rfl (lv_at hl 1 rfl) ?_
    refine lv_aload_n hx hb dX3_has_5 rfl (lv_at hl 0 rfl) ?_
    refine fg_X3_30 hB X h dX3_has_6 ?_
    refine lv_as (y := nI ((mn r))) (k2) ?_
    refine lv_icmp_ge (tgt := 16) hx hb dX3_has_9 (by decide) (fun c_9 => ?_) (fun c_9 => ?_)
    · refine lv_iconst (v := nI 0) hx hb dX3_has_16 (by decide) ?_
      exact hret (nI 0) G _ _ 17 _ (⟨(b2_f (fun q => by first | exact Int32.not_lt.mpr ((lt_isN (by omega)).mpr q).1 c_1 | exact Int32.not_le.mpr ((lt_isN (by omega)).mpr q).2 c_9)).symm, rfl⟩) h rfl dX3_has_17
    · refine lv_iconst (v := nI 1) hx hb dX3_has_12 (by decide) ?_
      refine lv_goto (tgt := 17) hx hb dX3_has_13 (by decide) ?_
      exact hret (nI 1) G _ _ 17 _ (⟨(b2_t ((lt_isN (by omega)).mp ⟨Int32.not_lt.mp c_1, Int32.not_le.mp c_9⟩)).symm, rfl⟩) h rfl dX3_has_17
set_option maxHeartbeats 4000000 in
set_option maxRecDepth 100000 in
theorem c_X6_weightAt (l : Launch) (J : JJ) (z : ZZ) (ad : Nat → Nat) (G : GG) (b : Nat) (hB : IsB b) (r : Nat → Int32) (hR : Rep G b r) (x : Int32) : MI l J z ad yX6_weightAt cX6_weightAt 4 .int 0 [.ref (ad (b + 1)), .int x] G (fun ans uG => ans = (wgt r x) ∧ uG = (G)) := by
  refine MI.go (by decide) (Nat.le_of_ble_eq_true rfl) ?_
  intro pr e s m args below meth c ls Q X h hl hret
  have hx := X.1
  have hb := X.2.1
  have hown := X.2.2.2.1
  have hts := X.2.2.2.2
  have hl : lv_has ls 4 [(0, .ref (ad (b + 1))), (1, .int x)] := hl
  have hR0 := hR
  obtain ⟨hI, hS, hL, hP, hQ, hV, hBt⟩ := hR
  have hW := hI.1
  obtain ⟨⟨w1, w2⟩, ⟨w3, w4⟩, ⟨w5, w6⟩, w7, w8⟩ := hI.1
  have k1 : G (b + 1) 0 = nI (kn r) := hS.1.trans w1
  have k2 : G (b + 11) 0 = nI (mn r) := hP.1.trans w3
  have k3 : G (b + 18) 0 = nI (on r) := hQ.1.trans w5
  refine lv_iconst (v := nI 0) hx hb dX6_weightAt_0 (by decide) ?_
  refine lv_istore_n (lv' := [(2, .int (nI 0)), (0, .ref (ad (b + 1))), (1, .int x)]) hx hb dX6_weightAt_1 rfl hl (by decide) rfl (fun ls hl => ?_)
  refine lv_iconst (v := nI 0) hx hb dX6_weightAt_2 (by decide) ?_
  refine lv_istore_n (lv' := [(3, .int (nI 0)), (2, .int (nI 0)), (0, .ref (ad (b + 1))), (1, .int x)]) hx hb dX6_weightAt_3 rfl hl (by decide) rfl (fun ls hl => ?_)
  have LP_4 : ∀ (k_4 i_4 : Nat), (kn r) + 1 ≤ i_4 + k_4 → i_4 ≤ (kn r) → ∀ (H : Heap) (locs : List Loc) (ls : Array Slot), HG J z ad s G H locs → lv_has ls 4 [(0, .ref (ad (b + 1))), (1, .int x), (2, .int (itr (fun d a => a + (if x = nI 6 ∨ r (6 * d + 12) = x then r (6 * d + 13) else nI 0)) (nI 0) i_4)), (3, .int (nI i_4))] → W pr l e (rmD 0 0 0) s m args below meth c H locs 0 0 Q (F0 m 4 ls []) := by
    intro k_4
    induction k_4 with
    | zero =>
      intro i_4 g1 g2
      exact absurd g1 (by omega)
    | succ k_4 ih_4 =>
      intro i_4 g1_4 g2_4  H locs ls h hl
      refine lv_iload_n hx hb dX6_weightAt_4 rfl (lv_at hl 3 rfl) ?_
      refine lv_aload_n hx hb dX6_weightAt_5 rfl (lv_at hl 0 rfl) ?_
      refine fg_X6_27 hB X h dX6_weightAt_6 ?_
      refine lv_as (y := nI ((kn r))) (k1) ?_
      refine lv_icmp_ge (tgt := 43) hx hb dX6_weightAt_9 (by decide) (fun c_9 => ?_) (fun c_9 => ?_)
      · rw [nI_leI (by omega) (by omega)] at c_9
        refine lv_iload_n hx hb dX6_weightAt_43 rfl (lv_at hl 2 rfl) ?_
        exact hret (itr (fun d a => a + (if x = nI 6 ∨ r (6 * d + 12) = x then r (6 * d + 13) else nI 0)) (nI 0) i_4) G _ _ 44 _ (⟨by rw [show i_4 = kn r by omega]; rfl, rfl⟩) h dX6_weightAt_44
      · rw [nI_leI (by omega) (by omega)] at c_9
        refine lv_iload_n hx hb dX6_weightAt_12 rfl (lv_at hl 1 rfl) ?_
        refine lv_bipush (v := nI 6) hx hb dX6_weightAt_13 (by decide) ?_
        refine lv_icmp_eq (tgt := 28) hx hb dX6_weightAt_15 (by decide) (fun c_15 => ?_) (fun c_15 => ?_)
        · refine lv_iload_n hx hb dX6_weightAt_28 rfl (lv_at hl 2 rfl) ?_
          refine lv_aload_n hx hb dX6_weightAt_29 rfl (lv_at hl 0 rfl) ?_
          refine fg_X6_15 hB X h dX6_weightAt_30 ?_
          refine lv_iload_n hx hb dX6_weightAt_33 rfl (lv_at hl 3 rfl) ?_
          refine rg_ild X h (b + 3) (hB.lt (by decide)) (sa_3 hB J ad) (i_4) rfl (by omega) (by decide) dX6_weightAt_34 ?_
          refine lv_as (y := r (6 * i_4 + 13)) ((hS.2.1 i_4 (by omega)).2.1) ?_
          refine lv_iadd hx hb dX6_weightAt_35 ?_
          refine lv_istore_n (lv' := [(2, .int ((itr (fun d a => a + (if x = nI 6 ∨ r (6 * d + 12) = x then r (6 * d + 13) else nI 0)) (nI 0) i_4) + (r (6 * i_4 + 13)))), (0, .ref (ad (b + 1))), (1, .int x), (3, .int (nI i_4))]) hx hb dX6_weightAt_36 rfl hl (by decide) rfl (fun ls hl => ?_)
          rw [show ((itr (fun d a => a + (if x = nI 6 ∨ r (6 * d + 12) = x then r (6 * d + 13) else nI 0)) (nI 0) i_4) + (r (6 * i_4 + 13))) = itr (fun d a => a + (if x = nI 6 ∨ r (6 * d + 12) = x then r (6 * d + 13) else nI 0)) (nI 0) (i_4 + 1) from by show _ = _ + (ite _ _ _); rw [if_pos (by first | exact Or.inl c_15 | exact Or.inr c_25)]] at hl
          refine lv_iinc (v := nI (i_4 + 1)) (lv' := [(3, .int (nI (i_4 + 1))), (2, .int (itr (fun d a => a + (if x = nI 6 ∨ r (6 * d + 12) = x then r (6 * d + 13) else nI 0)) (nI 0) (i_4 + 1))), (0, .ref (ad (b + 1))), (1, .int x)]) hx hb dX6_weightAt_37 hl (k := 3) rfl (nI_addc (b := 1) (by omega)) (by decide) rfl (fun ls hl => ?_)
          refine lv_goto (tgt := 4) hx hb dX6_weightAt_40 (by decide) ?_
          exact ih_4 (i_4 + 1) (by omega) (by omega) _ _ _ h (lv_sub hl [2, 3, 1, 0] rfl)
        · refine lv_aload_n hx hb dX6_weightAt_18 rfl (lv_at hl 0 rfl) ?_
          refine fg_X6_9 hB X h dX6_weightAt_19 ?_
          refine lv_iload_n hx hb dX6_weightAt_22 rfl (lv_at hl 3 rfl) ?_
          refine rg_ild X h (b + 2) (hB.lt (by decide)) (sa_2 hB J ad) (i_4) rfl (by omega) (by decide) dX6_weightAt_23 ?_
          refine lv_as (y := r (6 * i_4 + 12)) ((hS.2.1 i_4 (by omega)).1) ?_
          refine lv_iload_n hx hb dX6_weightAt_24 rfl (lv_at hl 1 rfl) ?_
          refine lv_icmp_ne (tgt := 37) hx hb dX6_weightAt_25 (by decide) (fun c_25 => ?_) (fun c_25 => ?_)
          · rw [show (itr (fun d a => a + (if x = nI 6 ∨ r (6 * d + 12) = x then r (6 * d + 13) else nI 0)) (nI 0) i_4) = itr (fun d a => a + (if x = nI 6 ∨ r (6 * d + 12) = x then r (6 * d + 13) else nI 0)) (nI 0) (i_4 + 1) from by show _ = _ + (ite _ _ _); rw [if_neg (fun q => q.elim c_15 c_25)]; exact (Int32.add_zero _).symm] at hl
            refine lv_iinc (v := nI (i_4 + 1)) (lv' := [(3, .int (nI (i_4 + 1))), (0, .ref (ad (b + 1))), (1, .int x), (2, .int (itr (fun d a => a + (if x = nI 6 ∨ r (6 * d + 12) = x then r (6 * d + 13) else nI 0)) (nI 0) (i_4 + 1)))]) hx hb dX6_weightAt_37 hl (k := 3) rfl (nI_addc (b := 1) (by omega)) (by decide) rfl (fun ls hl => ?_)
            refine lv_goto (tgt := 4) hx hb dX6_weightAt_40 (by decide) ?_
            exact ih_4 (i_4 + 1) (by omega) (by omega) _ _ _ h (lv_sub hl [1, 2, 3, 0] rfl)
          · refine lv_iload_n hx hb dX6_weightAt_28 rfl (lv_at hl 2 rfl) ?_
            refine lv_aload_n hx hb dX6_weightAt_29 rfl (lv_at hl 0 rfl) ?_
            refine fg_X6_15 hB X h dX6_weightAt_30 ?_
            refine lv_iload_n hx hb dX6_weightAt_33 rfl (lv_at hl 3 rfl) ?_
            refine rg_ild X h (b + 3) (hB.lt (by decide)) (sa_3 hB J ad) (i_4) rfl (by omega) (by decide) dX6_weightAt_34 ?_
            refine lv_as (y := r (6 * i_4 + 13)) ((hS.2.1 i_4 (by omega)).2.1) ?_
            refine lv_iadd hx hb dX6_weightAt_35 ?_
            refine lv_istore_n (lv' := [(2, .int ((itr (fun d a => a + (if x = nI 6 ∨ r (6 * d + 12) = x then r (6 * d + 13) else nI 0)) (nI 0) i_4) + (r (6 * i_4 + 13)))), (0, .ref (ad (b + 1))), (1, .int x), (3, .int (nI i_4))]) hx hb dX6_weightAt_36 rfl hl (by decide) rfl (fun ls hl => ?_)
            rw [show ((itr (fun d a => a + (if x = nI 6 ∨ r (6 * d + 12) = x then r (6 * d + 13) else nI 0)) (nI 0) i_4) + (r (6 * i_4 + 13))) = itr (fun d a => a + (if x = nI 6 ∨ r (6 * d + 12) = x then r (6 * d + 13) else nI 0)) (nI 0) (i_4 + 1) from by show _ = _ + (ite _ _ _); rw [if_pos (by first | exact Or.inl c_15 | exact Or.inr c_25)]] at hl
            refine lv_iinc (v := nI (i_4 + 1)) (lv' := [(3, .int (nI (i_4 + 1))), (2, .int (itr (fun d a => a + (if x = nI 6 ∨ r (6 * d + 12) = x then r (6 * d + 13) else nI 0)) (nI 0) (i_4 + 1))), (0, .ref (ad (b + 1))), (1, .int x)]) hx hb dX6_weightAt_37 hl (k := 3) rfl (nI_addc (b := 1) (by omega)) (by decide) rfl (fun ls hl => ?_)
            refine lv_goto (tgt := 4) hx hb dX6_weightAt_40 (by decide) ?_
            exact ih_4 (i_4 + 1) (by omega) (by omega) _ _ _ h (lv_sub hl [2, 3, 1, 0] rfl)
  exact LP_4 ((kn r) + 1) 0 (by omega) (by omega) _ _ _ h (lv_sub hl [2, 3, 1, 0] rfl)
