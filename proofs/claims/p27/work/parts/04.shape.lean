/-! THE SHAPE: 210 cells, and one more of the law (a row of 12, held in G 210 from 1000 on). 0 the class's object; 1.., 26.., 51.., 76.. its four states (25 cells each: the state, its swarm with five rows, its laws with three, its petitions with six, its refusals with four, settings, verdicts); 101 the history, 102 its ring, 103.., 128.., 153.., 178.. the ring's states; 203 the text with six rows; 210 the reference's object with s, text, order, reasons. All that changes is ints: G k j, the j-th of cell k. -/
abbrev GG : Type := Nat → Nat → Int32
def stC (J : JJ) (ad : Nat → Nat) (b c : Nat) (g : Nat → Int32) : va_E := match c with
  | 0 => .inr (5, [.ref (ad (b + 1)), .ref (ad (b + 7)), .ref (ad (b + 11)), .ref (ad (b + 18)), .ref (ad (b + 23)), .int (g 5), .int (g 6), .int (g 7), .int (g 8), .ref (ad (b + 24))])
  | 1 => .inr (6, [.int (g 0), .ref (ad (b + 2)), .ref (ad (b + 3)), .ref (ad (b + 4)), .ref (ad (b + 5)), .ref (ad (b + 6))])
  | 7 => .inr (1, [.ref (ad (b + 8)), .ref (ad (b + 9)), .ref (ad (b + 10))])
  | 8 => .inl (J.2.1, 140, .inl g)
  | 9 => .inl (J.2.1, 140, .inl g)
  | 10 => .inl (J.2.1, 140, .inl g)
  | 11 => .inr (3, [.int (g 0), .ref (ad (b + 12)), .ref (ad (b + 13)), .ref (ad (b + 14)), .ref (ad (b + 15)), .ref (ad (b + 16)), .ref (ad (b + 17))])
  | 18 => .inr (4, [.int (g 0), .ref (ad (b + 19)), .ref (ad (b + 20)), .ref (ad (b + 21)), .ref (ad (b + 22))])
  | 23 => .inl (J.2.1, 2, .inl g)
  | _ => .inl (J.2.1, 12, .inl g)
def ringF (ad : Nat → Nat) : Nat → Option Nat := va_up (va_up (va_up (va_up (fun _ => none) 0 (some (ad 103))) 1 (some (ad 128))) 2 (some (ad 153))) 3 (some (ad 178))
def txC (J : JJ) (ad : Nat → Nat) (c : Nat) (g : Nat → Int32) : va_E := match c with
  | 0 => .inr (2, [.ref (ad 204), .int (g 1), .int (g 2), .int (g 3), .ref (ad 205), .ref (ad 206), .ref (ad 207), .ref (ad 208), .ref (ad 209)])
  | 1 => .inl (J.2.2.1, 60, .inl g)
  | 7 => .inl (J.2.1, 12, .inl (fun j => g (j + 1000)))
  | _ => .inl (J.2.1, 20, .inl g)
def shC (J : JJ) (ad : Nat → Nat) (k : Nat) (g : Nat → Int32) : va_E :=
  if k = 0 then .inr (7, [.ref (ad 1), .ref (ad 26), .ref (ad 51), .ref (ad 76), .int (g 4), .ref (ad 101), .ref (ad 203), .int (g 7), .int (g 8)])
  else if k < 101 then stC J ad (1 + 25 * ((k - 1) / 25)) ((k - 1) % 25) g
  else if k = 101 then .inr (0, [.ref (ad 102), .int (g 1), .int (g 2)])
  else if k = 102 then .inl (J.2.2.2, 4, .inr (.inr (.inr (.inr (ringF ad)))))
  else if k < 203 then stC J ad (103 + 25 * ((k - 103) / 25)) ((k - 103) % 25) g
  else txC J ad (k - 203) g
def shp (J : JJ) (ad : Nat → Nat) (G : GG) (k : Nat) : va_E := shC J ad k (G k)
def u1 (G : GG) (k : Nat) (g : Nat → Int32) : GG := fun a => if a = k then g else G a
theorem u1_s (G : GG) (k : Nat) (g : Nat → Int32) : u1 G k g k = g := by simp [u1]
theorem u1_n {G : GG} {k a : Nat} {g : Nat → Int32} (h : a ≠ k) : u1 G k g a = G a := by simp [u1, h]
theorem shp_u {J : JJ} {ad : Nat → Nat} {G : GG} {k : Nat} {e : va_E} {g : Nat → Int32} (he : e = shC J ad k g) : va_up (shp J ad G) k e = shp J ad (u1 G k g) := by
  funext a
  by_cases h : a = k
  · subst h
    simp [va_up, shp, u1, he]
  · simp [va_up, shp, u1, h]
/-- the first cell of a state -/
def IsB (b : Nat) : Prop := (b < 101 ∧ b % 25 = 1) ∨ (103 ≤ b ∧ b < 203 ∧ b % 25 = 3)
theorem IsB.lt {b c : Nat} (h : IsB b) (hc : c < 25) : b + c < 210 := by unfold IsB at h; omega
theorem IsB.sh {b c : Nat} (h : IsB b) (hc : c < 25) (J : JJ) (ad : Nat → Nat) (g : Nat → Int32) : shC J ad (b + c) g = stC J ad b c g := by
  unfold shC
  rcases h with ⟨h1, h2⟩ | ⟨h1, h2, h3⟩
  · rw [if_neg (by omega), if_pos (by omega), show 1 + 25 * ((b + c - 1) / 25) = b by omega, show (b + c - 1) % 25 = c by omega]
  · rw [if_neg (by omega), if_neg (by omega), if_neg (by omega), if_neg (by omega), if_pos (by omega), show 103 + 25 * ((b + c - 103) / 25) = b by omega, show (b + c - 103) % 25 = c by omega]
theorem IsB.at {b c : Nat} (h : IsB b) (hc : c < 25) (J : JJ) (ad : Nat → Nat) (G : GG) : shp J ad G (b + c) = stC J ad b c (G (b + c)) := h.sh hc J ad _
theorem isB_1 : IsB 1 := Or.inl ⟨by decide, by decide⟩
theorem isB_26 : IsB 26 := Or.inl ⟨by decide, by decide⟩
theorem isB_51 : IsB 51 := Or.inl ⟨by decide, by decide⟩
theorem isB_76 : IsB 76 := Or.inl ⟨by decide, by decide⟩
theorem isB_103 : IsB 103 := Or.inr ⟨by decide, by decide, by decide⟩
theorem isB_128 : IsB 128 := Or.inr ⟨by decide, by decide, by decide⟩
theorem isB_153 : IsB 153 := Or.inr ⟨by decide, by decide, by decide⟩
theorem isB_178 : IsB 178 := Or.inr ⟨by decide, by decide, by decide⟩
abbrev ZZ : Type := Nat × Nat
theorem zlt {k : Nat} (z : ZZ) (hk : k < 210) : k < 210 + z.2 := Nat.lt_of_lt_of_le hk (Nat.le_add_right _ _)
abbrev HG (J : JJ) (z : ZZ) (ad : Nat → Nat) (s : State) (G : GG) (H : Heap) (locs : List Loc) : Prop := HS J z.1 ad (210 + z.2) (shp J ad G) s H locs
abbrev HV (J : JJ) (z : ZZ) (ad : Nat → Nat) (G : GG) (U : State) : Prop := HU J z.1 ad (210 + z.2) (shp J ad G) U
/-- contracts: a method that answers an int (or boolean), one that answers nothing -/
def MI (l : Launch) (J : JJ) (z : ZZ) (ad : Nat → Nat) (y : MethodName) (cc : ByteArray) (mx : Nat) (ty : FieldType) (d : Nat) (av : List Value) (G : GG) (post : Int32 → GG → Prop) : Prop :=
  Met l y (wsY y cc mx (some ty)) (rmD d 0 0) (va_Pc av (HV J z ad G)) (va_Qi post (HV J z ad) (fun q => z.1 ≤ q)) 0 0 (fun q => z.1 ≤ q)
def MV (l : Launch) (J : JJ) (z : ZZ) (ad : Nat → Nat) (y : MethodName) (cc : ByteArray) (mx : Nat) (d : Nat) (av : List Value) (G : GG) (post : GG → Prop) : Prop :=
  Met l y (wsY y cc mx none) (rmD d 0 0) (va_Pc av (HV J z ad G)) (va_Qv post (HV J z ad) (fun q => z.1 ≤ q)) 0 0 (fun q => z.1 ≤ q)
def QI (J : JJ) (z : ZZ) (ad : Nat → Nat) (below : List Frame) (args : Array Value) (s : State) (post : Int32 → GG → Prop) : State → Prop := MQ below (va_Qi post (HV J z ad) (fun q => z.1 ≤ q)) args s 0 0 (fun q => z.1 ≤ q)
def QV (J : JJ) (z : ZZ) (ad : Nat → Nat) (below : List Frame) (args : Array Value) (s : State) (post : GG → Prop) : State → Prop := MQ below (va_Qv post (HV J z ad) (fun q => z.1 ≤ q)) args s 0 0 (fun q => z.1 ≤ q)
section SHAPE
variable {p : Program} {l : Launch} {e : Env} {R : Room} {s : State} {m : MethodId} {args : Array Value} {below : List Frame} {meth : Method} {c : Code} {H : Heap} {locs : List Loc} {cells slots : Nat} {Q : State → Prop}
variable {cc : ByteArray} {pc : Nat} {ls : Array Slot} {rest : List Value} {J : JJ} {z : ZZ} {z0 nL : Nat} {ad : Nat → Nat} {G : GG} {own : String}
theorem HV.blind {av : List Value} {n : Nat} {ce : Nat → va_E} : FrameBlind (va_Pc av (HU J z0 ad n ce)) := fun a U g mk q => by
  obtain ⟨q0, q1, q2, q3, q4⟩ := q
  exact ⟨q0, va_K.moved (u := U) (U := U.calling g mk a) (Vm.Alike.refl U.vm) q1, q2, q3, q4.1, q4.2.same rfl⟩
theorem HS.toU {n : Nat} {ce : Nat → va_E} (h : HS J z0 ad n ce s H locs) {U : State} (hU : U.heap = H) (hW : s.WarmedH U.vm) : HU J z0 ad n ce U := by
  obtain ⟨hK, hP, hD, hS, hz⟩ := h
  exact ⟨va_K.moved hW.alike hK, by rw [hU]; exact hP, hD, by rw [hU]; exact Nat.le_trans hz.1 hS.1, hz.2.warm hW⟩
theorem HS.ofU {n : Nat} {ce : Nat → va_E} {t : State} {H1 : Heap} {locs1 : List Loc} (h : HU J z0 ad n ce t) (ht : t.heap = H1) (hvm : s.vm.Alike t.vm) (hS : va_S (fun q => z0 ≤ q) s.heap H1 locs1) (hz : z0 ≤ s.heap.size ∧ NW s) : HS J z0 ad n ce s H1 locs1 := by
  obtain ⟨hK, hP, hD, -⟩ := h
  exact ⟨va_K.moved hvm.symm hK, by rw [← ht]; exact hP, hD, hS, hz⟩
theorem HS.of0 {n : Nat} {ce : Nat → va_E} (h : HU J z0 ad n ce s) : HS J z0 ad n ce s s.heap [] := by
  obtain ⟨hK, hP, hD, hz⟩ := h
  exact ⟨hK, hP, hD, va_S.rf, hz⟩
/-- a contract out of a walk -/
theorem MI.walk {y : MethodName} {mx : Nat} {ty : FieldType} {d : Nat} {av : List Value} {post : Int32 → GG → Prop} (hy : plainName y.cls = true) (hlen : (lg_sl av).length ≤ mx)
    (body : ∀ (p : Program) (e : Env) (s : State) (m : MethodId) (below : List Frame) (meth : Method) (c : Code) (ls : Array Slot), Cx p c cc s m y.cls av.toArray mx → meth.sig.returnType = some ty → meth.locks = false → HG J z ad s G s.heap [] → lv_has ls mx (lv_args 0 av) →
      W p l e (rmD d 0 0) s m av.toArray below meth c s.heap [] 0 0 (QI J z ad below av.toArray s post) (F0 m 0 ls [])) : MI l J z ad y cc mx ty d av G post := by
  refine Met.ofW (cc := cc) (maxL := mx) (ret := some ty) hy rfl ?_
  intro p e s m args below meth c s₁ B hml hv
  obtain ⟨rfl, hU⟩ := hv
  have hts := atoms_spec (ws := wsY y cc mx (some ty)) B.pre
  have hl := lv_entry av (n := mx) hlen
  rw [lg_entry_eq]
  exact body p e s m below meth c _ ⟨B.exec, B.bytes, hml, findClass_of_methodNamed B.named, fun w hw => hts w (List.mem_cons_of_mem _ hw)⟩ B.returns B.notSynchronized (HS.of0 hU) hl
theorem MV.walk {y : MethodName} {mx : Nat} {d : Nat} {av : List Value} {post : GG → Prop} (hy : plainName y.cls = true) (hlen : (lg_sl av).length ≤ mx)
    (body : ∀ (p : Program) (e : Env) (s : State) (m : MethodId) (below : List Frame) (meth : Method) (c : Code) (ls : Array Slot), Cx p c cc s m y.cls av.toArray mx → meth.sig.returnType = none → meth.locks = false → HG J z ad s G s.heap [] → lv_has ls mx (lv_args 0 av) →
      W p l e (rmD d 0 0) s m av.toArray below meth c s.heap [] 0 0 (QV J z ad below av.toArray s post) (F0 m 0 ls [])) : MV l J z ad y cc mx d av G post := by
  refine Met.ofW (cc := cc) (maxL := mx) (ret := none) hy rfl ?_
  intro p e s m args below meth c s₁ B hml hv
  obtain ⟨rfl, hU⟩ := hv
  have hts := atoms_spec (ws := wsY y cc mx none) B.pre
  have hl := lv_entry av (n := mx) hlen
  rw [lg_entry_eq]
  exact body p e s m below meth c _ ⟨B.exec, B.bytes, hml, findClass_of_methodNamed B.named, fun w hw => hts w (List.mem_cons_of_mem _ hw)⟩ B.returns B.notSynchronized (HS.of0 hU) hl
/-- the ends -/
theorem rg_ret (X : Cx p c cc s m own args nL) (hr : meth.sig.returnType = some .int) (hlk : meth.locks = false) (h : HG J z ad s G H locs) {v : Int32} {post : Int32 → GG → Prop} (hp : post v G) (hdg : decode cc pc = .ok (.ireturn, 1)) : W p l e R s m args below meth c H locs 0 0 (QI J z ad below args s post) (F0 m pc ls [.int v]) :=
  W.iret X.1 X.2.1 hr (fun t ht hW => ⟨⟨v, G, rfl, hp, h.toU ht hW⟩, h.2.2.2.1.F ht⟩) h.2.2.2.1.2.2 hdg hlk
theorem rg_zret (X : Cx p c cc s m own args nL) (hr : meth.sig.returnType = some .boolean) (hlk : meth.locks = false) (h : HG J z ad s G H locs) {v : Int32} {post : Int32 → GG → Prop} (hv : narrow .boolean (.int v) = .int v) (hp : post v G) (hdg : decode cc pc = .ok (.ireturn, 1)) : W p l e R s m args below meth c H locs 0 0 (QI J z ad below args s post) (F0 m pc ls [.int v]) :=
  W.zret X.1 X.2.1 hr hv (fun t ht hW => ⟨⟨v, G, rfl, hp, h.toU ht hW⟩, h.2.2.2.1.F ht⟩) h.2.2.2.1.2.2 hdg hlk
theorem rg_vret (X : Cx p c cc s m own args nL) (hr : meth.sig.returnType = none) (hlk : meth.locks = false) (h : HG J z ad s G H locs) {post : GG → Prop} (hp : post G) (hdg : decode cc pc = .ok (.return_, 1)) : W p l e R s m args below meth c H locs 0 0 (QV J z ad below args s post) (F0 m pc ls []) :=
  W.vret X.1 X.2.1 hr (fun t ht hW => ⟨⟨G, rfl, hp, h.toU ht hW⟩, h.2.2.2.1.F ht⟩) h.2.2.2.1.2.2 hdg hlk
/-- the calls -/
theorem rg_civ (X : Cx p c cc s m own args nL) (hl : ls.size = nL) (h : HG J z ad s G H locs) {y : MethodName} {bytes : ByteArray} {mx : Nat} {ty : FieldType} {d k : Nat} {As : List Value} {post : Int32 → GG → Prop} (hM : MI l J z ad y bytes mx ty d (.ref (ad k) :: As) G post) {index : Nat} (w1 : Cond.methodLink own index y ∈ ws0) (w2 : Cond.instanceMethod y ∈ ws0) (w3 : Cond.selects y.cls y y ∈ ws0) (w4 : Cond.initialized y.cls ∈ ws0) (w5 : Cond.code y bytes mx (some ty) ∈ ws0)
    (hd : y.cls = y.cls ∧ y.cls ≠ "java/lang/invoke/MethodHandle" ∧ y.cls ≠ "java/lang/invoke/VarHandle" ∧ (parseMethodDescriptor y.desc).map (fun d => d.parameters.length) = some As.length) (hk : k < 210) {ci : Nat} {fs : List Value} {q : vw_C} (he : shC J ad k (G k) = .inr (ci, fs)) (hc : vwCl[ci]? = some q) (hq : q.1 = y.cls) (hR : d + 1 ≤ R.frames ∧ 8 + (mx + 11) + 30 * d ≤ R.locals) (hf : cells + 0 ≤ R.cells ∧ slots + 0 ≤ R.slots) {st : List Value} (hst : st = As.reverse ++ .ref (ad k) :: rest) (hrest : (rest.map fun v => v.category).sum ≤ 8) (hdg : decode cc pc = .ok (.invokevirtual index, 3))
    (kk : ∀ (r : Int32) (G1 : GG) (H1 : Heap) (locs1 : List Loc), post r G1 → HG J z ad s G1 H1 locs1 → W p l e R s m args below meth c H1 locs1 cells slots Q (F0 m (pc + 3) ls (.int r :: rest))) : W p l e R s m args below meth c H locs cells slots Q (F0 m pc ls st) := by
  have hg : GoodIn ws0 (wsV own index y.cls y (wsY y bytes mx (some ty))) := by
    intro w hw
    have hin : w ∈ ws0 := by
      simp only [wsV, wsY, List.mem_append, List.mem_cons, List.not_mem_nil, or_false] at hw
      rcases hw with (rfl | rfl | rfl | rfl) | rfl | hw
      · exact w1
      · exact w2
      · exact w3
      · exact w4
      · exact w5
      · exact hw
    exact ws0_self w hin
  have hrecv : ∃ cell : Cell, H[ad k]? = some cell ∧ cell.vm.isStatics = false ∧ s.vm.findClass y.cls = some cell.cls := by
    have := va_recv (q0 := k) h.1 h.2.1 hc (by rw [wl_get (zlt z hk)]; exact congrArg (fun e => some (ad k, e)) he)
    rw [hq] at this
    exact this
  refine va_calli (st0 := st) (va_runV (As := As) (rest := rest) X hM (cwV As.length X.2.2.2.2 hg rfl rfl rfl hd hR) ⟨HV.blind, hrecv, fun U hU hW => ⟨rfl, h.toU hU hW⟩⟩ rfl rfl hl hst (lv_room hrest) hdg hf) h.2.2.2.1 (fun _ _ h => h) (fun _ h => h) (fun r u t H1 locs1 ht hvm hp hB _ _ hS => ?_)
  exact kk r u H1 locs1 hp (HS.ofU hB ht hvm hS h.2.2.2.2)
theorem rg_cvv (X : Cx p c cc s m own args nL) (hl : ls.size = nL) (h : HG J z ad s G H locs) {y : MethodName} {bytes : ByteArray} {mx : Nat} {d k : Nat} {As : List Value} {post : GG → Prop} (hM : MV l J z ad y bytes mx d (.ref (ad k) :: As) G post) {index : Nat} (w1 : Cond.methodLink own index y ∈ ws0) (w2 : Cond.instanceMethod y ∈ ws0) (w3 : Cond.selects y.cls y y ∈ ws0) (w4 : Cond.initialized y.cls ∈ ws0) (w5 : Cond.code y bytes mx none ∈ ws0)
    (hd : y.cls = y.cls ∧ y.cls ≠ "java/lang/invoke/MethodHandle" ∧ y.cls ≠ "java/lang/invoke/VarHandle" ∧ (parseMethodDescriptor y.desc).map (fun d => d.parameters.length) = some As.length) (hk : k < 210) {ci : Nat} {fs : List Value} {q : vw_C} (he : shC J ad k (G k) = .inr (ci, fs)) (hc : vwCl[ci]? = some q) (hq : q.1 = y.cls) (hR : d + 1 ≤ R.frames ∧ 8 + (mx + 11) + 30 * d ≤ R.locals) (hf : cells + 0 ≤ R.cells ∧ slots + 0 ≤ R.slots) {st : List Value} (hst : st = As.reverse ++ .ref (ad k) :: rest) (hrest : (rest.map fun v => v.category).sum ≤ 8) (hdg : decode cc pc = .ok (.invokevirtual index, 3))
    (kk : ∀ (G1 : GG) (H1 : Heap) (locs1 : List Loc), post G1 → HG J z ad s G1 H1 locs1 → W p l e R s m args below meth c H1 locs1 cells slots Q (F0 m (pc + 3) ls rest)) : W p l e R s m args below meth c H locs cells slots Q (F0 m pc ls st) := by
  have hg : GoodIn ws0 (wsV own index y.cls y (wsY y bytes mx none)) := by
    intro w hw
    have hin : w ∈ ws0 := by
      simp only [wsV, wsY, List.mem_append, List.mem_cons, List.not_mem_nil, or_false] at hw
      rcases hw with (rfl | rfl | rfl | rfl) | rfl | hw
      · exact w1
      · exact w2
      · exact w3
      · exact w4
      · exact w5
      · exact hw
    exact ws0_self w hin
  have hrecv : ∃ cell : Cell, H[ad k]? = some cell ∧ cell.vm.isStatics = false ∧ s.vm.findClass y.cls = some cell.cls := by
    have := va_recv (q0 := k) h.1 h.2.1 hc (by rw [wl_get (zlt z hk)]; exact congrArg (fun e => some (ad k, e)) he)
    rw [hq] at this
    exact this
  refine va_callv (st0 := st) (va_runV (As := As) (rest := rest) X hM (cwV As.length X.2.2.2.2 hg rfl rfl rfl hd hR) ⟨HV.blind, hrecv, fun U hU hW => ⟨rfl, h.toU hU hW⟩⟩ rfl rfl hl hst (lv_room hrest) hdg hf) h.2.2.2.1 (fun _ _ h => h) (fun _ h => h) (fun u t H1 locs1 ht hvm hp hB _ _ hS => ?_)
  exact kk u H1 locs1 hp (HS.ofU hB ht hvm hS h.2.2.2.2)
theorem rg_cis (X : Cx p c cc s m own args nL) (hl : ls.size = nL) (h : HG J z ad s G H locs) {y : MethodName} {bytes : ByteArray} {mx : Nat} {ty : FieldType} {d : Nat} {As : List Value} {post : Int32 → GG → Prop} (hM : MI l J z ad y bytes mx ty d As G post) {index : Nat} (w1 : Cond.methodLink own index y ∈ ws0) (w2 : Cond.static y ∈ ws0) (w4 : Cond.initialized own ∈ ws0) (w5 : Cond.code y bytes mx (some ty) ∈ ws0)
    (hd : y.cls = own ∧ y.cls ≠ "java/lang/invoke/MethodHandle" ∧ y.cls ≠ "java/lang/invoke/VarHandle" ∧ (parseMethodDescriptor y.desc).map (fun d => d.parameters.length) = some As.length) (hR : d + 1 ≤ R.frames ∧ 8 + (mx + 11) + 30 * d ≤ R.locals) (hf : cells + 0 ≤ R.cells ∧ slots + 0 ≤ R.slots) {st : List Value} (hst : st = As.reverse ++ rest) (hrest : (rest.map fun v => v.category).sum ≤ 8) (hdg : decode cc pc = .ok (.invokestatic index, 3))
    (kk : ∀ (r : Int32) (G1 : GG) (H1 : Heap) (locs1 : List Loc), post r G1 → HG J z ad s G1 H1 locs1 → W p l e R s m args below meth c H1 locs1 cells slots Q (F0 m (pc + 3) ls (.int r :: rest))) : W p l e R s m args below meth c H locs cells slots Q (F0 m pc ls st) := by
  have hg : GoodIn ws0 (wsS own index y (wsY y bytes mx (some ty))) := by
    intro w hw
    have hin : w ∈ ws0 := by
      simp only [wsS, wsY, List.mem_append, List.mem_cons, List.not_mem_nil, or_false] at hw
      rcases hw with (rfl | rfl | rfl) | rfl | hw
      · exact w1
      · exact w2
      · exact w4
      · exact w5
      · exact hw
    exact ws0_self w hin
  refine va_calli (st0 := st) (va_runS (As := As) (rest := rest) X hM (cwS As.length X.2.2.2.2 hg rfl rfl rfl hd hR) ⟨HV.blind, fun U hU hW => ⟨rfl, h.toU hU hW⟩⟩ rfl rfl hl hst (lv_room hrest) hdg hf) h.2.2.2.1 (fun _ _ h => h) (fun _ h => h) (fun r u t H1 locs1 ht hvm hp hB _ _ hS => ?_)
  exact kk r u H1 locs1 hp (HS.ofU hB ht hvm hS h.2.2.2.2)
/-- a field that is an int, or a reference, of an object of the world -/
theorem rg_get (X : Cx p c cc s m own args nL) (h : HG J z ad s G H locs) {C : String} {T : u_T} {N ci index : Nat} (hin : ∀ w ∈ u_ws C T N, w ∈ ws0) (hc : vwCl[ci]? = some (C, T, N)) (j : Nat) (hj : j < N) (hlink : Cond.fieldLink own index (T j).1 (T j).2.1 (T j).2.2.1 ∈ ws0) (k : Nat) (hk : k < 210) {F : (Nat → Int32) → List Value} (hO : ∀ g, shC J ad k g = .inr (ci, F g)) {v : Value} (hv : (F (G k))[j]? = some v) (hdg : decode cc pc = .ok (.getfield index, 3))
    (kk : W p l e R s m args below meth c H locs cells slots Q (F0 m (pc + 3) ls (v :: rest))) : W p l e R s m args below meth c H locs cells slots Q (F0 m pc ls (.ref (ad k) :: rest)) :=
  rw_get X h hin hc j hj hlink k (zlt z hk) (hO (G k)) hv hdg kk
theorem rg_put (X : Cx p c cc s m own args nL) (h : HG J z ad s G H locs) {C : String} {T : u_T} {N ci index : Nat} (hin : ∀ w ∈ u_ws C T N, w ∈ ws0) (ty0 : Nat → FieldType) (hty : ∀ k, k < N → parseFieldDescriptor (T k).2.2.1 = some (ty0 k)) (hnm : ∀ a, a < N → ∀ b, b < N → a ≠ b → (T a).2.1 ≠ (T b).2.1) (hc : vwCl[ci]? = some (C, T, N)) (j : Nat) (hj : j < N) (hlink : Cond.fieldLink own index (T j).1 (T j).2.1 (T j).2.2.1 ∈ ws0) (hfin : (T j).2.2.2 = false) (k : Nat) (hk : k < 210) {F : (Nat → Int32) → List Value} (hO : ∀ g, shC J ad k g = .inr (ci, F g)) (hl : ∀ g, j < (F g).length) {v : Int32} (hF : ∀ g, (F g).set j (.int v) = F (upd g j v)) (hn : narrow (ty0 j) (.int v) = .int v) (hfit : fits (ty0 j) (.int v) = true) (hdg : decode cc pc = .ok (.putfield index, 3))
    (kk : ∀ (H1 : Heap) (locs1 : List Loc), HG J z ad s (u1 G k (upd (G k) j v)) H1 locs1 → W p l e R s m args below meth c H1 locs1 cells slots Q (F0 m (pc + 3) ls rest)) : W p l e R s m args below meth c H locs cells slots Q (F0 m pc ls (.int v :: .ref (ad k) :: rest)) := by
  refine rw_put X h hin ty0 hty hnm hc j hj hlink hfin k (zlt z hk) (hO (G k)) (hl _) hn hfit hdg (fun H1 locs1 h1 => kk H1 locs1 ?_)
  rw [shp_u (g := upd (G k) j v) (by rw [hO, hF])] at h1
  exact h1
theorem rg_ild (X : Cx p c cc s m own args nL) (h : HG J z ad s G H locs) (k : Nat) (hk : k < 210) {N : Nat} (hA : ∀ g, shC J ad k g = .inl (J.2.1, N, .inl g)) {i : Int32} (j : Nat) (hi : i = nI j) (hj : j < N) (hN : N < 2 ^ 31) (hdg : decode cc pc = .ok (.iaload, 1))
    (kk : W p l e R s m args below meth c H locs cells slots Q (F0 m (pc + 1) ls (.int (G k j) :: rest))) : W p l e R s m args below meth c H locs cells slots Q (F0 m pc ls (.int i :: .ref (ad k) :: rest)) :=
  rw_ild X h k (zlt z hk) (hA (G k)) j hi hj hN hdg kk
theorem rg_cld (X : Cx p c cc s m own args nL) (h : HG J z ad s G H locs) (k : Nat) (hk : k < 210) {N : Nat} (hA : ∀ g, shC J ad k g = .inl (J.2.2.1, N, .inl g)) {i : Int32} (j : Nat) (hi : i = nI j) (hj : j < N) (hN : N < 2 ^ 31) (hdg : decode cc pc = .ok (.caload, 1))
    (kk : W p l e R s m args below meth c H locs cells slots Q (F0 m (pc + 1) ls (.int (G k j) :: rest))) : W p l e R s m args below meth c H locs cells slots Q (F0 m pc ls (.int i :: .ref (ad k) :: rest)) :=
  rw_cld X h k (zlt z hk) (hA (G k)) j hi hj hN hdg kk
theorem rg_ist (X : Cx p c cc s m own args nL) (h : HG J z ad s G H locs) (k : Nat) (hk : k < 210) {N : Nat} (hA : ∀ g, shC J ad k g = .inl (J.2.1, N, .inl g)) {i x : Int32} (j : Nat) (hi : i = nI j) (hj : j < N) (hN : N < 2 ^ 31) (hdg : decode cc pc = .ok (.iastore, 1))
    (kk : ∀ (H1 : Heap) (locs1 : List Loc), HG J z ad s (u1 G k (upd (G k) j x)) H1 locs1 → W p l e R s m args below meth c H1 locs1 cells slots Q (F0 m (pc + 1) ls rest)) : W p l e R s m args below meth c H locs cells slots Q (F0 m pc ls (.int x :: .int i :: .ref (ad k) :: rest)) := by
  refine rw_ist X h k (zlt z hk) (hA (G k)) j hi hj hN hdg (fun H1 locs1 h1 => kk H1 locs1 ?_)
  rw [shp_u (g := upd (G k) j x) (by rw [hA])] at h1
  exact h1
theorem rg_cst (X : Cx p c cc s m own args nL) (h : HG J z ad s G H locs) (k : Nat) (hk : k < 210) {N : Nat} (hA : ∀ g, shC J ad k g = .inl (J.2.2.1, N, .inl g)) {i x : Int32} (j : Nat) (hi : i = nI j) (hj : j < N) (hN : N < 2 ^ 31) (hdg : decode cc pc = .ok (.castore, 1))
    (kk : ∀ (H1 : Heap) (locs1 : List Loc), HG J z ad s (u1 G k (upd (G k) j (vp_nar .char x))) H1 locs1 → W p l e R s m args below meth c H1 locs1 cells slots Q (F0 m (pc + 1) ls rest)) : W p l e R s m args below meth c H locs cells slots Q (F0 m pc ls (.int x :: .int i :: .ref (ad k) :: rest)) := by
  refine rw_cst X h k (zlt z hk) (hA (G k)) j hi hj hN hdg (fun H1 locs1 h1 => kk H1 locs1 ?_)
  rw [shp_u (g := upd (G k) j (vp_nar .char x)) (by rw [hA])] at h1
  exact h1
theorem rg_cpy (X : Cx p c cc s m own args nL) (hls : ls.size = nL) (h : HG J z ad s G H locs) {index : Nat} (hlink : Cond.methodLink own index arraycopyName ∈ ws0) (hnat : Cond.native arraycopyName ∈ ws0) (hstat : Cond.static arraycopyName ∈ ws0) (hini : Cond.initialized "java/lang/System" ∈ ws0) (k0 k1 : Nat) (hk0 : k0 < 210) (hk1 : k1 < 210) {N : Nat} (hA0 : ∀ g, shC J ad k0 g = .inl (J.2.1, N, .inl g)) (hA1 : ∀ g, shC J ad k1 g = .inl (J.2.1, N, .inl g)) {x : Int32} (hx : x = nI N) (hN : N < 2 ^ 31) (hframes : 1 ≤ R.frames) (hlocals : (rest.map fun v => v.category).sum + (nativeFrameWords "java/lang/System" "arraycopy" 5 + 11) ≤ R.locals) (hdg : decode cc pc = .ok (.invokestatic index, 3))
    (kk : ∀ (H1 : Heap) (locs1 : List Loc), HG J z ad s (u1 G k1 (fun j => if j < N then G k0 j else G k1 j)) H1 locs1 → W p l e R s m args below meth c H1 locs1 cells slots Q (F0 m (pc + 3) ls rest)) : W p l e R s m args below meth c H locs cells slots Q (F0 m pc ls (.int x :: .int 0 :: .ref (ad k1) :: .int 0 :: .ref (ad k0) :: rest)) := by
  refine rw_cpy X hls h hlink hnat hstat hini k0 k1 (zlt z hk0) (zlt z hk1) (hA0 (G k0)) (hA1 (G k1)) hx hN hframes hlocals hdg (fun H1 locs1 h1 => kk H1 locs1 ?_)
  rw [shp_u (g := fun j => if j < N then G k0 j else G k1 j) (by rw [hA1])] at h1
  exact h1
/-- another form of the number on top -/
theorem lv_as {x y : Int32} (hxy : x = y) (k : W p l e R s m args below meth c H locs cells slots Q (F0 m pc ls (.int y :: rest))) : W p l e R s m args below meth c H locs cells slots Q (F0 m pc ls (.int x :: rest)) := by
  subst hxy
  exact k
end SHAPE
