/-! THE WORLD: cells number 0 .. n-1, cell k at the address ad k holding ce k; rows of the kit in these words -/
abbrev JJ : Type := va_G × ClassId × ClassId × ClassId
abbrev tysJ (J : JJ) : List (ClassId × FieldType) := [(J.2.1, .int), (J.2.2.1, .char), (J.2.2.2, .object RX5)]
def wl (ad : Nat → Nat) (n : Nat) (ce : Nat → va_E) : va_W := (List.range n).map fun k => (ad k, ce k)
theorem wl_len {ad : Nat → Nat} {n : Nat} {ce : Nat → va_E} : (wl ad n ce).length = n := by simp [wl]
theorem wl_get {ad : Nat → Nat} {n k : Nat} {ce : Nat → va_E} (hk : k < n) : (wl ad n ce)[k]? = some (ad k, ce k) := by
  simp [wl, hk]
theorem wl_set {ad : Nat → Nat} {n k : Nat} {ce : Nat → va_E} (hk : k < n) (e : va_E) : (wl ad n ce).set k (ad k, e) = wl ad n (va_up ce k e) := by
  apply List.ext_getElem?
  intro i
  by_cases hi : i < n
  · rw [wl_get hi]
    by_cases hik : i = k
    · subst hik
      rw [List.getElem?_set_self (by rw [wl_len]; exact hi)]
      simp [va_up]
    · rw [List.getElem?_set_ne (Ne.symm hik), wl_get hi]
      simp [va_up, hik]
  · rw [List.getElem?_eq_none (by simp [wl_len]; omega), List.getElem?_eq_none (by simp [wl_len]; omega)]
theorem wl_push {ad : Nat → Nat} {n : Nat} {ce : Nat → va_E} (q : Nat) (e : va_E) : wl ad n ce ++ [(q, e)] = wl (va_up ad n q) (n + 1) (va_up ce n e) := by
  unfold wl
  rw [List.range_succ, List.map_append]
  congr 1
  · apply List.map_congr_left
    intro k hk
    have := List.mem_range.mp hk
    simp [va_up, show ¬ k = n by omega]
  · simp [va_up]
/-- the private methods of a nest mate that the class's states call -/
def NW (U : State) : Prop := va_Nw (.methodLinkNest RX5 72 yX7_isComb RX7) U ∧ va_Nw (.methodLinkNest RX5 89 yX7_isPlace RX7) U ∧ va_Nw (.methodLinkNest RX5 92 yX7_isDoing RX7) U
theorem NW.warm {s U : State} (h : NW s) (hW : s.WarmedH U.vm) : NW U := ⟨va_Nw.warmM hW h.1, va_Nw.warmM hW h.2.1, va_Nw.warmM hW h.2.2⟩
theorem NW.same {s U : State} (h : NW s) (hv : s.vm = U.vm) : NW U := ⟨va_Nw.same rfl hv h.1, va_Nw.same rfl hv h.2.1, va_Nw.same rfl hv h.2.2⟩
/-- what a method's walk holds of machine and heap -/
def HS (J : JJ) (z : Nat) (ad : Nat → Nat) (n : Nat) (ce : Nat → va_E) (s : State) (H : Heap) (locs : List Loc) : Prop :=
  va_K J.1 vwCl (tysJ J) s ∧ va_P J.1 vwCl (wl ad n ce) H ∧ va_D (fun q => z ≤ q) (wl ad n ce) ∧ va_S (fun q => z ≤ q) s.heap H locs ∧ z ≤ s.heap.size ∧ NW s
/-- the same at a state, ahead of a call or behind it -/
def HU (J : JJ) (z : Nat) (ad : Nat → Nat) (n : Nat) (ce : Nat → va_E) (U : State) : Prop :=
  va_K J.1 vwCl (tysJ J) U ∧ va_P J.1 vwCl (wl ad n ce) U.heap ∧ va_D (fun q => z ≤ q) (wl ad n ce) ∧ z ≤ U.heap.size ∧ NW U
/-- the machine's facts of a method of the class own -/
def Cx (p : Program) (c : Code) (cc : ByteArray) (s : State) (m : MethodId) (own : String) (args : Array Value) (nL : Nat) : Prop :=
  p.tables.exec = Jvm.exec ∧ c.code = cc ∧ c.maxLocals = nL ∧ s.vm.findClass own = some m.cls ∧ ∀ w ∈ ws0, w.before args s = true
def rmD (d mc ms : Nat) : Room := { frames := d, cells := mc, slots := ms, locals := 30 * d }
abbrev wsY (y : MethodName) (cc : ByteArray) (mx : Nat) (ret : Option FieldType) : List Cond := .code y cc mx ret :: ws0
section BASE
variable {p : Program} {l : Launch} {e : Env} {R : Room} {s : State} {m : MethodId} {args : Array Value} {below : List Frame} {meth : Method} {c : Code} {H : Heap} {locs : List Loc} {cells slots : Nat} {Q : State → Prop}
variable {cc : ByteArray} {pc : Nat} {ls : Array Slot} {rest : List Value} {J : JJ} {z n nL : Nat} {ad : Nat → Nat} {ce : Nat → va_E} {own : String}
theorem rw_get (X : Cx p c cc s m own args nL) (h : HS J z ad n ce s H locs) {C : String} {T : u_T} {N ci index : Nat} (hin : ∀ w ∈ u_ws C T N, w ∈ ws0) (hc : vwCl[ci]? = some (C, T, N)) (j : Nat) (hj : j < N) (hlink : Cond.fieldLink own index (T j).1 (T j).2.1 (T j).2.2.1 ∈ ws0) (k : Nat) (hk : k < n) {fs : List Value} (he : ce k = .inr (ci, fs)) {v : Value} (hv : fs[j]? = some v) (hdg : decode cc pc = .ok (.getfield index, 3))
    (kk : W p l e R s m args below meth c H locs cells slots Q (F0 m (pc + 3) ls (v :: rest))) : W p l e R s m args below meth c H locs cells slots Q (F0 m pc ls (.ref (ad k) :: rest)) := by
  obtain ⟨hx, hb, hml, hown, hts⟩ := X
  obtain ⟨hK, hP, hD, hS, hz⟩ := h
  exact va_get hx hb hts hin hown hK hP k (by rw [wl_get hk, he]) hc j hj (hts _ hlink) (fun _ h9 => h9) hv hdg kk
theorem rw_put (X : Cx p c cc s m own args nL) (h : HS J z ad n ce s H locs) {C : String} {T : u_T} {N ci index : Nat} (hin : ∀ w ∈ u_ws C T N, w ∈ ws0) (ty0 : Nat → FieldType) (hty : ∀ k, k < N → parseFieldDescriptor (T k).2.2.1 = some (ty0 k)) (hnm : ∀ a, a < N → ∀ b, b < N → a ≠ b → (T a).2.1 ≠ (T b).2.1) (hc : vwCl[ci]? = some (C, T, N)) (j : Nat) (hj : j < N) (hlink : Cond.fieldLink own index (T j).1 (T j).2.1 (T j).2.2.1 ∈ ws0) (hfin : (T j).2.2.2 = false) (k : Nat) (hk : k < n) {fs : List Value} (he : ce k = .inr (ci, fs)) (hl : j < fs.length) {v : Value} (hn : narrow (ty0 j) v = v) (hfit : fits (ty0 j) v = true) (hdg : decode cc pc = .ok (.putfield index, 3))
    (kk : ∀ (H1 : Heap) (locs1 : List Loc), HS J z ad n (va_up ce k (.inr (ci, fs.set j v))) s H1 locs1 → W p l e R s m args below meth c H1 locs1 cells slots Q (F0 m (pc + 3) ls rest)) : W p l e R s m args below meth c H locs cells slots Q (F0 m pc ls (v :: .ref (ad k) :: rest)) := by
  obtain ⟨hx, hb, hml, hown, hts⟩ := X
  obtain ⟨hK, hP, hD, hS, hz⟩ := h
  refine va_put hx hb hts hin ty0 hty hnm hown hK hP hD hS k (by rw [wl_get hk, he]) hc j hj (hts _ hlink) (fun _ h9 => h9) hfin (hty j hj) hn hfit hl hdg (fun H1 locs1 hP1 hD1 hS1 => ?_)
  rw [wl_set hk] at hP1 hD1
  exact kk H1 locs1 ⟨hK, hP1, hD1, hS1, hz⟩
theorem rw_putF (X : Cx p c cc s m own args nL) (hinit : meth.name = "<init>") (h : HS J z ad n ce s H locs) {C : String} {T : u_T} {N ci index : Nat} (hin : ∀ w ∈ u_ws C T N, w ∈ ws0) (ty0 : Nat → FieldType) (hty : ∀ k, k < N → parseFieldDescriptor (T k).2.2.1 = some (ty0 k)) (hnm : ∀ a, a < N → ∀ b, b < N → a ≠ b → (T a).2.1 ≠ (T b).2.1) (hc : vwCl[ci]? = some (C, T, N)) (j : Nat) (hj : j < N) (hlink : Cond.fieldLink own index (T j).1 (T j).2.1 (T j).2.2.1 ∈ ws0) (hfin : (T j).2.2.2 = true) (hdecl : (T j).1 = own) (k : Nat) (hk : k < n) {fs : List Value} (he : ce k = .inr (ci, fs)) (hl : j < fs.length) {v : Value} (hn : narrow (ty0 j) v = v) (hfit : fits (ty0 j) v = true) (hdg : decode cc pc = .ok (.putfield index, 3))
    (kk : ∀ (H1 : Heap) (locs1 : List Loc), HS J z ad n (va_up ce k (.inr (ci, fs.set j v))) s H1 locs1 → W p l e R s m args below meth c H1 locs1 cells slots Q (F0 m (pc + 3) ls rest)) : W p l e R s m args below meth c H locs cells slots Q (F0 m pc ls (v :: .ref (ad k) :: rest)) := by
  obtain ⟨hx, hb, hml, hown, hts⟩ := X
  obtain ⟨hK, hP, hD, hS, hz⟩ := h
  refine va_putF hx hb hts hin ty0 hty hnm hown hK hP hD hS k (by rw [wl_get hk, he]) hc j hj (hts _ hlink) (fun _ h9 => h9) hfin hinit hdecl (hty j hj) hn hfit hl hdg (fun H1 locs1 hP1 hD1 hS1 => ?_)
  rw [wl_set hk] at hP1 hD1
  exact kk H1 locs1 ⟨hK, hP1, hD1, hS1, hz⟩
theorem rw_ild (X : Cx p c cc s m own args nL) (h : HS J z ad n ce s H locs) (k : Nat) (hk : k < n) {N : Nat} {f : Nat → Int32} (he : ce k = .inl (J.2.1, N, .inl f)) {i : Int32} (j : Nat) (hi : i = nI j) (hj : j < N) (hN : N < 2 ^ 31) (hdg : decode cc pc = .ok (.iaload, 1))
    (kk : W p l e R s m args below meth c H locs cells slots Q (F0 m (pc + 1) ls (.int (f j) :: rest))) : W p l e R s m args below meth c H locs cells slots Q (F0 m pc ls (.int i :: .ref (ad k) :: rest)) := by
  obtain ⟨hx, hb, hml, hown, hts⟩ := X
  obtain ⟨hK, hP, hD, hS, hz⟩ := h
  subst hi
  refine va_iald hx hb hK hP k 0 (by rw [wl_get hk, he]) rfl (vp_in_nI hj hN) hdg ?_
  rw [nI_clamp (Nat.lt_trans hj hN)]
  exact kk
theorem rw_cld (X : Cx p c cc s m own args nL) (h : HS J z ad n ce s H locs) (k : Nat) (hk : k < n) {N : Nat} {f : Nat → Int32} (he : ce k = .inl (J.2.2.1, N, .inl f)) {i : Int32} (j : Nat) (hi : i = nI j) (hj : j < N) (hN : N < 2 ^ 31) (hdg : decode cc pc = .ok (.caload, 1))
    (kk : W p l e R s m args below meth c H locs cells slots Q (F0 m (pc + 1) ls (.int (f j) :: rest))) : W p l e R s m args below meth c H locs cells slots Q (F0 m pc ls (.int i :: .ref (ad k) :: rest)) := by
  obtain ⟨hx, hb, hml, hown, hts⟩ := X
  obtain ⟨hK, hP, hD, hS, hz⟩ := h
  subst hi
  refine va_cald hx hb hK hP k 1 (by rw [wl_get hk, he]) rfl (vp_in_nI hj hN) hdg ?_
  rw [nI_clamp (Nat.lt_trans hj hN)]
  exact kk
theorem rw_ist (X : Cx p c cc s m own args nL) (h : HS J z ad n ce s H locs) (k : Nat) (hk : k < n) {N : Nat} {f : Nat → Int32} (he : ce k = .inl (J.2.1, N, .inl f)) {i x : Int32} (j : Nat) (hi : i = nI j) (hj : j < N) (hN : N < 2 ^ 31) (hdg : decode cc pc = .ok (.iastore, 1))
    (kk : ∀ (H1 : Heap) (locs1 : List Loc), HS J z ad n (va_up ce k (.inl (J.2.1, N, .inl (upd f j x)))) s H1 locs1 → W p l e R s m args below meth c H1 locs1 cells slots Q (F0 m (pc + 1) ls rest)) : W p l e R s m args below meth c H locs cells slots Q (F0 m pc ls (.int x :: .int i :: .ref (ad k) :: rest)) := by
  obtain ⟨hx, hb, hml, hown, hts⟩ := X
  obtain ⟨hK, hP, hD, hS, hz⟩ := h
  subst hi
  refine va_iast hx hb hK hP hD hS k 0 (by rw [wl_get hk, he]) rfl (vp_in_nI hj hN) hdg (fun H1 locs1 hP1 hD1 hS1 => ?_)
  rw [wl_set hk, nI_clamp (Nat.lt_trans hj hN)] at hP1 hD1
  exact kk H1 locs1 ⟨hK, hP1, hD1, hS1, hz⟩
theorem rw_cst (X : Cx p c cc s m own args nL) (h : HS J z ad n ce s H locs) (k : Nat) (hk : k < n) {N : Nat} {f : Nat → Int32} (he : ce k = .inl (J.2.2.1, N, .inl f)) {i x : Int32} (j : Nat) (hi : i = nI j) (hj : j < N) (hN : N < 2 ^ 31) (hdg : decode cc pc = .ok (.castore, 1))
    (kk : ∀ (H1 : Heap) (locs1 : List Loc), HS J z ad n (va_up ce k (.inl (J.2.2.1, N, .inl (upd f j (vp_nar .char x))))) s H1 locs1 → W p l e R s m args below meth c H1 locs1 cells slots Q (F0 m (pc + 1) ls rest)) : W p l e R s m args below meth c H locs cells slots Q (F0 m pc ls (.int x :: .int i :: .ref (ad k) :: rest)) := by
  obtain ⟨hx, hb, hml, hown, hts⟩ := X
  obtain ⟨hK, hP, hD, hS, hz⟩ := h
  subst hi
  refine va_cast hx hb hK hP hD hS k 1 (by rw [wl_get hk, he]) rfl (vp_in_nI hj hN) hdg (fun H1 locs1 hP1 hD1 hS1 => ?_)
  rw [wl_set hk, nI_clamp (Nat.lt_trans hj hN)] at hP1 hD1
  exact kk H1 locs1 ⟨hK, hP1, hD1, hS1, hz⟩
theorem rw_ald (X : Cx p c cc s m own args nL) (h : HS J z ad n ce s H locs) (k : Nat) (hk : k < n) {N : Nat} {f : Nat → Option Nat} (he : ce k = .inl (J.2.2.2, N, .inr (.inr (.inr (.inr f))))) {i : Int32} (j : Nat) (hi : i = nI j) (hj : j < N) (hN : N < 2 ^ 31) {a : Nat} (hf : f j = some a) (hdg : decode cc pc = .ok (.aaload, 1))
    (kk : W p l e R s m args below meth c H locs cells slots Q (F0 m (pc + 1) ls (.ref a :: rest))) : W p l e R s m args below meth c H locs cells slots Q (F0 m pc ls (.int i :: .ref (ad k) :: rest)) := by
  obtain ⟨hx, hb, hml, hown, hts⟩ := X
  obtain ⟨hK, hP, hD, hS, hz⟩ := h
  subst hi
  refine va_aldq hx hb hK hP k 2 (C := RX5) (by rw [wl_get hk, he]) rfl (vp_in_nI hj hN) hdg ?_
  rw [nI_clamp (Nat.lt_trans hj hN), hf]
  exact kk
/-- the array copy of ints between two arrays of the world -/
theorem rw_cpy (X : Cx p c cc s m own args nL) (hls : ls.size = nL) (h : HS J z ad n ce s H locs) {index : Nat} (hlink : Cond.methodLink own index arraycopyName ∈ ws0) (hnat : Cond.native arraycopyName ∈ ws0) (hstat : Cond.static arraycopyName ∈ ws0) (hini : Cond.initialized "java/lang/System" ∈ ws0) (k0 k1 : Nat) (hk0 : k0 < n) (hk1 : k1 < n) {N : Nat} {f g : Nat → Int32} (he0 : ce k0 = .inl (J.2.1, N, .inl f)) (he1 : ce k1 = .inl (J.2.1, N, .inl g)) {x : Int32} (hx : x = nI N) (hN : N < 2 ^ 31) (hframes : 1 ≤ R.frames) (hlocals : (rest.map fun v => v.category).sum + (nativeFrameWords "java/lang/System" "arraycopy" 5 + 11) ≤ R.locals) (hdg : decode cc pc = .ok (.invokestatic index, 3))
    (kk : ∀ (H1 : Heap) (locs1 : List Loc), HS J z ad n (va_up ce k1 (.inl (J.2.1, N, .inl (fun j => if j < N then f j else g j)))) s H1 locs1 → W p l e R s m args below meth c H1 locs1 cells slots Q (F0 m (pc + 3) ls rest)) : W p l e R s m args below meth c H locs cells slots Q (F0 m pc ls (.int x :: .int 0 :: .ref (ad k1) :: .int 0 :: .ref (ad k0) :: rest)) := by
  obtain ⟨hx0, hb, hml, hown, hts⟩ := X
  obtain ⟨hK, hP, hD, hS, hz⟩ := h
  subst hx
  have e0 : (0 : Int32).toNatClampNeg = 0 := rfl
  refine va_copyi hx0 hb (hml.trans hls.symm) hown (hts _ hlink) (hts _ hnat) (hts _ hstat) (hts _ hini) hK hP hD hS k0 k1 0 0 (ty := .int) (by rw [wl_get hk0, he0]) (by rw [wl_get hk1, he1]) rfl rfl rfl (by decide) (by decide) (nI_pos hN) (by rw [nI_clamp hN, e0]; omega) (by rw [nI_clamp hN, e0]; omega) (fun i _ => rfl) hframes hlocals hdg (fun H1 locs1 hP1 hD1 hS1 => ?_)
  rw [wl_set hk1, nI_clamp hN, e0] at hP1 hD1
  have e1 : va_cpy f g 0 0 N = (fun j => if j < N then f j else g j) := by
    funext j
    simp [va_cpy]
  rw [e1] at hP1 hD1
  exact kk H1 locs1 ⟨hK, hP1, hD1, hS1, hz⟩
end BASE
