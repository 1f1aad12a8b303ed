/-! CONSTRUCTORS: worlds that grow. fe a j: the cell j where the addresses are a; local: it reads the addresses of cells below n alone -/
abbrev FE : Type := (Nat → Nat) → Nat → va_E
def LocF (fe : FE) (n : Nat) : Prop := ∀ a a1 : Nat → Nat, (∀ i, i < n → a i = a1 i) → ∀ j, j < n → fe a j = fe a1 j
def To (fe : FE) (k ci : Nat) (FS : (Nat → Nat) → List Value) (E : FE) : FE := fun a j => if j < k then fe a j else if j = k then .inr (ci, FS a) else E a j
def Tn (fe : FE) (k : Nat) (E : FE) : FE := fun a j => if j < k then fe a j else E a j
theorem wl_cg {ad ad1 : Nat → Nat} {n : Nat} {ce ce1 : Nat → va_E} (h : ∀ j, j < n → ad j = ad1 j) (g : ∀ j, j < n → ce j = ce1 j) : wl ad n ce = wl ad1 n ce1 := by
  unfold wl
  apply List.map_congr_left
  intro k hk
  have := List.mem_range.mp hk
  rw [h k this, g k this]
theorem HS.cg {J : JJ} {z n : Nat} {ad : Nat → Nat} {ce ce1 : Nat → va_E} {s : State} {H : Heap} {locs : List Loc} (h : HS J z ad n ce s H locs) (g : ∀ j, j < n → ce j = ce1 j) : HS J z ad n ce1 s H locs := by
  obtain ⟨hK, hP, hD, hS, hz⟩ := h
  rw [wl_cg (fun _ _ => rfl) g] at hP hD
  exact ⟨hK, hP, hD, hS, hz⟩
theorem grow {fe : FE} {n q : Nat} {ad : Nat → Nat} {e : va_E} (hL : LocF fe n) : wl ad n (fe ad) ++ [(q, e)] = wl (va_up ad n q) (n + 1) (va_up (fe (va_up ad n q)) n e) := by
  rw [wl_push]
  refine wl_cg (fun _ _ => rfl) (fun j hj => ?_)
  by_cases g : j = n
  · subst g
    rw [va_up_self, va_up_self]
  · rw [va_up_ne _ _ g, va_up_ne _ _ g]
    exact hL _ _ (fun i hi => (va_up_ne ad q (by omega)).symm) j (by omega)
theorem To_k {fe E : FE} {k ci : Nat} {FS : (Nat → Nat) → List Value} {a : Nat → Nat} : To fe k ci FS E a k = .inr (ci, FS a) := by
  unfold To
  rw [if_neg (by omega), if_pos rfl]
theorem LocF_To {fe E : FE} {k ci n : Nat} {FS : (Nat → Nat) → List Value} (hL : LocF fe k) (hk : k ≤ n) (hF : ∀ a a1 : Nat → Nat, (∀ i, i < n → a i = a1 i) → FS a = FS a1) (hE : ∀ a a1 : Nat → Nat, (∀ i, i < n → a i = a1 i) → ∀ j, k < j → j < n → E a j = E a1 j) : LocF (To fe k ci FS E) n := by
  intro a a1 h j hj
  unfold To
  by_cases g : j < k
  · rw [if_pos g, if_pos g]
    exact hL a a1 (fun i hi => h i (by omega)) j g
  · rw [if_neg g, if_neg g]
    by_cases g2 : j = k
    · rw [if_pos g2, if_pos g2, hF a a1 h]
    · rw [if_neg g2, if_neg g2]
      exact hE a a1 h j (by omega) hj
theorem To_arr {J : JJ} {z n k ci : Nat} {ad : Nat → Nat} {fe E : FE} {FS FS' : (Nat → Nat) → List Value} {e : va_E} {fs : List Value} {s : State} {H : Heap} {locs : List Loc} (h : HS J z ad (n + 1) (va_up (va_up (To fe k ci FS E ad) n e) k (.inr (ci, fs))) s H locs) (hk : k < n) (he : e = E ad n) (hf : fs = FS' ad) : HS J z ad (n + 1) (To fe k ci FS' E ad) s H locs := by
  refine h.cg (fun j hj => ?_)
  by_cases g : j = k
  · subst g
    rw [va_up_self, To_k, hf]
  · rw [va_up_ne _ _ g]
    by_cases g2 : j = n
    · subst g2
      rw [va_up_self, he]
      unfold To
      rw [if_neg (by omega), if_neg g]
    · rw [va_up_ne _ _ g2]
      unfold To
      by_cases g3 : j < k
      · rw [if_pos g3, if_pos g3]
      · rw [if_neg g3, if_neg g3, if_neg g, if_neg g]
theorem To_sub {J : JJ} {z n k k' ci : Nat} {ad : Nat → Nat} {fe E E' : FE} {FS FS' : (Nat → Nat) → List Value} {fs : List Value} {s : State} {H : Heap} {locs : List Loc} (h : HS J z ad n (va_up (Tn (To fe k ci FS E) k' E' ad) k (.inr (ci, fs))) s H locs) (hk : k < k') (hE : ∀ j, k' ≤ j → j < n → E' ad j = E ad j) (hf : fs = FS' ad) : HS J z ad n (To fe k ci FS' E ad) s H locs := by
  refine h.cg (fun j hj => ?_)
  by_cases g : j = k
  · subst g
    rw [va_up_self, To_k, hf]
  · rw [va_up_ne _ _ g]
    unfold Tn
    by_cases g2 : j < k'
    · rw [if_pos g2]
      unfold To
      by_cases g3 : j < k
      · rw [if_pos g3, if_pos g3]
      · rw [if_neg g3, if_neg g3, if_neg g, if_neg g]
    · rw [if_neg g2, hE j (by omega) hj]
      unfold To
      rw [if_neg (by omega), if_neg g]
theorem To_new {J : JJ} {z k ci : Nat} {ad : Nat → Nat} {fe E : FE} {fs : List Value} {s : State} {H : Heap} {locs : List Loc} (h : HS J z ad (k + 1) (va_up (fe ad) k (.inr (ci, fs))) s H locs) : HS J z ad (k + 1) (To fe k ci (fun _ => fs) E ad) s H locs := by
  refine h.cg (fun j hj => ?_)
  by_cases g : j = k
  · subst g
    rw [va_up_self, To_k]
  · rw [va_up_ne _ _ g]
    unfold To
    rw [if_pos (by omega)]
theorem To_fin {J : JJ} {z n k ci : Nat} {ad : Nat → Nat} {fe E : FE} {FS : (Nat → Nat) → List Value} {s : State} {H : Heap} {locs : List Loc} (h : HS J z ad n (To fe k ci FS E ad) s H locs) (he : E ad k = .inr (ci, FS ad)) : HS J z ad n (Tn fe k E ad) s H locs := by
  refine h.cg (fun j hj => ?_)
  unfold To Tn
  by_cases g : j < k
  · rw [if_pos g, if_pos g]
  · rw [if_neg g, if_neg g]
    by_cases g2 : j = k
    · subst g2
      rw [if_pos rfl, he]
    · rw [if_neg g2]
theorem Tn_lo {fe E : FE} {k j : Nat} {a : Nat → Nat} (h : j < k) : Tn fe k E a j = fe a j := if_pos h
theorem vup2 {α : Type} (f : Nat → α) (k : Nat) (x y : α) : va_up (va_up f k x) k y = va_up f k y := by
  funext j
  by_cases h : j = k
  · subst h
    rw [va_up_self, va_up_self]
  · rw [va_up_ne _ _ h, va_up_ne _ _ h, va_up_ne _ _ h]
/-- a constructor on the object at the address a0: n cells before, n + mc behind -/
def CI (l : Launch) (J : JJ) (z : Nat) (y : MethodName) (cc : ByteArray) (mx d mc ms : Nat) (ad : Nat → Nat) (n a0 : Nat) (fe fe' : FE) : Prop :=
  Met l y (wsY y cc mx none) (rmD d mc ms) (va_Pc [.ref a0] (fun U => HU J z ad n (fe ad) U ∧ va_AO RX5 U)) (va_Qv (fun u : Nat → Nat => ∀ j, j < n → u j = ad j) (fun u t => HU J z u (n + mc) (fe' u) t) (fun q => z ≤ q)) mc ms (fun q => z ≤ q)
def QC (J : JJ) (z : Nat) (below : List Frame) (args : Array Value) (s : State) (ad : Nat → Nat) (n mc ms : Nat) (fe' : FE) : State → Prop := MQ below (va_Qv (fun u : Nat → Nat => ∀ j, j < n → u j = ad j) (fun u t => HU J z u (n + mc) (fe' u) t) (fun q => z ≤ q)) args s mc ms (fun q => z ≤ q)
section CONS
variable {p : Program} {l : Launch} {e : Env} {R : Room} {s : State} {m : MethodId} {args : Array Value} {below : List Frame} {meth : Method} {c : Code} {H : Heap} {locs : List Loc} {cells slots : Nat} {Q : State → Prop}
variable {cc : ByteArray} {pc : Nat} {ls : Array Slot} {rest : List Value} {J : JJ} {z n nL : Nat} {ad : Nat → Nat} {ce : Nat → va_E} {own : String} {fe : FE}
theorem rk_new (X : Cx p c cc s m own args nL) (hL : LocF fe n) (h : HS J z ad n (fe ad) s H locs) {C : String} {T : u_T} {N ci index : Nat} (hin : ∀ w ∈ u_ws C T N, w ∈ ws0) (ty : Nat → FieldType) (hty : ∀ k, k < N → parseFieldDescriptor (T k).2.2.1 = some (ty k)) (hcl : Cond.classLink own index C ∈ ws0) (hinst : Cond.instantiable C N ∈ ws0) (hini : Cond.initialized C ∈ ws0) (hc : vwCl[ci]? = some (C, T, N)) {fs : List Value} (hfs : ∀ j, j < N → defaultValue (ty j) = vp_V fs j) (hcells : cells + 1 ≤ R.cells) (hslots : slots + N ≤ R.slots) (hdg : decode cc pc = .ok (.new index, 3))
    (kk : ∀ (ad1 : Nat → Nat) (H1 : Heap), (∀ j, j < n → ad1 j = ad j) → HS J z ad1 (n + 1) (va_up (fe ad1) n (.inr (ci, fs))) s H1 locs → W p l e R s m args below meth c H1 locs (cells + 1) (slots + N) Q (F0 m (pc + 3) ls (.ref (ad1 n) :: rest))) : W p l e R s m args below meth c H locs cells slots Q (F0 m pc ls rest) := by
  obtain ⟨hx, hb, hml, hown, hts⟩ := X
  obtain ⟨hK, hP, hD, hS, hz⟩ := h
  refine va_new hx hb hts hin ty hty hown (hts _ hcl) (hts _ hinst) (hts _ hini) hK hP hD hS (fun q hq => Nat.le_trans hz.1 hq) hc hfs hcells hslots hdg (fun q H1 hP1 hD1 hS1 => ?_)
  rw [grow hL] at hP1 hD1
  have := kk (va_up ad n q) H1 (fun j hj => va_up_ne ad q (by omega)) ⟨hK, hP1, hD1, hS1, hz⟩
  rw [va_up_self] at this
  exact this
theorem rk_newi (X : Cx p c cc s m own args nL) (hL : LocF fe n) (h : HS J z ad n (fe ad) s H locs) {v : Int32} (N' : Nat) (hv : v = nI N') (hN : N' ≤ 10000) (harr : Cond.arrayClass .int ∈ ws0) (hcells : cells + 1 ≤ R.cells) (hslots : slots + N' ≤ R.slots) (hdg : decode cc pc = .ok (.newarray .int, 2))
    (kk : ∀ (ad1 : Nat → Nat) (H1 : Heap), (∀ j, j < n → ad1 j = ad j) → HS J z ad1 (n + 1) (va_up (fe ad1) n (.inl (J.2.1, N', .inl (fun _ => 0)))) s H1 locs → W p l e R s m args below meth c H1 locs (cells + 1) (slots + N') Q (F0 m (pc + 2) ls (.ref (ad1 n) :: rest))) : W p l e R s m args below meth c H locs cells slots Q (F0 m pc ls (.int v :: rest)) := by
  obtain ⟨hx, hb, hml, hown, hts⟩ := X
  obtain ⟨hK, hP, hD, hS, hz⟩ := h
  subst hv
  refine va_newa (atype := .int) (a0 := (N', .inl (fun _ => 0))) hx hb (hts _ harr) (ty := .int) rfl hK hP hD hS (fun q hq => Nat.le_trans hz.1 hq) (fun cA => rfl) (nI_pos (by omega)) (nI_clamp (by omega)) (by show N' * 4 ≤ _; omega) hcells hslots hdg (fun q cA H1 hK1 hP1 hD1 hS1 => ?_)
  have e1 : va_RA s cA .int := (hK1.2 3 (cA, .int) rfl).2
  have e2 : va_RA s J.2.1 .int := (hK.2 0 (J.2.1, .int) rfl).2
  have e3 : cA = J.2.1 := Option.some.inj (e1.symm.trans e2)
  rw [e3, grow hL] at hP1 hD1
  have := kk (va_up ad n q) H1 (fun j hj => va_up_ne ad q (by omega)) ⟨hK, hP1, hD1, hS1, hz⟩
  rw [va_up_self] at this
  exact this
theorem rk_newc (X : Cx p c cc s m own args nL) (hL : LocF fe n) (h : HS J z ad n (fe ad) s H locs) {v : Int32} (N' : Nat) (hv : v = nI N') (hN : N' ≤ 10000) (harr : Cond.arrayClass .char ∈ ws0) (hcells : cells + 1 ≤ R.cells) (hslots : slots + N' ≤ R.slots) (hdg : decode cc pc = .ok (.newarray .char, 2))
    (kk : ∀ (ad1 : Nat → Nat) (H1 : Heap), (∀ j, j < n → ad1 j = ad j) → HS J z ad1 (n + 1) (va_up (fe ad1) n (.inl (J.2.2.1, N', .inl (fun _ => 0)))) s H1 locs → W p l e R s m args below meth c H1 locs (cells + 1) (slots + N') Q (F0 m (pc + 2) ls (.ref (ad1 n) :: rest))) : W p l e R s m args below meth c H locs cells slots Q (F0 m pc ls (.int v :: rest)) := by
  obtain ⟨hx, hb, hml, hown, hts⟩ := X
  obtain ⟨hK, hP, hD, hS, hz⟩ := h
  subst hv
  refine va_newa (atype := .char) (a0 := (N', .inl (fun _ => 0))) hx hb (hts _ harr) (ty := .char) rfl hK hP hD hS (fun q hq => Nat.le_trans hz.1 hq) (fun cA => rfl) (nI_pos (by omega)) (nI_clamp (by omega)) (by show N' * 2 ≤ _; omega) hcells hslots hdg (fun q cA H1 hK1 hP1 hD1 hS1 => ?_)
  have e1 : va_RA s cA .char := (hK1.2 3 (cA, .char) rfl).2
  have e2 : va_RA s J.2.2.1 .char := (hK.2 1 (J.2.2.1, .char) rfl).2
  have e3 : cA = J.2.2.1 := Option.some.inj (e1.symm.trans e2)
  rw [e3, grow hL] at hP1 hD1
  have := kk (va_up ad n q) H1 (fun j hj => va_up_ne ad q (by omega)) ⟨hK, hP1, hD1, hS1, hz⟩
  rw [va_up_self] at this
  exact this
theorem rk_newq (X : Cx p c cc s m own args nL) (hAO : va_AO RX5 s) (hL : LocF fe n) (h : HS J z ad n (fe ad) s H locs) {v : Int32} {index : Nat} (N' : Nat) (hv : v = nI N') (hN : N' ≤ 10000) (hcl : Cond.classLink own index RX5 ∈ ws0) (hcells : cells + 1 ≤ R.cells) (hslots : slots + N' ≤ R.slots) (hdg : decode cc pc = .ok (.anewarray index, 3))
    (kk : ∀ (ad1 : Nat → Nat) (H1 : Heap), (∀ j, j < n → ad1 j = ad j) → HS J z ad1 (n + 1) (va_up (fe ad1) n (.inl (J.2.2.2, N', .inr (.inr (.inr (.inr (fun _ => none))))))) s H1 locs → W p l e R s m args below meth c H1 locs (cells + 1) (slots + N') Q (F0 m (pc + 3) ls (.ref (ad1 n) :: rest))) : W p l e R s m args below meth c H locs cells slots Q (F0 m pc ls (.int v :: rest)) := by
  obtain ⟨hx, hb, hml, hown, hts⟩ := X
  obtain ⟨hK, hP, hD, hS, hz⟩ := h
  subst hv
  refine va_newq (C := RX5) (N' := N') hx hb hown (hts _ hcl) hAO hK hP hD hS (fun q hq => Nat.le_trans hz.1 hq) (nI_pos (by omega)) (nI_clamp (by omega)) (by omega) hcells hslots hdg (fun q cA H1 hK1 hP1 hD1 hS1 => ?_)
  obtain ⟨-, -, -, -, -, e1⟩ : va_RA s cA (.object RX5) := (hK1.2 3 (cA, .object RX5) rfl).2
  obtain ⟨-, -, -, -, -, e2⟩ : va_RA s J.2.2.2 (.object RX5) := (hK.2 2 (J.2.2.2, .object RX5) rfl).2
  have e3 : cA = J.2.2.2 := Option.some.inj (e1.symm.trans e2)
  rw [e3, grow hL] at hP1 hD1
  have := kk (va_up ad n q) H1 (fun j hj => va_up_ne ad q (by omega)) ⟨hK, hP1, hD1, hS1, hz⟩
  rw [va_up_self] at this
  exact this
theorem rk_putF (X : Cx p c cc s m own args nL) (hinit : meth.name = "<init>") (h : HS J z ad n ce s H locs) {C : String} {T : u_T} {N ci index : Nat} (hin : ∀ w ∈ u_ws C T N, w ∈ ws0) (ty0 : Nat → FieldType) (hty : ∀ k, k < N → parseFieldDescriptor (T k).2.2.1 = some (ty0 k)) (hnm : ∀ a, a < N → ∀ b, b < N → a ≠ b → (T a).2.1 ≠ (T b).2.1) (hc : vwCl[ci]? = some (C, T, N)) (j : Nat) (hj : j < N) (hlink : Cond.fieldLink own index (T j).1 (T j).2.1 (T j).2.2.1 ∈ ws0) (hfin : (T j).2.2.2 = true) (hdecl : (T j).1 = own) (k : Nat) (hk : k < n) {a : Nat} (ha : ad k = a) {fs : List Value} (he : ce k = .inr (ci, fs)) (hl : j < fs.length) {v : Value} (hn : narrow (ty0 j) v = v) (hfit : fits (ty0 j) v = true) (hdg : decode cc pc = .ok (.putfield index, 3))
    (kk : ∀ (H1 : Heap) (locs1 : List Loc), HS J z ad n (va_up ce k (.inr (ci, fs.set j v))) s H1 locs1 → W p l e R s m args below meth c H1 locs1 cells slots Q (F0 m (pc + 3) ls rest)) : W p l e R s m args below meth c H locs cells slots Q (F0 m pc ls (v :: .ref a :: rest)) := by
  subst ha
  exact rw_putF X hinit h hin ty0 hty hnm hc j hj hlink hfin hdecl k hk he hl hn hfit hdg kk
theorem rk_put (X : Cx p c cc s m own args nL) (h : HS J z ad n ce s H locs) {C : String} {T : u_T} {N ci index : Nat} (hin : ∀ w ∈ u_ws C T N, w ∈ ws0) (ty0 : Nat → FieldType) (hty : ∀ k, k < N → parseFieldDescriptor (T k).2.2.1 = some (ty0 k)) (hnm : ∀ a, a < N → ∀ b, b < N → a ≠ b → (T a).2.1 ≠ (T b).2.1) (hc : vwCl[ci]? = some (C, T, N)) (j : Nat) (hj : j < N) (hlink : Cond.fieldLink own index (T j).1 (T j).2.1 (T j).2.2.1 ∈ ws0) (hfin : (T j).2.2.2 = false) (k : Nat) (hk : k < n) {a : Nat} (ha : ad k = a) {fs : List Value} (he : ce k = .inr (ci, fs)) (hl : j < fs.length) {v : Value} (hn : narrow (ty0 j) v = v) (hfit : fits (ty0 j) v = true) (hdg : decode cc pc = .ok (.putfield index, 3))
    (kk : ∀ (H1 : Heap) (locs1 : List Loc), HS J z ad n (va_up ce k (.inr (ci, fs.set j v))) s H1 locs1 → W p l e R s m args below meth c H1 locs1 cells slots Q (F0 m (pc + 3) ls rest)) : W p l e R s m args below meth c H locs cells slots Q (F0 m pc ls (v :: .ref a :: rest)) := by
  subst ha
  exact rw_put X h hin ty0 hty hnm hc j hj hlink hfin k hk he hl hn hfit hdg kk
theorem rk_get (X : Cx p c cc s m own args nL) (h : HS J z ad n ce s H locs) {C : String} {T : u_T} {N ci index : Nat} (hin : ∀ w ∈ u_ws C T N, w ∈ ws0) (hc : vwCl[ci]? = some (C, T, N)) (j : Nat) (hj : j < N) (hlink : Cond.fieldLink own index (T j).1 (T j).2.1 (T j).2.2.1 ∈ ws0) (k : Nat) (hk : k < n) {a : Nat} (ha : ad k = a) {fs : List Value} (he : ce k = .inr (ci, fs)) {v : Value} (hv : fs[j]? = some v) (hdg : decode cc pc = .ok (.getfield index, 3))
    (kk : W p l e R s m args below meth c H locs cells slots Q (F0 m (pc + 3) ls (v :: rest))) : W p l e R s m args below meth c H locs cells slots Q (F0 m pc ls (.ref a :: rest)) := by
  subst ha
  exact rw_get X h hin hc j hj hlink k hk he hv hdg kk
theorem rk_astq (X : Cx p c cc s m own args nL) (h : HS J z ad n ce s H locs) (k k5 : Nat) (hk : k < n) (hk5 : k5 < n) {N : Nat} {f : Nat → Option Nat} (he : ce k = .inl (J.2.2.2, N, .inr (.inr (.inr (.inr f))))) {vs : List Value} (he5 : ce k5 = .inr (5, vs)) {a v : Nat} (ha : ad k = a) (hv : ad k5 = v) {i : Int32} (j : Nat) (hi : i = nI j) (hj : j < N) (hN : N < 2 ^ 31) (hdg : decode cc pc = .ok (.aastore, 1))
    (kk : ∀ (H1 : Heap) (locs1 : List Loc), HS J z ad n (va_up ce k (.inl (J.2.2.2, N, .inr (.inr (.inr (.inr (va_up f j (some v)))))))) s H1 locs1 → W p l e R s m args below meth c H1 locs1 cells slots Q (F0 m (pc + 1) ls rest)) : W p l e R s m args below meth c H locs cells slots Q (F0 m pc ls (.ref v :: .int i :: .ref a :: rest)) := by
  obtain ⟨hx, hb, hml, hown, hts⟩ := X
  obtain ⟨hK, hP, hD, hS, hz⟩ := h
  subst hi
  subst ha
  subst hv
  refine va_astq hx hb hK hP hD hS k 2 k5 5 (r := (RX5, TX5, 10)) (by rw [wl_get hk, he]) rfl (by rw [wl_get hk5, he5]) rfl (vp_in_nI hj hN) hdg (fun H1 locs1 hP1 hD1 hS1 => ?_)
  rw [wl_set hk, nI_clamp (Nat.lt_trans hj hN)] at hP1 hD1
  exact kk H1 locs1 ⟨hK, hP1, hD1, hS1, hz⟩
theorem rk_obj (X : Cx p c cc s m own args nL) (hls : ls.size = nL) {idx : Nat} (hlink : Cond.methodLink own idx objectInit ∈ ws0) {a : Nat} (hframes : 1 ≤ R.frames) (hlocals : (rest.map fun v => v.category).sum + 12 ≤ R.locals) (hdg : decode cc pc = .ok (.invokespecial idx, 3))
    (kk : W p l e R s m args below meth c H locs cells slots Q (F0 m (pc + 3) ls rest)) : W p l e R s m args below meth c H locs cells slots Q (F0 m pc ls (.ref a :: rest)) := by
  obtain ⟨hx, hb, hml, hown, hts⟩ := X
  exact W.objInit hx hb hown (hts _ hlink) (hts _ mw_7) (hts _ mw_8) rfl (hls.trans hml.symm) rfl hdg hframes (by show 2 * 0 + _ + 12 ≤ _; omega) kk
theorem CI.blind {av : List Value} {ce : Nat → va_E} : FrameBlind (va_Pc av (fun U => HU J z ad n ce U ∧ va_AO RX5 U)) := fun a U g mk q => by
  obtain ⟨q0, q1, q2⟩ := q
  exact ⟨q0, (HV.blind (av := av) a U g mk ⟨q0, q1⟩).2, va_AO.moved (u := U) (U := U.calling g mk a) (Vm.Alike.refl U.vm) q2⟩
theorem rk_ci (X : Cx p c cc s m own args nL) (hl : ls.size = nL) (hAO : va_AO RX5 s) {fe1 fe2 : FE} (h : HS J z ad n (fe1 ad) s H locs) {y : MethodName} {bytes : ByteArray} {mx d mc ms a0 : Nat} (hM : CI l J z y bytes mx d mc ms ad n a0 fe1 fe2) {index : Nat} (w1 : Cond.methodLink own index y ∈ ws0) (w2 : Cond.instanceMethod y ∈ ws0) (w4 : Cond.initialized y.cls ∈ ws0) (w5 : Cond.code y bytes mx none ∈ ws0) (hy : y.name = "<init>")
    (hd : y.cls ≠ "java/lang/invoke/MethodHandle" ∧ y.cls ≠ "java/lang/invoke/VarHandle" ∧ (parseMethodDescriptor y.desc).map (fun d => d.parameters.length) = some 0) (hR : d + 1 ≤ R.frames ∧ 8 + (mx + 11) + 30 * d ≤ R.locals) (hf : cells + mc ≤ R.cells ∧ slots + ms ≤ R.slots) (hrest : (rest.map fun v => v.category).sum ≤ 8) (hdg : decode cc pc = .ok (.invokespecial index, 3))
    (kk : ∀ (ad1 : Nat → Nat) (H1 : Heap) (locs1 : List Loc), (∀ j, j < n → ad1 j = ad j) → HS J z ad1 (n + mc) (fe2 ad1) s H1 locs1 → W p l e R s m args below meth c H1 locs1 (cells + mc) (slots + ms) Q (F0 m (pc + 3) ls rest)) : W p l e R s m args below meth c H locs cells slots Q (F0 m pc ls (.ref a0 :: rest)) := by
  have hg : GoodIn ws0 (wsY y bytes mx none) := by
    intro w hw
    have hin : w ∈ ws0 := by
      simp only [wsY, List.mem_cons] at hw
      rcases hw with rfl | hw
      · exact w5
      · exact hw
    exact ws0_self w hin
  refine va_callv (va_runI (As := []) (rest := rest) X hM (cwI 0 X.2.2.2.2 hg rfl rfl rfl (X.2.2.2.2 _ w4) (X.2.2.2.2 _ w1) (X.2.2.2.2 _ w2) hy hd hR) ⟨CI.blind, fun U hU hW => ⟨rfl, h.toU hU hW, hAO.moved hW.alike⟩⟩ rfl rfl hl rfl (lv_room hrest) hdg hf) h.2.2.2.1 (fun _ _ h => h) (fun _ h => h) (fun u t H1 locs1 ht hvm hp hB _ _ hS => ?_)
  exact kk u H1 locs1 hp (HS.ofU hB ht hvm hS h.2.2.2.2)
theorem CI.walk {y : MethodName} {mx d mc ms a0 : Nat} {fe1 fe2 : FE} (hy : plainName y.cls = true) (hy2 : y.name = "<init>") (hlen : 1 ≤ mx)
    (body : ∀ (p : Program) (e : Env) (s : State) (m : MethodId) (below : List Frame) (meth : Method) (c : Code) (ls : Array Slot), Cx p c cc s m y.cls #[.ref a0] mx → meth.name = "<init>" → va_AO RX5 s → HS J z ad n (fe1 ad) s s.heap [] → lv_has ls mx [(0, .ref a0)] →
      (∀ (ad1 : Nat → Nat) (H : Heap) (locs : List Loc) (pc : Nat) (ls : Array Slot), (∀ j, j < n → ad1 j = ad j) → HS J z ad1 (n + mc) (fe2 ad1) s H locs → decode cc pc = .ok (.return_, 1) → W p l e (rmD d mc ms) s m #[.ref a0] below meth c H locs mc ms (QC J z below #[.ref a0] s ad n mc ms fe2) (F0 m pc ls [])) →
      W p l e (rmD d mc ms) s m #[.ref a0] below meth c s.heap [] 0 0 (QC J z below #[.ref a0] s ad n mc ms fe2) (F0 m 0 ls [])) : CI l J z y cc mx d mc ms ad n a0 fe1 fe2 := by
  refine Met.ofW (cc := cc) (maxL := mx) (ret := none) hy rfl ?_
  intro p e s m args below meth c s₁ B hml hv
  obtain ⟨rfl, hU, hAO⟩ := hv
  have hts := atoms_spec (ws := wsY y cc mx none) B.pre
  have hl := lv_entry [.ref a0] (n := mx) hlen
  rw [lg_entry_eq]
  have X : Cx p c cc s m y.cls #[.ref a0] mx := ⟨B.exec, B.bytes, hml, findClass_of_methodNamed B.named, fun w hw => hts w (List.mem_cons_of_mem _ hw)⟩
  refine body p e s m below meth c _ X ((name_of_methodNamed B.named B.method).1.trans hy2) hAO (HS.of0 hU) hl (fun ad1 H locs pc ls hp h hdg => ?_)
  exact W.vret X.1 X.2.1 B.returns (fun t ht hW => ⟨⟨ad1, rfl, hp, h.toU ht hW⟩, h.2.2.2.1.F ht⟩) h.2.2.2.1.2.2 hdg B.notSynchronized
end CONS
