/-! a hearing's outcome doesn't hang on what lies in the scratch rows: the canonical order and outcome -/
theorem ord_ex (f : Nat → Int32) : ∀ n, ∃ σ : Nat → Nat, OrdS f n σ := by
  intro n
  induction n with
  | zero => exact ⟨fun j => j, fun j hj => by omega, fun i j g1 g2 => by omega, fun P => rfl⟩
  | succ n ih =>
    obtain ⟨σ, h⟩ := ih
    have key : ∀ m, m ≤ n → ∃ t, t ≤ m ∧ (∀ j, j < t → ¬ f (σ j) < f n) ∧ ∀ j, t ≤ j → j < m → f (σ j) < f n := by
      intro m
      induction m with
      | zero => exact fun _ => ⟨0, Nat.le_refl _, fun j hj => by omega, fun j g1 g2 => by omega⟩
      | succ m ihm =>
        intro hm
        obtain ⟨t, t1, t2, t3⟩ := ihm (by omega)
        by_cases g : f (σ m) < f n
        · refine ⟨t, by omega, t2, fun j g1 g2 => ?_⟩
          by_cases e : j = m
          · rw [e]; exact g
          · exact t3 j g1 (by omega)
        · refine ⟨m + 1, Nat.le_refl _, fun j hj => ?_, fun j g1 g2 => by omega⟩
          by_cases e : j = m
          · rw [e]; exact g
          · have b := h.2.1 j m (by omega) (by omega)
            unfold bef at b
            rw [i32_lt] at *
            rcases b with b | ⟨b, -⟩
            · omega
            · rw [b]; exact g
    obtain ⟨t, t1, t2, t3⟩ := key n (Nat.le_refl _)
    exact ⟨_, ord_ins h t1 t2 t3⟩
theorem ord_uniq {f : Nat → Int32} {n j : Nat} {σ τ : Nat → Nat} (h : OrdS f n σ) (g : OrdS f n τ) (hj : j < n) : σ j = τ j := ((ord_at g (h.1 j hj)).mp (ord_rnk h hj)).2.symm
/-- the order in which the petitions of a row are heard -/
noncomputable def sg (r : Nat → Int32) : Nat → Nat := Classical.choose (ord_ex (supp r) (mn r))
theorem sg_ok (r : Nat → Int32) : OrdS (supp r) (mn r) (sg r) := Classical.choose_spec (ord_ex (supp r) (mn r))
theorem hear_can {r f f' : Nat → Int32} {σ τ : Nat → Nat} {n : Nat} (hs : ∀ j, j < n → σ j = τ j) : ∀ k, k ≤ n → (hear r f σ k).1 = (hear r f' τ k).1 ∧ (hear r f σ k).2.1 = (hear r f' τ k).2.1 ∧ ∀ q, (∃ j, j < k ∧ σ j = q) → (hear r f σ k).2.2 q = (hear r f' τ k).2.2 q := by
  intro k
  induction k with
  | zero => exact fun _ => ⟨rfl, rfl, fun q ⟨j, hj, _⟩ => by omega⟩
  | succ k ih =>
    intro hk
    obtain ⟨a, b, c⟩ := ih (by omega)
    show (hst σ k (hear r f σ k)).1 = (hst τ k (hear r f' τ k)).1 ∧ (hst σ k (hear r f σ k)).2.1 = (hst τ k (hear r f' τ k)).2.1 ∧ ∀ q, _ → (hst σ k (hear r f σ k)).2.2 q = (hst τ k (hear r f' τ k)).2.2 q
    unfold hst
    rw [hs k (by omega), a, b]
    refine ⟨rfl, rfl, ?_⟩
    rintro q ⟨j, h1, h2⟩
    simp only
    by_cases e : q = τ k
    · subst e
      rw [upd_s, upd_s]
    · rw [upd_n e, upd_n e]
      refine c q ⟨j, ?_, h2⟩
      by_cases g : j = k
      · subst g
        rw [hs j (by omega)] at h2
        exact absurd h2.symm e
      · omega
/-- the hearing of a row, its reasons by petition -/
noncomputable def hearC (r : Nat → Int32) : HS3 := hear r (fun _ => 0) (sg r) (mn r)
theorem hear_C {r f : Nat → Int32} {σ : Nat → Nat} (h : OrdS (supp r) (mn r) σ) : (hear r f σ (mn r)).1 = (hearC r).1 ∧ (hear r f σ (mn r)).2.1 = (hearC r).2.1 ∧ ∀ q, q < mn r → (hear r f σ (mn r)).2.2 q = (hearC r).2.2 q := by
  obtain ⟨a, b, c⟩ := hear_can (r := r) (f := f) (f' := fun _ => 0) (fun j hj => ord_uniq h (sg_ok r) hj) (mn r) (Nat.le_refl _)
  exact ⟨a, b, fun q hq => c q (ord_sur h hq)⟩
theorem ests_congr {x f f' : Nat → Int32} {n : Nat} (h : ∀ q, q < n → f q = f' q) : ests x f n = ests x f' n := itr_congr rfl (fun i hi y => by unfold est; rw [h i hi])
/-- the row behind a hearing -/
noncomputable def hrC (r : Nat → Int32) : Nat → Int32 :=
  upd (upd (ests (hearC r).1 (hearC r).2.2 (mn r)) 8 (ests (hearC r).1 (hearC r).2.2 (mn r) 8 + nI (hearC r).2.1)) 9 (ests (hearC r).1 (hearC r).2.2 (mn r) 9 + (nI (mn r) - nI (hearC r).2.1))
theorem hrow_C {r f : Nat → Int32} {σ : Nat → Nat} (h : OrdS (supp r) (mn r) σ) : hrow r f σ = hrC r := by
  obtain ⟨a, b, c⟩ := hear_C (f := f) h
  unfold hrow hrC
  rw [a, b, ests_congr c]
theorem hearC_ok (r : Nat → Int32) : LawEq r (hearC r).1 ∧ (hearC r).2.1 ≤ mn r := hear_ok (r := r) (f := fun _ => 0) (σ := sg r) (k := mn r) rfl
/-- behind a hearing: what of the row is as it was -/
theorem hrC_eq {r : Nat → Int32} (hW : WR r) {k : Nat} (h1 : k < 192) (h8 : k ≠ 8) (h9 : k ≠ 9) (h10 : k ≠ 10) (h11 : k ≤ 10 ∨ (84 ≤ k ∧ k < 144) ∨ 192 ≤ k ∨ (12 ≤ k ∧ k < 84 ∧ (k - 12) % 6 < 4)) : hrC r k = r k := by
  obtain ⟨a, b⟩ := hearC_ok r
  have hE := (ests_ok (f := (hearC r).2.2) (a.WR hW) (n := mn r) (by rw [a.mn]; exact Nat.le_refl _)).1
  unfold hrC
  rw [upd_n h9, upd_n h8, hE k h11, a k h1 h10]
theorem hrC_WR {r : Nat → Int32} (hW : WR r) : WR (hrC r) := by
  obtain ⟨a, b⟩ := hearC_ok r
  obtain ⟨hE, o, o1, o2⟩ := ests_ok (f := (hearC r).2.2) (a.WR hW) (n := mn r) (by rw [a.mn]; exact Nat.le_refl _)
  have hm := hW.2.1.2
  refine WR_of hW (hrC_eq hW (by omega) (by omega) (by omega) (by omega) (by omega)) (hrC_eq hW (by omega) (by omega) (by omega) (by omega) (by omega)) ⟨o, by omega, ?_⟩ (fun k g1 g2 => hrC_eq hW (by omega) (by omega) (by omega) (by omega) (by omega)) (fun d hd => hrC_eq hW (by omega) (by omega) (by omega) (by omega) (by omega))
  unfold hrC
  rw [upd_n (by omega), upd_n (by omega)]
  exact o2
/-- a day ends -/
noncomputable def dayE (r : Nat → Int32) : Nat → Int32 := upd (upd r 2 (r 2 + nI 1)) 4 (r 4 + nI 1)
def noOwn (n : Nat) (y : Nat → Int32) : Nat → Int32 := itr (fun d y => upd y (6 * d + 14) (-5)) y n
noncomputable def dayR (r : Nat → Int32) : Nat → Int32 :=
  if r 4 + nI 1 < r 1 then dayE r
  else noOwn (kn r) (upd (upd (upd (hrC (dayE r)) 3 (r 3 + nI 1)) 4 (nI 0)) 6 (nI 0))
noncomputable def dayA (r : Nat → Int32) : Nat := if r 4 + nI 1 < r 1 then 0 else (hearC (dayE r)).2.1
theorem noOwn_n {n k : Nat} {y : Nat → Int32} (h : ∀ d, d < n → k ≠ 6 * d + 14) : noOwn n y k = y k := by
  induction n with
  | zero => rfl
  | succ n ih =>
    show upd (noOwn n y) (6 * n + 14) (-5) k = y k
    rw [upd_n (h n (by omega)), ih (fun d hd => h d (by omega))]
theorem noOwn_s {n d : Nat} {y : Nat → Int32} (hd : d < n) : noOwn n y (6 * d + 14) = (-5) := by
  induction n with
  | zero => omega
  | succ n ih =>
    show upd (noOwn n y) (6 * n + 14) (-5) (6 * d + 14) = (-5)
    by_cases e : d = n
    · rw [e, upd_s]
    · rw [upd_n (by omega), ih (by omega)]
theorem dayE_WR {r : Nat → Int32} (hW : WR r) : WR (dayE r) := by
  unfold dayE
  refine WR_of hW (by rw [upd_n (by omega), upd_n (by omega)]) (by rw [upd_n (by omega), upd_n (by omega)]) ⟨on r, hW.2.2.1.2, by rw [upd_n (by omega), upd_n (by omega)]; exact hW.2.2.1.1⟩ (fun k g1 g2 => by rw [upd_n (by omega), upd_n (by omega)]) (fun d hd => by rw [upd_n (by omega), upd_n (by omega)])
