/-! THE ORDER in which petitions are heard: f tells the support; counting; an insertion -/
def bef (f : Nat → Int32) (o q : Nat) : Prop := f q < f o ∨ (f o = f q ∧ o < q)
noncomputable def cnt (P : Nat → Prop) : Nat → Nat
  | 0 => 0
  | n + 1 => cnt P n + @ite _ (P n) (Classical.propDecidable _) 1 0
def OrdS (f : Nat → Int32) (n : Nat) (σ : Nat → Nat) : Prop := (∀ j, j < n → σ j < n) ∧ (∀ i j, i < j → j < n → bef f (σ i) (σ j)) ∧ ∀ P : Nat → Prop, cnt P n = cnt (fun j => P (σ j)) n
theorem cnt_congr {P P' : Nat → Prop} {n : Nat} (h : ∀ j, j < n → (P j ↔ P' j)) : cnt P n = cnt P' n := by
  induction n with
  | zero => rfl
  | succ n ih =>
    unfold cnt
    rw [ih (fun j hj => h j (by omega)), propext (h n (by omega))]
theorem cnt_lt {n k : Nat} (h : k ≤ n) : cnt (fun j => j < k) n = k := by
  induction n with
  | zero => unfold cnt; omega
  | succ n ih =>
    unfold cnt
    by_cases hk : k = n + 1
    · subst hk
      rw [if_pos (by omega), cnt_congr (P' := fun j => j < n) (fun j hj => by omega)]
      have : ∀ m, cnt (fun j => j < m) m = m := by
        intro m
        induction m with
        | zero => rfl
        | succ m ihm =>
          unfold cnt
          rw [if_pos (by omega), cnt_congr (P' := fun j => j < m) (fun j hj => by omega), ihm]
      rw [this]
    · rw [if_neg (by omega), ih (by omega)]
      rfl
theorem cnt_ex {P : Nat → Prop} {n : Nat} (h : 0 < cnt P n) : ∃ j, j < n ∧ P j := by
  induction n with
  | zero => unfold cnt at h; omega
  | succ n ih =>
    by_cases hp : P n
    · exact ⟨n, by omega, hp⟩
    · unfold cnt at h
      rw [if_neg hp] at h
      obtain ⟨j, h1, h2⟩ := ih (by omega)
      exact ⟨j, by omega, h2⟩
theorem cnt_pos {P : Nat → Prop} {n j : Nat} (hj : j < n) (h : P j) : 0 < cnt P n := by
  induction n with
  | zero => omega
  | succ n ih =>
    unfold cnt
    by_cases hk : j = n
    · subst hk
      rw [if_pos h]
      omega
    · have := ih (by omega)
      omega
theorem bef_irr {f : Nat → Int32} {q : Nat} : ¬ bef f q q := by
  rintro (h | ⟨-, h⟩)
  · rw [i32_lt] at h
    omega
  · omega
theorem bef_asymm {f : Nat → Int32} {o q : Nat} (h : bef f o q) : ¬ bef f q o := by
  unfold bef at *
  rintro (g | ⟨g1, g2⟩)
  · rcases h with h | ⟨h1, h2⟩
    · rw [i32_lt] at *
      omega
    · rw [h1, i32_lt] at g
      omega
  · rcases h with h | ⟨h1, h2⟩
    · rw [g1, i32_lt] at h
      omega
    · omega
def ins (σ : Nat → Nat) (t n : Nat) : Nat → Nat := fun j => if j < t then σ j else if j = t then n else σ (j - 1)
theorem cnt_ins {σ : Nat → Nat} {t n : Nat} (P : Nat → Prop) : ∀ d, cnt (fun j => P (ins σ t n j)) (t + d + 1) = cnt (fun j => P (σ j)) (t + d) + @ite _ (P n) (Classical.propDecidable _) 1 0 := by
  intro d
  induction d with
  | zero =>
    show cnt (fun j => P (ins σ t n j)) t + @ite _ (P (ins σ t n t)) (Classical.propDecidable _) 1 0 = _
    rw [cnt_congr (P' := fun j => P (σ j)) (fun j hj => by simp [ins, hj])]
    have e : ins σ t n t = n := by simp [ins]
    rw [e]
    rfl
  | succ d ih =>
    show cnt (fun j => P (ins σ t n j)) (t + d + 1) + @ite _ (P (ins σ t n (t + d + 1))) (Classical.propDecidable _) 1 0 = cnt (fun j => P (σ j)) (t + d) + @ite _ (P (σ (t + d))) (Classical.propDecidable _) 1 0 + @ite _ (P n) (Classical.propDecidable _) 1 0
    rw [ih]
    have e : ins σ t n (t + d + 1) = σ (t + d) := by simp [ins, show ¬ t + d + 1 < t by omega, show ¬ t + d + 1 = t by omega]
    rw [e]
    omega
theorem ord_ins {f : Nat → Int32} {n t : Nat} {σ : Nat → Nat} (h : OrdS f n σ) (ht : t ≤ n) (h1 : ∀ j, j < t → ¬ f (σ j) < f n) (h2 : ∀ j, t ≤ j → j < n → f (σ j) < f n) : OrdS f (n + 1) (ins σ t n) := by
  obtain ⟨a, b, c⟩ := h
  refine ⟨fun j hj => ?_, fun i j hij hj => ?_, fun P => ?_⟩
  · unfold ins
    split
    · have := a j (by omega)
      omega
    · split
      · omega
      · have := a (j - 1) (by omega)
        omega
  · unfold ins
    by_cases g1 : j < t
    · rw [if_pos (show i < t by omega), if_pos g1]
      exact b i j hij (by omega)
    · rw [if_neg g1]
      by_cases g2 : j = t
      · rw [if_pos g2, if_pos (show i < t by omega)]
        have g3 := h1 i (by omega)
        have g4 := a i (by omega)
        unfold bef
        rw [i32_lt] at *
        by_cases g5 : (f n).toInt = (f (σ i)).toInt
        · exact Or.inr ⟨Int32.toInt_inj.mp g5.symm, g4⟩
        · exact Or.inl (by omega)
      · rw [if_neg g2]
        by_cases g3 : i < t
        · rw [if_pos g3]
          exact b i (j - 1) (by omega) (by omega)
        · rw [if_neg g3]
          by_cases g4 : i = t
          · rw [if_pos g4]
            exact Or.inl (h2 (j - 1) (by omega) (by omega))
          · rw [if_neg g4]
            exact b (i - 1) (j - 1) (by omega) (by omega)
  · have e := cnt_ins (σ := σ) (t := t) (n := n) P (n - t)
    rw [show t + (n - t) = n by omega] at e
    rw [e, ← c P]
    rfl
theorem ord_step {f : Nat → Int32} {k t : Nat} {σ : Nat → Nat} {og : Nat → Int32} (h : OrdS f k σ) (ht : t ≤ k) (h1 : ∀ j, j < t → og j = nI (σ j)) (h2 : ∀ j, t < j → j ≤ k → og j = nI (σ (j - 1)) ∧ f (σ (j - 1)) < f k) (h3 : t = 0 ∨ ¬ f (σ (t - 1)) < f k) : ∃ σ' : Nat → Nat, OrdS f (k + 1) σ' ∧ ∀ j, j < k + 1 → upd og t (nI k) j = nI (σ' j) := by
  refine ⟨ins σ t k, ord_ins h ht (fun j hj => ?_) (fun j g1 g2 => ?_), fun j hj => ?_⟩
  · rcases h3 with h3 | h3
    · omega
    · by_cases g : j = t - 1
      · rw [g]
        exact h3
      · have g2 := h.2.1 j (t - 1) (by omega) (by omega)
        unfold bef at g2
        rw [i32_lt] at *
        rcases g2 with g2 | ⟨g2, -⟩
        · omega
        · rw [g2]
          exact h3
  · have := (h2 (j + 1) (by omega) (by omega)).2
    rw [show j + 1 - 1 = j by omega] at this
    exact this
  · unfold ins
    by_cases g1 : j < t
    · rw [if_pos g1, upd_n (by omega)]
      exact h1 j g1
    · rw [if_neg g1]
      by_cases g2 : j = t
      · rw [if_pos g2, g2, upd_s]
      · rw [if_neg g2, upd_n g2]
        exact (h2 j (by omega) (by omega)).1
/-- the rank of a petition: how many are heard ahead of it -/
noncomputable def rnk (f : Nat → Int32) (n q : Nat) : Nat := cnt (fun o => bef f o q) n
theorem ord_rnk {f : Nat → Int32} {n j : Nat} {σ : Nat → Nat} (h : OrdS f n σ) (hj : j < n) : rnk f n (σ j) = j := by
  unfold rnk
  rw [h.2.2]
  rw [cnt_congr (P' := fun i => i < j) (fun i hi => ?_), cnt_lt (by omega)]
  constructor
  · intro g
    rcases Nat.lt_trichotomy i j with g1 | g1 | g1
    · exact g1
    · subst g1
      exact absurd g bef_irr
    · exact absurd (h.2.1 j i g1 hi) (bef_asymm g)
  · intro g
    exact h.2.1 i j g hj
theorem ord_sur {f : Nat → Int32} {n q : Nat} {σ : Nat → Nat} (h : OrdS f n σ) (hq : q < n) : ∃ j, j < n ∧ σ j = q := by
  have e := h.2.2 (fun x => x = q)
  have p := cnt_pos (P := fun x => x = q) hq rfl
  rw [e] at p
  exact cnt_ex p
theorem ord_inj {f : Nat → Int32} {n i j : Nat} {σ : Nat → Nat} (h : OrdS f n σ) (hi : i < n) (hj : j < n) (e : σ i = σ j) : i = j := by
  have a := ord_rnk h hi
  rw [e, ord_rnk h hj] at a
  exact a.symm
/-- the one of rank k is the k-th -/
theorem ord_at {f : Nat → Int32} {n k q : Nat} {σ : Nat → Nat} (h : OrdS f n σ) (hq : q < n) : rnk f n q = k ↔ (k < n ∧ σ k = q) := by
  constructor
  · intro e
    obtain ⟨j, h1, h2⟩ := ord_sur h hq
    have a := ord_rnk h h1
    rw [h2, e] at a
    subst a
    exact ⟨h1, h2⟩
  · rintro ⟨h1, rfl⟩
    exact ord_rnk h h1
theorem u1_uu {G : GG} {k j : Nat} {f : Nat → Int32} {v : Int32} : u1 (u1 G k f) k (upd ((u1 G k f) k) j v) = u1 G k (upd f j v) := by
  funext a
  by_cases h : a = k
  · subst h
    simp [u1]
  · simp [u1, h]
theorem u1_self (G : GG) (k : Nat) : u1 G k (G k) = G := by
  funext a
  by_cases h : a = k
  · subst h
    simp [u1]
  · simp [u1, h]
