/-! A HEARING in the reference's row: first each petition in its order, then the accounts -/
def LawEq (r y : Nat → Int32) : Prop := ∀ k, k < 192 → k ≠ 10 → y k = r k
def EstEq (r y : Nat → Int32) : Prop := ∀ k, (k ≤ 10 ∨ (84 ≤ k ∧ k < 144) ∨ 192 ≤ k ∨ (12 ≤ k ∧ k < 84 ∧ (k - 12) % 6 < 4)) → y k = r k
theorem LawEq.rf (r : Nat → Int32) : LawEq r r := fun _ _ _ => rfl
theorem LawEq.tr {a b c : Nat → Int32} (h : LawEq a b) (g : LawEq b c) : LawEq a c := fun k h1 h2 => (g k h1 h2).trans (h k h1 h2)
theorem EstEq.rf (r : Nat → Int32) : EstEq r r := fun _ _ => rfl
theorem EstEq.tr {a b c : Nat → Int32} (h : EstEq a b) (g : EstEq b c) : EstEq a c := fun k h1 => (g k h1).trans (h k h1)
theorem itr_congr {α : Type} {f g : Nat → α → α} {a b : α} {n : Nat} (hab : a = b) (h : ∀ i, i < n → ∀ x, f i x = g i x) : itr f a n = itr g b n := by
  induction n with
  | zero => exact hab
  | succ n ih =>
    show f n (itr f a n) = g n (itr g b n)
    rw [ih (fun i hi => h i (by omega)), h n (by omega)]
/-- the support reads the drones' weights and the petition's row alone -/
theorem supp_congr {r y : Nat → Int32} {q : Nat} (h5 : y 5 = r 5) (hk : kn r ≤ 12) (hp : pd r q < 12) (hq : y (5 * q + 84) = r (5 * q + 84)) (hq2 : y (5 * q + 88) = r (5 * q + 88)) (hd : ∀ d, d < 12 → y (6 * d + 13) = r (6 * d + 13)) : supp y q = supp r q := by
  have e1 : kn y = kn r := by unfold kn; rw [h5]
  have e2 : pd y q = pd r q := by unfold pd; rw [hq]
  unfold supp
  rw [e1, e2, hq2, hd _ hp]
  exact itr_congr rfl (fun i hi x => by rw [hd i (by omega)])
theorem LawEq.supp {r y : Nat → Int32} {q : Nat} (h : LawEq r y) (hW : WR r) (hq : q < mn r) : supp y q = supp r q := by
  obtain ⟨⟨w1, w2⟩, ⟨w3, w4⟩, ⟨w5, w6⟩, w7, w8⟩ := hW
  obtain ⟨v1, v2, -⟩ := w7 q hq
  exact supp_congr (h 5 (by omega) (by omega)) w2 (by omega) (h _ (by omega) (by omega)) (h _ (by omega) (by omega)) (fun d hd => h _ (by omega) (by omega))
theorem EstEq.supp {r y : Nat → Int32} {q : Nat} (h : EstEq r y) (hW : WR r) (hq : q < mn r) : supp y q = supp r q := by
  obtain ⟨⟨w1, w2⟩, ⟨w3, w4⟩, ⟨w5, w6⟩, w7, w8⟩ := hW
  obtain ⟨v1, v2, -⟩ := w7 q hq
  exact supp_congr (h 5 (by omega)) w2 (by omega) (h _ (by omega)) (h _ (by omega)) (fun d hd => h _ (by omega))
theorem WR_of {r y : Nat → Int32} (hW : WR r) (h5 : y 5 = r 5) (h6 : y 6 = r 6) (h11 : ∃ o, o ≤ 12 ∧ y 11 = nI o) (hp : ∀ k, 84 ≤ k → k < 144 → y k = r k) (hd : ∀ d, d < 12 → y (6 * d + 12) = r (6 * d + 12)) : WR y := by
  obtain ⟨⟨w1, w2⟩, ⟨w3, w4⟩, ⟨w5, w6⟩, w7, w8⟩ := hW
  have e1 : kn y = kn r := by unfold kn; rw [h5]
  have e2 : mn y = mn r := by unfold mn; rw [h6]
  obtain ⟨o, o1, o2⟩ := h11
  have e3 : on y = o := by unfold on; rw [o2]; exact tn_nI (by omega)
  refine ⟨⟨by rw [h5, e1]; exact w1, by omega⟩, ⟨by rw [h6, e2]; exact w3, by omega⟩, ⟨by rw [e3]; exact o2, by omega⟩, fun q hq => ?_, fun d hd2 => ?_⟩
  · rw [e2] at hq
    obtain ⟨v1, v2, v3, v4, v5, v6, v7, v8⟩ := w7 q hq
    have a1 : pd y q = pd r q := by unfold pd; rw [hp _ (by omega) (by omega)]
    have a2 : pc y q = pc r q := by unfold pc; rw [hp _ (by omega) (by omega)]
    have a3 : pg y q = pg r q := by unfold pg; rw [hp _ (by omega) (by omega)]
    have a4 : pk y q = pk r q := by unfold pk; rw [hp _ (by omega) (by omega)]
    rw [a1, a2, a3, a4, e1, hp _ (by omega) (by omega), hp _ (by omega) (by omega), hp _ (by omega) (by omega), hp _ (by omega) (by omega)]
    exact ⟨v1, v2, v3, v4, v5, v6, v7, v8⟩
  · rw [e1] at hd2
    have a1 : dc y d = dc r d := by unfold dc; rw [hd d (by omega)]
    rw [a1, hd d (by omega)]
    exact w8 d hd2
theorem LawEq.WR {r y : Nat → Int32} (h : LawEq r y) (hW : WR r) : WR y := by
  refine WR_of hW (h 5 (by omega) (by omega)) (h 6 (by omega) (by omega)) ?_ (fun k h1 h2 => h k (by omega) (by omega)) (fun d hd => h _ (by omega) (by omega))
  obtain ⟨-, -, ⟨w5, w6⟩, -⟩ := hW
  exact ⟨on r, w6, by rw [h 11 (by omega) (by omega)]; exact w5⟩
theorem LawEq.mn {r y : Nat → Int32} (h : LawEq r y) : mn y = mn r := by
  show tn (y 6) = tn (r 6)
  rw [h 6 (by omega) (by omega)]
theorem EstEq.mn {r y : Nat → Int32} (h : EstEq r y) : mn y = mn r := by
  show tn (y 6) = tn (r 6)
  rw [h 6 (by omega)]
theorem EstEq.WR {r y : Nat → Int32} (h : EstEq r y) (hW : WR r) (h11 : ∃ o, o ≤ 12 ∧ y 11 = nI o) : WR y :=
  WR_of hW (h 5 (by omega)) (h 6 (by omega)) h11 (fun k h1 h2 => h k (by omega)) (fun d hd => h _ (by omega))
theorem psr_law (r : Nat → Int32) (q : Nat) (v : Int32) : LawEq r (psr r q v) := by
  intro k h1 h2
  unfold psr
  rw [upd_n h2, upd_n (by omega), upd_n (by omega), upd_n (by omega)]
abbrev HS3 : Type := (Nat → Int32) × Nat × (Nat → Int32)
/-- one petition is heard -/
noncomputable def hst (σ : Nat → Nat) (k : Nat) (x : HS3) : HS3 :=
  (if refu x.1 (σ k) (supp x.1 (σ k)) = 0 then psr x.1 (σ k) (supp x.1 (σ k)) else x.1, if refu x.1 (σ k) (supp x.1 (σ k)) = 0 then x.2.1 + 1 else x.2.1, upd x.2.2 (σ k) (refu x.1 (σ k) (supp x.1 (σ k))))
noncomputable def hear (r f : Nat → Int32) (σ : Nat → Nat) (n : Nat) : HS3 := itr (hst σ) (r, 0, f) n
theorem hear_pos {r f : Nat → Int32} {σ : Nat → Nat} {k c : Nat} {x g : Nat → Int32} (e : hear r f σ k = (x, c, g)) (h : refu x (σ k) (supp x (σ k)) = 0) : hear r f σ (k + 1) = (psr x (σ k) (supp x (σ k)), c + 1, upd g (σ k) (refu x (σ k) (supp x (σ k)))) := by
  show hst σ k (hear r f σ k) = _
  rw [e]
  unfold hst
  simp only [if_pos h]
theorem hear_neg {r f : Nat → Int32} {σ : Nat → Nat} {k c : Nat} {x g : Nat → Int32} (e : hear r f σ k = (x, c, g)) (h : ¬ refu x (σ k) (supp x (σ k)) = 0) : hear r f σ (k + 1) = (x, c, upd g (σ k) (refu x (σ k) (supp x (σ k)))) := by
  show hst σ k (hear r f σ k) = _
  rw [e]
  unfold hst
  simp only [if_neg h]
theorem hear_ok {r f : Nat → Int32} {σ : Nat → Nat} : ∀ {k c : Nat} {x g : Nat → Int32}, hear r f σ k = (x, c, g) → LawEq r x ∧ c ≤ k := by
  intro k
  induction k with
  | zero =>
    intro c x g e
    cases e
    exact ⟨LawEq.rf r, Nat.le_refl _⟩
  | succ k ih =>
    intro c x g e
    have e0 : hear r f σ k = ((hear r f σ k).1, (hear r f σ k).2.1, (hear r f σ k).2.2) := rfl
    obtain ⟨h1, h2⟩ := ih e0
    by_cases h : refu (hear r f σ k).1 (σ k) (supp (hear r f σ k).1 (σ k)) = 0
    · rw [hear_pos e0 h] at e
      cases e
      exact ⟨h1.tr (psr_law _ _ _), by omega⟩
    · rw [hear_neg e0 h] at e
      cases e
      exact ⟨h1, by omega⟩
/-- the accounts of one petition, whose reason is f q -/
def est (f : Nat → Int32) (q : Nat) (y : Nat → Int32) : Nat → Int32 :=
  if 0 < f q then upd (upd (upd (upd (upd (upd y (6 * (pd y q) + 17) (y (6 * (pd y q) + 17) + nI 1)) (4 * (on y) + 144) (nI (pc y q))) (4 * (on y) + 145) (nI (pg y q))) (4 * (on y) + 146) (nI (pk y q))) (4 * (on y) + 147) (supp y q)) 11 (nI (on y + 1))
  else upd y (6 * (pd y q) + 16) (y (6 * (pd y q) + 16) + nI 1)
def ests (r f : Nat → Int32) (n : Nat) : Nat → Int32 := itr (est f) (upd r 11 (nI 0)) n
theorem est_eq {f y : Nat → Int32} {q : Nat} (h1 : pd y q < 12) (h2 : on y < 12) : EstEq y (est f q y) := by
  intro k hk
  unfold est
  split
  · rw [upd_n (by omega), upd_n (by omega), upd_n (by omega), upd_n (by omega), upd_n (by omega), upd_n (by omega)]
  · rw [upd_n (by omega)]
theorem est_11 {f y : Nat → Int32} {q : Nat} (h1 : pd y q < 12) (h : y 11 = nI (on y)) : est f q y 11 = nI (if 0 < f q then on y + 1 else on y) := by
  unfold est
  split
  · rw [upd_s]
  · rw [upd_n (by omega)]
    exact h
theorem ests_ok {r f : Nat → Int32} (hW : WR r) : ∀ {n : Nat}, n ≤ mn r → EstEq r (ests r f n) ∧ ∃ o, o ≤ n ∧ ests r f n 11 = nI o := by
  intro n
  induction n with
  | zero =>
    intro _
    refine ⟨fun k hk => upd_n (by omega), 0, Nat.le_refl _, ?_⟩
    show upd r 11 (nI 0) 11 = nI 0
    exact upd_s _ _ _
  | succ n ih =>
    intro hn
    obtain ⟨h1, o, h2, h3⟩ := ih (by omega)
    have hm : mn r ≤ 12 := hW.2.1.2
    have hW2 := h1.WR hW ⟨o, by omega, h3⟩
    have ho : on (ests r f n) = o := by show tn _ = o; rw [h3]; exact tn_nI (by omega)
    have hmn := h1.mn
    obtain ⟨v1, v2, -⟩ := hW2.2.2.2.1 n (by omega)
    have hk := hW2.1.2
    show EstEq r (est f n (ests r f n)) ∧ ∃ o, o ≤ n + 1 ∧ est f n (ests r f n) 11 = nI o
    refine ⟨h1.tr (est_eq (by omega) (by omega)), _, ?_, est_11 (by omega) (by rw [ho]; exact h3)⟩
    split <;> omega
/-- a whole hearing: the row behind it -/
noncomputable def hrow (r f : Nat → Int32) (σ : Nat → Nat) : Nat → Int32 :=
  upd (upd (ests (hear r f σ (mn r)).1 (hear r f σ (mn r)).2.2 (mn r)) 8 (ests (hear r f σ (mn r)).1 (hear r f σ (mn r)).2.2 (mn r) 8 + nI (hear r f σ (mn r)).2.1)) 9 (ests (hear r f σ (mn r)).1 (hear r f σ (mn r)).2.2 (mn r) 9 + (nI (mn r) - nI (hear r f σ (mn r)).2.1))
