/-! a season ends: the accounts of a hearing -/
theorem refu_nn (r : Nat → Int32) (q : Nat) (v : Int32) : 0 ≤ refu r q v := by
  unfold refu
  repeat' split
  all_goals decide
theorem hear_nn {r f : Nat → Int32} {σ : Nat → Nat} (h : ∀ q, 0 ≤ f q) : ∀ k q, 0 ≤ (hear r f σ k).2.2 q := by
  intro k
  induction k with
  | zero => exact h
  | succ k ih =>
    intro q
    show 0 ≤ upd (hear r f σ k).2.2 (σ k) (refu (hear r f σ k).1 (σ k) (supp (hear r f σ k).1 (σ k))) q
    by_cases e : q = σ k
    · rw [e, upd_s]
      exact refu_nn _ _ _
    · rw [upd_n e]
      exact ih q
theorem hearC_nn (r : Nat → Int32) (q : Nat) : 0 ≤ (hearC r).2.2 q := hear_nn (fun _ => by decide) _ _
theorem hear_cnt {r f s : Nat → Int32} {σ : Nat → Nat} {n : Nat} (h : OrdS s n σ) : ∀ k, k ≤ n → (hear r f σ k).2.1 = cnt (fun j => (hear r f σ k).2.2 (σ j) = 0) k := by
  intro k
  induction k with
  | zero => exact fun _ => rfl
  | succ k ih =>
    intro hk
    have e0 : hear r f σ k = ((hear r f σ k).1, (hear r f σ k).2.1, (hear r f σ k).2.2) := rfl
    have hc : ∀ v, cnt (fun j => upd (hear r f σ k).2.2 (σ k) v (σ j) = 0) k = cnt (fun j => (hear r f σ k).2.2 (σ j) = 0) k := fun v => cnt_congr (fun j hj => by
      rw [upd_n (fun e => by have := ord_inj h (show j < n by omega) (show k < n by omega) e; omega)])
    by_cases g : refu (hear r f σ k).1 (σ k) (supp (hear r f σ k).1 (σ k)) = 0
    · rw [hear_pos e0 g]
      show (hear r f σ k).2.1 + 1 = cnt (fun j => upd (hear r f σ k).2.2 (σ k) _ (σ j) = 0) (k + 1)
      rw [cnt_t (P := fun j => upd (hear r f σ k).2.2 (σ k) _ (σ j) = 0) (by show upd _ _ _ _ = 0; rw [upd_s]; exact g), hc, ih (by omega)]
    · rw [hear_neg e0 g]
      show (hear r f σ k).2.1 = cnt (fun j => upd (hear r f σ k).2.2 (σ k) _ (σ j) = 0) (k + 1)
      rw [cnt_f (P := fun j => upd (hear r f σ k).2.2 (σ k) _ (σ j) = 0) (fun q => by replace q : upd _ _ _ _ = 0 := q; rw [upd_s] at q; exact g q), hc, ih (by omega)]
theorem hearC_cnt (r : Nat → Int32) : (hearC r).2.1 = cnt (fun q => (hearC r).2.2 q = 0) (mn r) := by
  rw [(sg_ok r).2.2 (fun q => (hearC r).2.2 q = 0)]
  exact hear_cnt (sg_ok r) _ (Nat.le_refl _)
theorem cnt_neg {P : Nat → Prop} : ∀ n, cnt (fun j => ¬ P j) n + cnt P n = n := by
  intro n
  induction n with
  | zero => rfl
  | succ n ih =>
    by_cases g : P n
    · rw [cnt_f (P := fun j => ¬ P j) (fun q => q g), cnt_t g]; omega
    · rw [cnt_t (P := fun j => ¬ P j) g, cnt_f g]; omega
/-- the row while the accounts are made: the first t petitions are done -/
noncomputable def yT (r : Nat → Int32) (t : Nat) : Nat → Int32 := upd (upd (ests (hearC r).1 (hearC r).2.2 t) 8 (r 8 + nI (cnt (fun q => (hearC r).2.2 q = 0) t))) 9 (r 9 + nI (cnt (fun q => ¬ (hearC r).2.2 q = 0) t))
theorem est_8 {f y : Nat → Int32} {q k : Nat} (hk : k = 8 ∨ k = 9) (h2 : on y < 12) : est f q y k = y k := by
  unfold est
  split
  · rw [upd_n (by omega), upd_n (by omega), upd_n (by omega), upd_n (by omega), upd_n (by omega), upd_n (by omega)]
  · rw [upd_n (by omega)]
theorem ests_8 {r f : Nat → Int32} (hW : WR r) {k : Nat} (hk : k = 8 ∨ k = 9) : ∀ n, n ≤ mn r → ests r f n k = r k := fun n hn => (ests_ok (f := f) hW hn).1 k (by omega)
theorem yT_end {r : Nat → Int32} (hW : WR r) : yT r (mn r) = hrC r := by
  obtain ⟨a, c⟩ := hearC_ok r
  have hWx := a.WR hW
  have hm : mn (hearC r).1 = mn r := a.mn
  have e8 : ests (hearC r).1 (hearC r).2.2 (mn r) 8 = r 8 := (ests_8 hWx (Or.inl rfl) _ (by omega)).trans (a 8 (by omega) (by omega))
  have e9 : ests (hearC r).1 (hearC r).2.2 (mn r) 9 = r 9 := (ests_8 hWx (Or.inr rfl) _ (by omega)).trans (a 9 (by omega) (by omega))
  have hn := cnt_neg (P := fun q => (hearC r).2.2 q = 0) (mn r)
  have hc := hearC_cnt r
  have h12 := hW.2.1.2
  unfold yT hrC
  rw [e8, e9, ← hc, show nI (mn r) - nI (hearC r).2.1 = nI (cnt (fun q => ¬ (hearC r).2.2 q = 0) (mn r)) from by
    rw [show cnt (fun q => ¬ (hearC r).2.2 q = 0) (mn r) = mn r - (hearC r).2.1 by omega]
    exact nI_subc (by omega)]
/-- a petition's account where it passed: a step of yT -/
theorem yT_p {r : Nat → Int32} {t : Nat} (h : (hearC r).2.2 t = 0) (hd : pd (yT r t) t < 12) (hp : pd (yT r t) t = pd (ests (hearC r).1 (hearC r).2.2 t) t) : yT r (t + 1) = upd (upd (yT r t) (6 * (pd (yT r t) t) + 16) (yT r t (6 * (pd (yT r t) t) + 16) + nI 1)) 8 (yT r t 8 + nI 1) := by
  have h0 : ¬ 0 < (hearC r).2.2 t := by rw [h]; decide
  have c1 : cnt (fun q => (hearC r).2.2 q = 0) (t + 1) = cnt (fun q => (hearC r).2.2 q = 0) t + 1 := cnt_t (P := fun q => (hearC r).2.2 q = 0) h
  have c2 : cnt (fun q => ¬ (hearC r).2.2 q = 0) (t + 1) = cnt (fun q => ¬ (hearC r).2.2 q = 0) t := cnt_f (P := fun q => ¬ (hearC r).2.2 q = 0) (fun q => q h)
  have e : ests (hearC r).1 (hearC r).2.2 (t + 1) = upd (ests (hearC r).1 (hearC r).2.2 t) (6 * (pd (yT r t) t) + 16) (ests (hearC r).1 (hearC r).2.2 t (6 * (pd (yT r t) t) + 16) + nI 1) := by
    show est _ t (ests (hearC r).1 (hearC r).2.2 t) = _
    rw [hp]
    unfold est
    rw [if_neg h0]
  have hD : ∃ D, D = pd (yT r t) t := ⟨_, rfl⟩
  obtain ⟨D, hD⟩ := hD
  rw [← hD] at e hd ⊢
  unfold yT
  rw [e, c1, c2]
  generalize ests (hearC r).1 (hearC r).2.2 t = y
  funext k
  by_cases k9 : k = 9
  · subst k9
    rw [upd_s, upd_n (by omega), upd_n (by omega), upd_s]
  · by_cases k8 : k = 8
    · subst k8
      rw [upd_n (by omega), upd_s, upd_s, upd_n (by omega), upd_s, Int32.add_assoc]
      congr 1
      exact (nI_addc (by omega)).symm
    · rw [upd_n k9, upd_n k8, upd_n k8]
      by_cases kD : k = 6 * D + 16
      · rw [kD, upd_s, upd_s, upd_n (by omega), upd_n (by omega)]
      · rw [upd_n kD, upd_n kD, upd_n k9, upd_n k8]
