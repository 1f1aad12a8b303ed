/-! THE INVARIANTS behind days and seasons -/
theorem cnt_1 {P : Nat → Prop} {n q : Nat} (hq : q < n) (h : P q) (hu : ∀ j, j < n → P j → j = q) : cnt P n = 1 := by
  have := cnt_set (P := fun _ => False) (P' := P) hq (fun h => h) h (fun j hj hne => ⟨fun p => hne (hu j hj p), False.elim⟩)
  rw [this, cnt_none (fun j _ h => h)]
theorem hear_n {r f : Nat → Int32} {σ : Nat → Nat} {a S : Nat} (hW : WR r) (ha : r 10 = nI a) (hS : r 3 = nI S) (hl : ∀ k, k < 140 → LW r k → ∃ t, t ≤ S ∧ r (3 * k + 194) = nI t) (hs : ∀ j, j < mn r → σ j < mn r) : ∀ n, n ≤ mn r → ∃ a', (hear r f σ n).1 10 = nI a' ∧ a ≤ a' ∧ a' ≤ a + (hear r f σ n).2.1 ∧ ∀ k, k < 140 → LW (hear r f σ n).1 k → ∃ t, t ≤ S ∧ (hear r f σ n).1 (3 * k + 194) = nI t := by
  intro n
  induction n with
  | zero => exact fun _ => ⟨a, ha, Nat.le_refl _, Nat.le_add_right _ _, hl⟩
  | succ n ih =>
    intro hn
    obtain ⟨a', h1, h2, h3, h4⟩ := ih (by omega)
    have e0 : hear r f σ n = ((hear r f σ n).1, (hear r f σ n).2.1, (hear r f σ n).2.2) := rfl
    obtain ⟨hLE, hc⟩ := hear_ok e0
    have hW2 := hLE.WR hW
    have hm := hLE.mn
    have x3 : (hear r f σ n).1 3 = nI S := (hLE 3 (by omega) (by omega)).trans hS
    by_cases g : refu (hear r f σ n).1 (σ n) (supp (hear r f σ n).1 (σ n)) = 0
    · rw [hear_pos e0 g]
      generalize hx : (hear r f σ n).1 = x at *
      generalize hcc : (hear r f σ n).2.1 = c at *
      have hq : σ n < mn x := by rw [hm]; exact hs n (by omega)
      obtain ⟨-, -, -, v4, -, v6, -, -⟩ := hW2.2.2.2.1 _ hq
      obtain ⟨s, es⟩ : ∃ s, s = 20 * pc x (σ n) + pg x (σ n) := ⟨_, rfl⟩
      have i2 : 60 * pc x (σ n) + 3 * pg x (σ n) + 192 = 3 * s + 192 := by omega
      have i3 : 60 * pc x (σ n) + 3 * pg x (σ n) + 193 = 3 * s + 193 := by omega
      have i4 : 60 * pc x (σ n) + 3 * pg x (σ n) + 194 = 3 * s + 194 := by omega
      show ∃ a', psr x (σ n) (supp x (σ n)) 10 = nI a' ∧ a ≤ a' ∧ a' ≤ a + (c + 1) ∧ ∀ k, k < 140 → LW (psr x (σ n) (supp x (σ n))) k → ∃ t, t ≤ S ∧ psr x (σ n) (supp x (σ n)) (3 * k + 194) = nI t
      obtain ⟨y, hy⟩ : ∃ y, y = psr x (σ n) (supp x (σ n)) := ⟨_, rfl⟩
      rw [← hy]
      unfold psr at hy
      rw [i2, i3, i4] at hy
      have y10 : y 10 = nI a' + b2 (pk x (σ n) = 2) := by rw [hy, upd_s, h1]
      have hk : ∀ k, k < 140 → LW y k → ∃ t, t ≤ S ∧ y (3 * k + 194) = nI t := by
        intro k hk hL
        by_cases e : k = s
        · subst e
          exact ⟨S, Nat.le_refl _, by rw [hy, upd_n (by omega), upd_s, x3]⟩
        · have : LW x k := fun q => hL (by rw [hy, upd_n (by omega), upd_n (by omega), upd_n (by omega), upd_n (by omega)]; exact q)
          obtain ⟨t, t1, t2⟩ := h4 k hk this
          exact ⟨t, t1, by rw [hy, upd_n (by omega), upd_n (by omega), upd_n (by omega), upd_n (by omega)]; exact t2⟩
      rcases Classical.em (pk x (σ n) = 2) with e | e
      · exact ⟨a' + 1, by rw [y10, b2_t e]; exact nI_addc rfl, by omega, by omega, hk⟩
      · exact ⟨a', by rw [y10, b2_f e]; exact nI_addc (b := 0) rfl, h2, by omega, hk⟩
    · rw [hear_neg e0 g]
      exact ⟨a', h1, h2, h3, h4⟩
theorem ests_pr {x f : Nat → Int32} (hW : WR x) {d : Nat} (hd : d < 12) : ∀ n, n ≤ mn x → ests x f n (6 * d + 16) = x (6 * d + 16) + nI (cnt (fun q => pd x q = d ∧ ¬ 0 < f q) n) ∧ ests x f n (6 * d + 17) = x (6 * d + 17) + nI (cnt (fun q => pd x q = d ∧ 0 < f q) n) := by
  have z : ∀ v : Int32, v = v + nI 0 := fun v => (Int32.add_zero v).symm
  intro n
  induction n with
  | zero =>
    intro _
    refine ⟨?_, ?_⟩
    · show upd x 11 (nI 0) (6 * d + 16) = _
      rw [upd_n (by omega)]
      exact z _
    · show upd x 11 (nI 0) (6 * d + 17) = _
      rw [upd_n (by omega)]
      exact z _
  | succ n ih =>
    intro hn
    obtain ⟨h1, h2⟩ := ih (by omega)
    obtain ⟨g1, o, g2, g3⟩ := ests_ok (f := f) hW (n := n) (by omega)
    have hm := hW.2.1.2
    have ho : on (ests x f n) = o := by show tn _ = o; rw [g3]; exact tn_nI (by omega)
    have hp : pd (ests x f n) n = pd x n := by unfold pd; rw [g1 _ (by omega)]
    have hp2 := (hW.2.2.2.1 n (by omega)).2.1
    have hk := hW.1.2
    show est f n (ests x f n) (6 * d + 16) = _ ∧ est f n (ests x f n) (6 * d + 17) = _
    generalize ests x f n = y at *
    unfold est
    rw [hp, ho]
    by_cases c : 0 < f n
    · rw [if_pos c, cnt_f (P := fun q => pd x q = d ∧ ¬ 0 < f q) (fun q => q.2 c), upd_n (by omega), upd_n (by omega), upd_n (by omega), upd_n (by omega), upd_n (by omega), upd_n (by omega), upd_n (by omega), upd_n (by omega), upd_n (by omega), upd_n (by omega), upd_n (by omega)]
      refine ⟨h1, ?_⟩
      by_cases e : pd x n = d
      · subst e
        rw [upd_s, cnt_t (P := fun q => pd x q = pd x n ∧ 0 < f q) ⟨rfl, c⟩, h2, Int32.add_assoc]
        congr 1
        exact nI_addc rfl
      · rw [upd_n (by omega), cnt_f (P := fun q => pd x q = d ∧ 0 < f q) (fun q => e q.1)]
        exact h2
    · rw [if_neg c, cnt_f (P := fun q => pd x q = d ∧ 0 < f q) (fun q => c q.2)]
      refine ⟨?_, by rw [upd_n (by omega)]; exact h2⟩
      by_cases e : pd x n = d
      · subst e
        rw [upd_s, cnt_t (P := fun q => pd x q = pd x n ∧ ¬ 0 < f q) ⟨rfl, c⟩, h1, Int32.add_assoc]
        congr 1
        exact nI_addc rfl
      · rw [upd_n (by omega), cnt_f (P := fun q => pd x q = d ∧ ¬ 0 < f q) (fun q => e q.1)]
        exact h1
theorem nn_z {x : Int32} (h : 0 ≤ x) : ¬ 0 < x ↔ x = 0 := by
  rw [i32_le] at h
  rw [i32_lt]
  have e0 : (0 : Int32).toInt = 0 := by decide
  constructor
  · intro g
    exact Int32.toInt_inj.mp (by omega)
  · intro g
    rw [g]
    omega
theorem dayE_n {r : Nat → Int32} {k : Nat} (h2 : k ≠ 2) (h4 : k ≠ 4) : dayE r k = r k := by
  unfold dayE
  rw [upd_n h4, upd_n h2]
/-- the row behind a hearing at which the season ends: what of it is new -/
theorem end_row {r : Nat → Int32} (hI : RI r) (he : ¬ r 4 + nI 1 < r 1) : (∀ k, k < 192 → (k = 0 ∨ k = 1 ∨ k = 5 ∨ k = 7 ∨ (84 ≤ k ∧ k < 144) ∨ (12 ≤ k ∧ k < 84 ∧ (k % 6 = 0 ∨ k % 6 = 1 ∨ k % 6 = 3))) → dayR r k = r k) ∧ dayR r 2 = r 2 + nI 1 ∧ dayR r 3 = r 3 + nI 1 ∧ dayR r 4 = nI 0 ∧ dayR r 6 = nI 0 ∧ dayR r 8 = r 8 + nI (hearC (dayE r)).2.1 ∧ dayR r 9 = r 9 + (nI (mn r) - nI (hearC (dayE r)).2.1) ∧ dayR r 10 = (hearC (dayE r)).1 10 ∧ (∀ k, 192 ≤ k → dayR r k = (hearC (dayE r)).1 k) ∧ (∀ d, d < kn r → dayR r (6 * d + 14) = (-5)) ∧ (∀ d, d < kn r → dayR r (6 * d + 16) = r (6 * d + 16) + nI (cnt (fun q => pd r q = d ∧ (hearC (dayE r)).2.2 q = 0) (mn r)) ∧ dayR r (6 * d + 17) = r (6 * d + 17) + nI (cnt (fun q => pd r q = d ∧ ¬ (hearC (dayE r)).2.2 q = 0) (mn r))) := by
  have hE : WR (dayE r) := dayE_WR hI.1
  obtain ⟨hLE, hc⟩ := hearC_ok (dayE r)
  have hWx := hLE.WR hE
  have hm : mn (dayE r) = mn r := by unfold mn; rw [dayE_n (by omega) (by omega)]
  have hmx : mn (hearC (dayE r)).1 = mn r := hLE.mn.trans hm
  have hk := hI.1.1.2
  have hm12 := hI.1.2.1.2
  have E0 : ∀ k, (∀ d, d < kn r → k ≠ 6 * d + 14) → k ≠ 3 → k ≠ 4 → k ≠ 6 → dayR r k = hrC (dayE r) k := fun k a b c d => by
    unfold dayR
    rw [if_neg he, noOwn_n a, upd_n d, upd_n c, upd_n b]
  have E1 : ∀ k, k ≠ 8 → k ≠ 9 → hrC (dayE r) k = ests (hearC (dayE r)).1 (hearC (dayE r)).2.2 (mn r) k := fun k a b => by
    unfold hrC
    rw [upd_n b, upd_n a, hm]
  have E2 : ∀ {n}, n ≤ mn r → EstEq (hearC (dayE r)).1 (ests (hearC (dayE r)).1 (hearC (dayE r)).2.2 n) := fun {n} hn => (ests_ok hWx (by rw [hmx]; exact hn)).1
  have E3 : ∀ k, k < 192 → k ≠ 10 → k ≠ 2 → k ≠ 4 → (hearC (dayE r)).1 k = r k := fun k a b c d => (hLE k a b).trans (dayE_n c d)
  have hp : ∀ q, pd (hearC (dayE r)).1 q = pd r q ∨ 12 ≤ q := fun q => by
    by_cases g : q < 12
    · exact Or.inl (by unfold pd; rw [E3 _ (by omega) (by omega) (by omega) (by omega)])
    · exact Or.inr (by omega)
  have D3 : dayR r 3 = r 3 + nI 1 := by
    unfold dayR
    rw [if_neg he, noOwn_n (fun d hd => by omega), upd_n (by omega), upd_n (by omega), upd_s]
  have D4 : dayR r 4 = nI 0 := by
    unfold dayR
    rw [if_neg he, noOwn_n (fun d hd => by omega), upd_n (by omega), upd_s]
  have D6 : dayR r 6 = nI 0 := by
    unfold dayR
    rw [if_neg he, noOwn_n (fun d hd => by omega), upd_s]
  have D14 : ∀ d, d < kn r → dayR r (6 * d + 14) = (-5) := fun d hd => by
    unfold dayR
    rw [if_neg he]
    exact noOwn_s hd
  have D8 : dayR r 8 = r 8 + nI (hearC (dayE r)).2.1 := by
    rw [E0 8 (fun d hd => by omega) (by omega) (by omega) (by omega)]
    unfold hrC
    rw [upd_n (by omega), upd_s, hm, E2 (Nat.le_refl _) 8 (by omega), E3 8 (by omega) (by omega) (by omega) (by omega)]
  have D9 : dayR r 9 = r 9 + (nI (mn r) - nI (hearC (dayE r)).2.1) := by
    rw [E0 9 (fun d hd => by omega) (by omega) (by omega) (by omega)]
    unfold hrC
    rw [upd_s, hm, E2 (Nat.le_refl _) 9 (by omega), E3 9 (by omega) (by omega) (by omega) (by omega)]
  have D2 : dayR r 2 = r 2 + nI 1 := by
    rw [E0 2 (fun d hd => by omega) (by omega) (by omega) (by omega), E1 2 (by omega) (by omega), E2 (Nat.le_refl _) 2 (by omega), hLE 2 (by omega) (by omega)]
    unfold dayE
    rw [upd_n (by omega), upd_s]
  refine ⟨fun k h1 h2 => ?_, D2, D3, D4, D6, D8, D9, ?_, fun k hk2 => ?_, D14, fun d hd => ?_⟩
  · rw [E0 k (fun d hd => by omega) (by omega) (by omega) (by omega), E1 k (by omega) (by omega), E2 (Nat.le_refl _) k (by omega), E3 k h1 (by omega) (by omega) (by omega)]
  · rw [E0 10 (fun d hd => by omega) (by omega) (by omega) (by omega), E1 10 (by omega) (by omega), E2 (Nat.le_refl _) 10 (by omega)]
  · rw [E0 k (fun d hd => by omega) (by omega) (by omega) (by omega), E1 k (by omega) (by omega), E2 (Nat.le_refl _) k (by omega)]
  · obtain ⟨g1, g2⟩ := ests_pr (f := (hearC (dayE r)).2.2) hWx (d := d) (by omega) (mn r) (by omega)
    rw [E0 (6 * d + 16) (fun j hj => by omega) (by omega) (by omega) (by omega), E1 _ (by omega) (by omega), g1, E0 (6 * d + 17) (fun j hj => by omega) (by omega) (by omega) (by omega), E1 _ (by omega) (by omega), g2, E3 _ (by omega) (by omega) (by omega) (by omega), E3 _ (by omega) (by omega) (by omega) (by omega)]
    have e1 : ∀ q, q < mn r → pd (hearC (dayE r)).1 q = pd r q := fun q hq => (hp q).resolve_right (by omega)
    refine ⟨congrArg (fun n => r (6 * d + 16) + nI n) (cnt_congr (fun q hq => ?_)), congrArg (fun n => r (6 * d + 17) + nI n) (cnt_congr (fun q hq => ?_))⟩
    · rw [e1 q hq, nn_z (hearC_nn _ _)]
    · rw [e1 q hq, ← nn_z (hearC_nn _ _), Classical.not_not]
theorem own_cnt {r : Nat → Int32} (hI : RI r) {d : Nat} (hd : d < kn r) (P : Nat → Prop) : (r (6 * d + 14) = (-5) ∧ cnt (fun q => pd r q = d ∧ P q) (mn r) = 0) ∨ ∃ q, q < mn r ∧ r (6 * d + 14) = nI q ∧ pd r q = d ∧ (P q → cnt (fun q => pd r q = d ∧ P q) (mn r) = 1) ∧ (¬ P q → cnt (fun q => pd r q = d ∧ P q) (mn r) = 0) := by
  obtain ⟨⟨⟨w1, w2⟩, ⟨w3, w4⟩, ⟨w5, w6⟩, w7, w8⟩, o1, o2, o3⟩ := hI
  have hu : ∀ q, q < mn r → pd r q = d → r (6 * d + 14) = nI q := fun q hq e => by rw [← e]; exact o1 q hq
  rcases o2 d hd with e | ⟨q, q1, q2, q3⟩
  · refine Or.inl ⟨e, cnt_none (fun j hj h => ?_)⟩
    have := hu j hj h.1
    rw [e] at this
    exact absurd this.symm (nI_n5 (by omega))
  · have hu2 : ∀ j, j < mn r → pd r j = d → j = q := fun j hj h => (nI_eq (by omega) (by omega)).mp ((hu j hj h).symm.trans q2)
    refine Or.inr ⟨q, q1, q2, q3, fun hp => cnt_1 q1 ⟨q3, hp⟩ (fun j hj h => hu2 j hj h.1), fun hp => cnt_none (fun j hj h => hp ?_)⟩
    rw [← hu2 j hj h.1]
    exact h.2
theorem dayR_Iv {B : Nat} {r : Nat → Int32} (h : Iv B r) (hB : B < 99999) : Iv (B + 1) (dayR r) := by
  refine ⟨dayR_RI h.1, ?_⟩
  obtain ⟨⟨w1, w2⟩, ⟨w3, w4⟩, ⟨w5, w6⟩, w7, w8⟩ := h.1.1
  obtain ⟨D, S, e, a, b, ⟨D1, D2⟩, ⟨S1, S2⟩, ⟨e1, e2⟩, ⟨a1, b1, ab, b2⟩, hl⟩ := h.2.2.1
  obtain ⟨m, L, ⟨m1, m2⟩, L1, L2, L3⟩ := h.2.2.2.1
  by_cases he : r 4 + nI 1 < r 1
  · have hE : dayR r = dayE r := by unfold dayR; rw [if_pos he]
    rw [hE]
    have he2 : e + 1 < L := by rw [e1, L1, nI_addc rfl, nI_ltI (by omega) (by omega)] at he; exact he
    have z2 : dayE r 2 = nI (D + 1) := by unfold dayE; rw [upd_n (by omega), upd_s, D1]; exact nI_addc rfl
    have z4 : dayE r 4 = nI (e + 1) := by unfold dayE; rw [upd_s, e1]; exact nI_addc rfl
    refine ⟨n1_of h.2.1 (dayE_n (by omega) (by omega)) w2 (fun k p q _ => dayE_n (by omega) (by omega)), ⟨D + 1, S, e + 1, a, b, ⟨z2, by omega⟩, ⟨by rw [dayE_n (by omega) (by omega)]; exact S1, by omega⟩, ⟨z4, by omega⟩, ⟨by rw [dayE_n (by omega) (by omega)]; exact a1, by rw [dayE_n (by omega) (by omega)]; exact b1, ab, b2⟩, fun k hk hL => ?_⟩, n3_of h.2.2.2.1 (dayE_n (by omega) (by omega)) (dayE_n (by omega) (by omega)), n4_of h.2.2.2.2 (dayE_n (by omega) (by omega)) w4 (fun k p q => dayE_n (by omega) (by omega))⟩
    rw [dayE_n (by omega) (by omega)]
    exact hl k hk (fun q => hL (by rw [dayE_n (by omega) (by omega)]; exact q))
  · obtain ⟨r0, r2, r3, r4, r6, r8, r9, r10, rl, r14, r16⟩ := end_row h.1 he
    have hm : mn (dayE r) = mn r := by unfold mn; rw [dayE_n (by omega) (by omega)]
    have hs := sg_ok (dayE r)
    obtain ⟨a', p1, p2, p3, p4⟩ := hear_n (r := dayE r) (f := fun _ => 0) (σ := sg (dayE r)) (a := a) (S := S) (dayE_WR h.1.1) (by rw [dayE_n (by omega) (by omega)]; exact a1) (by rw [dayE_n (by omega) (by omega)]; exact S1) (fun k hk hL => by
      rw [dayE_n (by omega) (by omega)]
      obtain ⟨t, t1, t2⟩ := hl k hk (fun q => hL (by rw [dayE_n (by omega) (by omega)]; exact q))
      exact ⟨t, by omega, t2⟩) (fun j hj => hs.1 j hj) (mn (dayE r)) (Nat.le_refl _)
    have hcc : (hearC (dayE r)).2.1 ≤ 12 := by have := (hearC_ok (dayE r)).2; omega
    have p1 : (hearC (dayE r)).1 10 = nI a' := p1
    have p3 : a' ≤ a + (hearC (dayE r)).2.1 := p3
    have p4 : ∀ k, k < 140 → LW (hearC (dayE r)).1 k → ∃ t, t ≤ S ∧ (hearC (dayE r)).1 (3 * k + 194) = nI t := p4
    have k5 : kn (dayR r) = kn r := by unfold kn; rw [r0 5 (by omega) (by omega)]
    refine ⟨fun d hd => ?_, ⟨D + 1, S + 1, 0, a', b + (hearC (dayE r)).2.1, ⟨by rw [r2, D1]; exact nI_addc rfl, by omega⟩, ⟨by rw [r3, S1]; exact nI_addc rfl, by omega⟩, ⟨r4, by omega⟩, ⟨by rw [r10]; exact p1, by rw [r8, b1]; exact nI_addc rfl, by omega, by omega⟩, fun k hk hL => ?_⟩, n3_of h.2.2.2.1 (r0 0 (by omega) (by omega)) (r0 1 (by omega) (by omega)), fun q hq => ?_⟩
    · rw [k5] at hd
      obtain ⟨g1, g2⟩ := r16 d hd
      rw [r0 (6 * d + 15) (by omega) (by omega), g1, g2, r14 d hd, if_pos rfl]
      have hn := h.2.1 d hd
      have q1 := own_cnt h.1 hd (fun q => (hearC (dayE r)).2.2 q = 0)
      have q2 := own_cnt h.1 hd (fun q => ¬ (hearC (dayE r)).2.2 q = 0)
      have az : ∀ v : Int32, v + nI 0 = v := fun v => Int32.add_zero v
      have ac : ∀ x y u v w : Int32, u + v = w + nI 0 → x + y + w = x + u + (y + v) + nI 0 := fun x y u v w h => by
        rw [az] at h ⊢
        rw [← h, Int32.add_assoc x u, ← Int32.add_assoc u y v, Int32.add_comm u y, Int32.add_assoc y u v, ← Int32.add_assoc x y]
      rw [hn]
      refine ac _ _ _ _ _ ?_
      rcases q1 with ⟨x1, x2⟩ | ⟨q, x1, x2, x3, x4, x5⟩
      · rcases q2 with ⟨y1, y2⟩ | ⟨q', y1, y2, -⟩
        · rw [x2, y2, if_pos x1]
        · rw [x1] at y2
          exact absurd y2.symm (nI_n5 (by omega))
      · rcases q2 with ⟨y1, y2⟩ | ⟨q', y1, y2, y3, y4, y5⟩
        · rw [y1] at x2
          exact absurd x2.symm (nI_n5 (by omega))
        · have eq : q' = q := (nI_eq (by omega) (by omega)).mp (y2.symm.trans x2)
          subst eq
          rw [if_neg (by rw [x2]; exact nI_n5 (by omega))]
          by_cases g : (hearC (dayE r)).2.2 q' = 0
          · rw [x4 g, y5 (fun p => p g)]
          · rw [x5 g, y4 g]
            rfl
    · rw [rl _ (by omega)]
      obtain ⟨t, t1, t2⟩ := p4 k hk (fun q => hL (by rw [rl _ (by omega)]; exact q))
      exact ⟨t, by omega, t2⟩
    · have : mn (dayR r) = 0 := by unfold mn; rw [r6]; exact tn_nI (by omega)
      omega
theorem edI_Iv {B : Nat} {r : Nat → Int32} (h : Iv B r) : ∀ n, B + n ≤ 99999 → Iv (B + n) (edI r n).1 := by
  intro n
  induction n with
  | zero => exact fun _ => h
  | succ n ih => exact fun hn => dayR_Iv (ih (by omega)) (Nat.lt_of_succ_le hn)
theorem edR_Iv {B : Nat} {r : Nat → Int32} (h : Iv B r) {t : Nat} (ht : B + t ≤ 99999) : Iv (B + t) (edR r (nI t)) := by
  unfold edR
  rcases Classical.em (inN (nI t) 1 99 ∧ r 2 + nI t ≤ nI 99999) with c | c
  · rw [cif_t c, tn_nI (by omega)]
    exact edI_Iv h t ht
  · rw [cif_f c]
    exact Iv_le h (Nat.le_add_right _ _)
