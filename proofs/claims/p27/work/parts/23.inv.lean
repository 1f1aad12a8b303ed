/-! what always holds of a row: WR, and that the drones' own petitions and the petitions' drones agree; weights -/
theorem cnt_not {P : Nat → Prop} {n d : Nat} (hd : d < n) (h : ¬ P d) : cnt P n < n := by
  induction n with
  | zero => omega
  | succ n ih =>
    by_cases e : d = n
    · subst e
      rw [cnt_f h]
      have := cnt_le P d
      omega
    · have := ih (by omega)
      by_cases g : P n
      · rw [cnt_t g]; omega
      · rw [cnt_f g]; omega
theorem cnt_set {P P' : Nat → Prop} {n d : Nat} (hd : d < n) (h : ¬ P d) (h' : P' d) (ho : ∀ j, j < n → j ≠ d → (P' j ↔ P j)) : cnt P' n = cnt P n + 1 := by
  induction n with
  | zero => omega
  | succ n ih =>
    by_cases e : d = n
    · subst e
      rw [cnt_t h', cnt_f h, cnt_congr (fun j hj => ho j (by omega) (by omega))]
    · have := ih (by omega) (fun j hj => ho j (by omega))
      by_cases g : P n
      · rw [cnt_t g, cnt_t ((ho n (by omega) (fun q => e q.symm)).mpr g), this]
      · rw [cnt_f g, cnt_f (fun q => g ((ho n (by omega) (fun q => e q.symm)).mp q)), this]
theorem cnt_none {P : Nat → Prop} {n : Nat} (h : ∀ j, j < n → ¬ P j) : cnt P n = 0 := by
  induction n with
  | zero => rfl
  | succ n ih => rw [cnt_f (h n (by omega)), ih (fun j hj => h j (by omega))]
def WO (r : Nat → Int32) : Prop := (∀ q, q < mn r → r (6 * (pd r q) + 14) = nI q) ∧ (∀ d, d < kn r → r (6 * d + 14) = (-5) ∨ ∃ q, q < mn r ∧ r (6 * d + 14) = nI q ∧ pd r q = d) ∧ cnt (fun d => r (6 * d + 14) ≠ (-5)) (kn r) = mn r
def RI (r : Nat → Int32) : Prop := WR r ∧ WO r
/-- nothing changes but numbers that neither WR nor WO reads -/
theorem RI_of {r y : Nat → Int32} (h : RI r) (h5 : y 5 = r 5) (h6 : y 6 = r 6) (h11 : y 11 = r 11) (hp : ∀ k, 84 ≤ k → k < 144 → (k - 84) % 5 < 4 → y k = r k) (hd : ∀ d, d < 12 → y (6 * d + 12) = r (6 * d + 12)) (ho : ∀ d, d < 12 → y (6 * d + 14) = r (6 * d + 14)) : RI y := by
  obtain ⟨⟨⟨w1, w2⟩, ⟨w3, w4⟩, ⟨w5, w6⟩, w7, w8⟩, o1, o2, o3⟩ := h
  have e1 : kn y = kn r := by unfold kn; rw [h5]
  have e2 : mn y = mn r := by unfold mn; rw [h6]
  have e3 : on y = on r := by unfold on; rw [h11]
  have ed : ∀ q, q < mn r → pd y q = pd r q := fun q hq => by unfold pd; rw [hp _ (by omega) (by omega) (by omega)]
  refine ⟨⟨⟨by rw [h5, e1]; exact w1, by omega⟩, ⟨by rw [h6, e2]; exact w3, by omega⟩, ⟨by rw [h11, e3]; exact w5, by omega⟩, fun q hq => ?_, fun d hd2 => ?_⟩, fun q hq => ?_, fun d hd2 => ?_, ?_⟩
  · rw [e2] at hq
    have a1 := ed q hq
    have a2 : pc y q = pc r q := by unfold pc; rw [hp _ (by omega) (by omega) (by omega)]
    have a3 : pg y q = pg r q := by unfold pg; rw [hp _ (by omega) (by omega) (by omega)]
    have a4 : pk y q = pk r q := by unfold pk; rw [hp _ (by omega) (by omega) (by omega)]
    rw [a1, a2, a3, a4, e1, hp _ (by omega) (by omega) (by omega), hp _ (by omega) (by omega) (by omega), hp _ (by omega) (by omega) (by omega), hp _ (by omega) (by omega) (by omega)]
    exact w7 q hq
  · rw [e1] at hd2
    have a1 : dc y d = dc r d := by unfold dc; rw [hd d (by omega)]
    rw [a1, hd d (by omega)]
    exact w8 d hd2
  · rw [e2] at hq
    have := (w7 q hq).2.1
    rw [ed q hq, ho _ (by omega)]
    exact o1 q hq
  · rw [e1] at hd2
    rw [ho d (by omega)]
    rcases o2 d hd2 with a | ⟨q, q1, q2, q3⟩
    · exact Or.inl a
    · exact Or.inr ⟨q, by omega, q2, by rw [ed q q1]; exact q3⟩
  · rw [e1, e2, ← o3]
    exact cnt_congr (fun d hd2 => by rw [ho d (by omega)])
theorem req_RI {r y : Nat → Int32} (h : REq r y) (hR : RI r) : RI y := RI_of hR (h 5 (by omega)) (h 6 (by omega)) (h 11 (by omega)) (fun k a b _ => h k (by omega)) (fun d hd => h _ (by omega)) (fun d hd => h _ (by omega))
theorem scR_RI {r : Nat → Int32} (h : RI r) (d q : Int32) : RI (scR r d q) := by
  unfold scR
  rcases Classical.em ((isN d (kn r) ∧ isN q (mn r)) ∧ r (5 * (tn q) + 84) ≠ d ∧ ¬ sbit r (tn q) d) with c | c
  · rw [cif_t c]
    obtain ⟨⟨-, k, hk, rfl⟩, -⟩ := c
    have hm := h.1.2.1.2
    have e : tn (nI k) = k := tn_nI (by omega)
    rw [e]
    exact RI_of h (upd_n (by omega)) (upd_n (by omega)) (upd_n (by omega)) (fun j a b cc => upd_n (by omega)) (fun d hd => upd_n (by omega)) (fun d hd => upd_n (by omega))
  · rw [cif_f c]
    exact h
theorem stR_RI {r : Nat → Int32} (h : RI r) (x v : Int32) : RI (stR r x v) := by
  unfold stR
  rcases Classical.em (inN x 0 1 ∧ inN v (tn x) 60) with c | c
  · rw [cif_t c]
    obtain ⟨⟨k, -, hk, rfl⟩, -⟩ := c
    have e : tn (nI k) = k := tn_nI (by omega)
    rw [e]
    exact RI_of h (upd_n (by omega)) (upd_n (by omega)) (upd_n (by omega)) (fun j a b cc => upd_n (by omega)) (fun d hd => upd_n (by omega)) (fun d hd => upd_n (by omega))
  · rw [cif_f c]
    exact h
theorem mvR_RI {r : Nat → Int32} (h : RI r) (d x : Int32) : RI (mvR r d x) := by
  unfold mvR
  rcases Classical.em (isN d (kn r) ∧ isN x 6) with c | c
  · rw [cif_t c]
    obtain ⟨⟨D, hD, rfl⟩, a, ha, rfl⟩ := c
    have hk := h.1.1.2
    have e : tn (nI D) = D := tn_nI (by omega)
    rw [e]
    have h2 := h
    obtain ⟨⟨⟨w1, w2⟩, ⟨w3, w4⟩, ⟨w5, w6⟩, w7, w8⟩, o1, o2, o3⟩ := h
    have e1 : kn (upd r (6 * D + 12) (nI a)) = kn r := by unfold kn; rw [upd_n (by omega)]
    have e2 : mn (upd r (6 * D + 12) (nI a)) = mn r := by unfold mn; rw [upd_n (by omega)]
    have e3 : on (upd r (6 * D + 12) (nI a)) = on r := by unfold on; rw [upd_n (by omega)]
    have ed : ∀ q, pd (upd r (6 * D + 12) (nI a)) q = pd r q := fun q => by unfold pd; rw [upd_n (by omega)]
    refine ⟨⟨⟨by rw [upd_n (by omega), e1]; exact w1, by omega⟩, ⟨by rw [upd_n (by omega), e2]; exact w3, by omega⟩, ⟨by rw [upd_n (by omega), e3]; exact w5, by omega⟩, fun q hq => ?_, fun d hd2 => ?_⟩, fun q hq => ?_, fun d hd2 => ?_, ?_⟩
    · rw [e2] at hq
      have a2 : pc (upd r (6 * D + 12) (nI a)) q = pc r q := by unfold pc; rw [upd_n (by omega)]
      have a3 : pg (upd r (6 * D + 12) (nI a)) q = pg r q := by unfold pg; rw [upd_n (by omega)]
      have a4 : pk (upd r (6 * D + 12) (nI a)) q = pk r q := by unfold pk; rw [upd_n (by omega)]
      rw [ed, a2, a3, a4, e1, upd_n (by omega), upd_n (by omega), upd_n (by omega), upd_n (by omega)]
      exact w7 q hq
    · rw [e1] at hd2
      by_cases g : d = D
      · subst g
        have e5 : dc (upd r (6 * d + 12) (nI a)) d = a := by unfold dc; rw [upd_s]; exact tn_nI (by omega)
        rw [e5, upd_s]
        exact ⟨rfl, ha⟩
      · have e5 : dc (upd r (6 * D + 12) (nI a)) d = dc r d := by unfold dc; rw [upd_n (by omega)]
        rw [e5, upd_n (by omega)]
        exact w8 d hd2
    · rw [e2] at hq
      rw [ed, upd_n (by omega)]
      exact o1 q hq
    · rw [e1] at hd2
      rw [upd_n (by omega)]
      rcases o2 d hd2 with b | ⟨q, q1, q2, q3⟩
      · exact Or.inl b
      · exact Or.inr ⟨q, by omega, q2, by rw [ed]; exact q3⟩
    · rw [e1, e2, ← o3]
      exact cnt_congr (fun d hd2 => by rw [upd_n (by omega)])
  · rw [cif_f c]
    exact h
theorem cmR_RI {r : Nat → Int32} (h : RI r) (x w : Int32) : RI (cmR r x w) := by
  unfold cmR
  rcases Classical.em (isN x 6 ∧ inN w 1 9 ∧ kn r ≠ 12) with c | c
  · rw [cif_t c]
    obtain ⟨⟨a, ha, rfl⟩, hw, hk12⟩ := c
    obtain ⟨⟨⟨w1, w2⟩, ⟨w3, w4⟩, ⟨w5, w6⟩, w7, w8⟩, o1, o2, o3⟩ := h
    obtain ⟨y, hy⟩ : ∃ y, y = upd (upd (upd (upd (upd (upd (upd r (6 * (kn r) + 12) (nI a)) (6 * (kn r) + 13) w) (6 * (kn r) + 14) (-5)) (6 * (kn r) + 15) (nI 0)) (6 * (kn r) + 16) (nI 0)) (6 * (kn r) + 17) (nI 0)) 5 (nI (kn r + 1)) := ⟨_, rfl⟩
    rw [← hy]
    have hn : ∀ k, k ≠ 5 → (k < 6 * kn r + 12 ∨ 6 * kn r + 18 ≤ k) → y k = r k := fun k a b => by
      rw [hy, upd_n a, upd_n (by omega), upd_n (by omega), upd_n (by omega), upd_n (by omega), upd_n (by omega), upd_n (by omega)]
    have y5 : y 5 = nI (kn r + 1) := by rw [hy, upd_s]
    have y12 : y (6 * kn r + 12) = nI a := by rw [hy, upd_n (by omega), upd_n (by omega), upd_n (by omega), upd_n (by omega), upd_n (by omega), upd_n (by omega), upd_s]
    have y14 : y (6 * kn r + 14) = (-5) := by rw [hy, upd_n (by omega), upd_n (by omega), upd_n (by omega), upd_n (by omega), upd_s]
    have e1 : kn y = kn r + 1 := by show tn (y 5) = _; rw [y5]; exact tn_nI (by omega)
    have e2 : mn y = mn r := by unfold mn; rw [hn 6 (by omega) (by omega)]
    have e3 : on y = on r := by unfold on; rw [hn 11 (by omega) (by omega)]
    have ed : ∀ q, pd y q = pd r q := fun q => by unfold pd; rw [hn _ (by omega) (by omega)]
    refine ⟨⟨⟨by rw [e1]; exact y5, by omega⟩, ⟨by rw [hn 6 (by omega) (by omega), e2]; exact w3, by omega⟩, ⟨by rw [hn 11 (by omega) (by omega), e3]; exact w5, by omega⟩, fun q hq => ?_, fun d hd2 => ?_⟩, fun q hq => ?_, fun d hd2 => ?_, ?_⟩
    · rw [e2] at hq
      have a2 : pc y q = pc r q := by unfold pc; rw [hn _ (by omega) (by omega)]
      have a3 : pg y q = pg r q := by unfold pg; rw [hn _ (by omega) (by omega)]
      have a4 : pk y q = pk r q := by unfold pk; rw [hn _ (by omega) (by omega)]
      rw [ed, a2, a3, a4, e1, hn _ (by omega) (by omega), hn _ (by omega) (by omega), hn _ (by omega) (by omega), hn _ (by omega) (by omega)]
      obtain ⟨v1, v2, v3⟩ := w7 q hq
      exact ⟨v1, by omega, v3⟩
    · rw [e1] at hd2
      by_cases g : d = kn r
      · subst g
        have e5 : dc y (kn r) = a := by unfold dc; rw [y12]; exact tn_nI (by omega)
        rw [e5, y12]
        exact ⟨rfl, ha⟩
      · have e5 : dc y d = dc r d := by unfold dc; rw [hn _ (by omega) (by omega)]
        rw [e5, hn _ (by omega) (by omega)]
        exact w8 d (by omega)
    · rw [e2] at hq
      have := (w7 q hq).2.1
      rw [ed, hn _ (by omega) (by omega)]
      exact o1 q hq
    · rw [e1] at hd2
      by_cases g : d = kn r
      · subst g
        exact Or.inl y14
      · rw [hn _ (by omega) (by omega)]
        rcases o2 d (by omega) with b | ⟨q, q1, q2, q3⟩
        · exact Or.inl b
        · exact Or.inr ⟨q, by omega, q2, by rw [ed]; exact q3⟩
    · rw [e1, e2, cnt_f (fun q => q y14), ← o3]
      exact cnt_congr (fun d hd2 => by rw [hn _ (by omega) (by omega)])
  · rw [cif_f c]
    exact h
theorem dayR_RI {r : Nat → Int32} (h : RI r) : RI (dayR r) := by
  refine ⟨dayR_WR h.1, ?_⟩
  have hE : RI (dayE r) := by
    unfold dayE
    exact RI_of h (by rw [upd_n (by omega), upd_n (by omega)]) (by rw [upd_n (by omega), upd_n (by omega)]) (by rw [upd_n (by omega), upd_n (by omega)]) (fun k a b _ => by rw [upd_n (by omega), upd_n (by omega)]) (fun d hd => by rw [upd_n (by omega), upd_n (by omega)]) (fun d hd => by rw [upd_n (by omega), upd_n (by omega)])
  have hk := h.1.1.2
  unfold dayR
  split
  · exact hE.2
  · obtain ⟨y, hy⟩ : ∃ y, y = upd (upd (upd (hrC (dayE r)) 3 (r 3 + nI 1)) 4 (nI 0)) 6 (nI 0) := ⟨_, rfl⟩
    rw [← hy]
    have e6 : mn (noOwn (kn r) y) = 0 := by
      show tn _ = 0
      rw [noOwn_n (fun d hd => by omega), hy, upd_s]
      exact tn_nI (by omega)
    have e5 : kn (noOwn (kn r) y) = kn r := by
      show tn _ = tn _
      rw [noOwn_n (fun d hd => by omega), hy, upd_n (by omega), upd_n (by omega), upd_n (by omega), hrC_eq hE.1 (by omega) (by omega) (by omega) (by omega) (by omega)]
      unfold dayE
      rw [upd_n (by omega), upd_n (by omega)]
    refine ⟨fun q hq => by omega, fun d hd => ?_, ?_⟩
    · rw [e5] at hd
      exact Or.inl (noOwn_s hd)
    · rw [e5, e6]
      exact cnt_none (fun d hd q => q (noOwn_s hd))
theorem edI_RI {r : Nat → Int32} (h : RI r) : ∀ n, RI (edI r n).1 := by
  intro n
  induction n with
  | zero => exact h
  | succ n ih => exact dayR_RI ih
theorem edR_RI {r : Nat → Int32} (h : RI r) (n : Int32) : RI (edR r n) := by
  unfold edR
  rcases Classical.em (inN n 1 99 ∧ r 2 + n ≤ nI 99999) with c | c
  · rw [cif_t c]
    exact edI_RI h _
  · rw [cif_f c]
    exact h
theorem ptR_RI {r : Nat → Int32} (h : RI r) (d x g k : Int32) : RI (ptR r d x g k) := by
  unfold ptR
  rcases Classical.em ((isN d (kn r) ∧ inN x 0 6 ∧ isN g 20) ∧ inN k 0 2 ∧ ptF r d x) with c | c
  · rw [cif_t c]
    obtain ⟨⟨⟨D, hD, rfl⟩, ⟨X, -, hX, rfl⟩, ⟨Gd, hG, rfl⟩⟩, ⟨K, -, hK, rfl⟩, hF⟩ := c
    obtain ⟨⟨⟨w1, w2⟩, ⟨w3, w4⟩, ⟨w5, w6⟩, w7, w8⟩, o1, o2, o3⟩ := h
    have eT : tn (nI D) = D := tn_nI (by omega)
    have hown : r (6 * D + 14) = (-5) := by have := hF.1; rw [eT] at this; exact this
    have hm : mn r < 12 := by
      have := cnt_not (P := fun d => r (6 * d + 14) ≠ (-5)) hD (fun q => q hown)
      omega
    rw [eT]
    obtain ⟨m, hmm⟩ : ∃ m, m = mn r := ⟨_, rfl⟩
    rw [← hmm] at o3 hm ⊢
    obtain ⟨y, hy⟩ : ∃ y, y = upd (upd (upd (upd (upd (upd (upd (upd (upd r (5 * m + 84) (nI D)) (5 * m + 85) (nI X)) (5 * m + 86) (nI Gd)) (5 * m + 87) (nI K)) (5 * m + 88) (nI 0)) (6 * D + 14) (nI m)) (6 * D + 15) (r (6 * D + 15) + nI 1)) 7 (r 7 + nI 1)) 6 (nI (m + 1)) := ⟨_, rfl⟩
    rw [← hy]
    have hn : ∀ k, k ≠ 6 → k ≠ 7 → k ≠ 6 * D + 14 → k ≠ 6 * D + 15 → (k < 5 * m + 84 ∨ 5 * m + 89 ≤ k) → y k = r k := fun k a b c d e => by
      rw [hy, upd_n a, upd_n b, upd_n d, upd_n c, upd_n (by omega), upd_n (by omega), upd_n (by omega), upd_n (by omega), upd_n (by omega)]
    have y6 : y 6 = nI (m + 1) := by rw [hy, upd_s]
    have y14 : y (6 * D + 14) = nI m := by rw [hy, upd_n (by omega), upd_n (by omega), upd_n (by omega), upd_s]
    have p0 : y (5 * m + 84) = nI D := by rw [hy, upd_n (by omega), upd_n (by omega), upd_n (by omega), upd_n (by omega), upd_n (by omega), upd_n (by omega), upd_n (by omega), upd_n (by omega), upd_s]
    have p1 : y (5 * m + 85) = nI X := by rw [hy, upd_n (by omega), upd_n (by omega), upd_n (by omega), upd_n (by omega), upd_n (by omega), upd_n (by omega), upd_n (by omega), upd_s]
    have p2 : y (5 * m + 86) = nI Gd := by rw [hy, upd_n (by omega), upd_n (by omega), upd_n (by omega), upd_n (by omega), upd_n (by omega), upd_n (by omega), upd_s]
    have p3 : y (5 * m + 87) = nI K := by rw [hy, upd_n (by omega), upd_n (by omega), upd_n (by omega), upd_n (by omega), upd_n (by omega), upd_s]
    have e1 : kn y = kn r := by unfold kn; rw [hn 5 (by omega) (by omega) (by omega) (by omega) (by omega)]
    have e2 : mn y = m + 1 := by show tn (y 6) = _; rw [y6]; exact tn_nI (by omega)
    have e3 : on y = on r := by unfold on; rw [hn 11 (by omega) (by omega) (by omega) (by omega) (by omega)]
    have ed : ∀ q, q < m → pd y q = pd r q := fun q hq => by unfold pd; rw [hn _ (by omega) (by omega) (by omega) (by omega) (by omega)]
    have edm : pd y m = D := by unfold pd; rw [p0]; exact tn_nI (by omega)
    refine ⟨⟨⟨by rw [hn 5 (by omega) (by omega) (by omega) (by omega) (by omega), e1]; exact w1, by omega⟩, ⟨by rw [e2]; exact y6, by omega⟩, ⟨by rw [hn 11 (by omega) (by omega) (by omega) (by omega) (by omega), e3]; exact w5, by omega⟩, fun q hq => ?_, fun d hd2 => ?_⟩, fun q hq => ?_, fun d hd2 => ?_, ?_⟩
    · rw [e2] at hq
      by_cases g : q = m
      · subst g
        have a2 : pc y q = X := by unfold pc; rw [p1]; exact tn_nI (by omega)
        have a3 : pg y q = Gd := by unfold pg; rw [p2]; exact tn_nI (by omega)
        have a4 : pk y q = K := by unfold pk; rw [p3]; exact tn_nI (by omega)
        rw [edm, a2, a3, a4, e1]
        exact ⟨p0, hD, p1, hX, p2, hG, p3, hK⟩
      · have a2 : pc y q = pc r q := by unfold pc; rw [hn _ (by omega) (by omega) (by omega) (by omega) (by omega)]
        have a3 : pg y q = pg r q := by unfold pg; rw [hn _ (by omega) (by omega) (by omega) (by omega) (by omega)]
        have a4 : pk y q = pk r q := by unfold pk; rw [hn _ (by omega) (by omega) (by omega) (by omega) (by omega)]
        rw [ed q (by omega), a2, a3, a4, e1, hn _ (by omega) (by omega) (by omega) (by omega) (by omega), hn _ (by omega) (by omega) (by omega) (by omega) (by omega), hn _ (by omega) (by omega) (by omega) (by omega) (by omega), hn _ (by omega) (by omega) (by omega) (by omega) (by omega)]
        exact w7 q (by omega)
    · rw [e1] at hd2
      have e5 : dc y d = dc r d := by unfold dc; rw [hn _ (by omega) (by omega) (by omega) (by omega) (by omega)]
      rw [e5, hn _ (by omega) (by omega) (by omega) (by omega) (by omega)]
      exact w8 d hd2
    · rw [e2] at hq
      by_cases g : q = m
      · subst g
        rw [edm]
        exact y14
      · have hq2 : q < mn r := by omega
        have v2 := (w7 q hq2).2.1
        have hne : pd r q ≠ D := fun e => by
          have := o1 q hq2
          rw [e, hown] at this
          exact absurd this.symm (nI_n5 (by omega))
        rw [ed q (by omega), hn _ (by omega) (by omega) (by omega) (by omega) (by omega)]
        exact o1 q hq2
    · rw [e1] at hd2
      by_cases g : d = D
      · subst g
        exact Or.inr ⟨m, by omega, y14, edm⟩
      · rw [hn _ (by omega) (by omega) (by omega) (by omega) (by omega)]
        rcases o2 d hd2 with b | ⟨q, q1, q2, q3⟩
        · exact Or.inl b
        · exact Or.inr ⟨q, by omega, q2, by rw [ed q (by omega)]; exact q3⟩
    · rw [e1, e2, ← o3]
      refine cnt_set hD (fun q => q hown) (fun q => by rw [y14] at q; exact nI_n5 (by omega) q) (fun j hj hj2 => ?_)
      rw [hn _ (by omega) (by omega) (by omega) (by omega) (by omega)]
  · rw [cif_f c]
    exact h
