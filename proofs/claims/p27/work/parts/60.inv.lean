/-! THE LAW'S INVARIANTS of a row, beside Rep's own -/
def n1 (r : Nat → Int32) : Prop := ∀ d, d < kn r → r (6 * d + 15) = r (6 * d + 16) + r (6 * d + 17) + (if r (6 * d + 14) = (-5) then nI 0 else nI 1)
def n2 (B : Nat) (r : Nat → Int32) : Prop := ∃ D S e a b, (r 2 = nI D ∧ D ≤ B) ∧ (r 3 = nI S ∧ S ≤ D) ∧ (r 4 = nI e ∧ e < 60) ∧ (r 10 = nI a ∧ r 8 = nI b ∧ a ≤ b ∧ b ≤ 12 * S) ∧ ∀ k, k < 140 → LW r k → ∃ t, t < S ∧ r (3 * k + 194) = nI t
def n3 (r : Nat → Int32) : Prop := ∃ m L, (r 0 = nI m ∧ m ≤ 60) ∧ r 1 = nI L ∧ 1 ≤ L ∧ L ≤ 60
def n4 (r : Nat → Int32) : Prop := ∀ q, q < mn r → bt (r (5 * q + 88)) (pd r q) = false
def Iv (B : Nat) (r : Nat → Int32) : Prop := RI r ∧ n1 r ∧ n2 B r ∧ n3 r ∧ n4 r
theorem n2_le {B B' : Nat} {r : Nat → Int32} (h : n2 B r) (hB : B ≤ B') : n2 B' r := by
  obtain ⟨D, S, e, a, b, ⟨h1, h2⟩, h3⟩ := h
  exact ⟨D, S, e, a, b, ⟨h1, by omega⟩, h3⟩
theorem Iv_le {B B' : Nat} {r : Nat → Int32} (h : Iv B r) (hB : B ≤ B') : Iv B' r := ⟨h.1, h.2.1, n2_le h.2.2.1 hB, h.2.2.2⟩
theorem n1_of {r y : Nat → Int32} (h : n1 r) (h5 : y 5 = r 5) (hk : kn r ≤ 12) (hd : ∀ k, 12 ≤ k → k < 84 → 2 ≤ k % 6 → y k = r k) : n1 y := by
  intro d hd2
  have e : kn y = kn r := by unfold kn; rw [h5]
  rw [e] at hd2
  rw [hd _ (by omega) (by omega) (by omega), hd _ (by omega) (by omega) (by omega), hd _ (by omega) (by omega) (by omega), hd _ (by omega) (by omega) (by omega)]
  exact h d hd2
theorem n2_of {B : Nat} {r y : Nat → Int32} (h : n2 B r) (h2 : y 2 = r 2) (h3 : y 3 = r 3) (h4 : y 4 = r 4) (h8 : y 8 = r 8) (h10 : y 10 = r 10) (hl : ∀ k, 192 ≤ k → k < 612 → y k = r k) : n2 B y := by
  obtain ⟨D, S, e, a, b, g1, g2, g3, g4, g5⟩ := h
  refine ⟨D, S, e, a, b, by rw [h2]; exact g1, by rw [h3]; exact g2, by rw [h4]; exact g3, by rw [h10, h8]; exact g4, fun k hk hL => ?_⟩
  have : LW r k := fun q => hL (by rw [hl _ (by omega) (by omega)]; exact q)
  rw [hl _ (by omega) (by omega)]
  exact g5 k hk this
theorem n3_of {r y : Nat → Int32} (h : n3 r) (h0 : y 0 = r 0) (h1 : y 1 = r 1) : n3 y := by
  unfold n3
  rw [h0, h1]
  exact h
theorem n4_of {r y : Nat → Int32} (h : n4 r) (h6 : y 6 = r 6) (hm : mn r ≤ 12) (hq : ∀ k, 84 ≤ k → k < 144 → y k = r k) : n4 y := by
  intro q hq2
  have e : mn y = mn r := by unfold mn; rw [h6]
  rw [e] at hq2
  have e2 : pd y q = pd r q := by unfold pd; rw [hq _ (by omega) (by omega)]
  rw [hq _ (by omega) (by omega), e2]
  exact h q hq2
theorem Iv_req {B : Nat} {r y : Nat → Int32} (h : REq r y) (hI : Iv B r) : Iv B y :=
  ⟨req_RI h hI.1, n1_of hI.2.1 (h _ (by omega)) hI.1.1.1.2 (fun k a b _ => h k (by omega)), n2_of hI.2.2.1 (h _ (by omega)) (h _ (by omega)) (h _ (by omega)) (h _ (by omega)) (h _ (by omega)) (fun k _ b => h k b), n3_of hI.2.2.2.1 (h _ (by omega)) (h _ (by omega)), n4_of hI.2.2.2.2 (h _ (by omega)) hI.1.1.2.1.2 (fun k a b => h k (by omega))⟩
theorem cmR_Iv {B : Nat} {r : Nat → Int32} (h : Iv B r) (x w : Int32) : Iv B (cmR r x w) := by
  refine ⟨cmR_RI h.1 x w, ?_⟩
  unfold cmR
  rcases Classical.em (isN x 6 ∧ inN w 1 9 ∧ kn r ≠ 12) with c | c
  · rw [cif_t c]
    obtain ⟨⟨⟨w1, w2⟩, ⟨w3, w4⟩, -⟩, -⟩ := h.1
    have hK : kn r < 12 := by have := c.2.2; omega
    obtain ⟨K, eK⟩ : ∃ K, K = kn r := ⟨_, rfl⟩
    rw [← eK] at hK ⊢
    obtain ⟨y, hy⟩ : ∃ y, y = upd (upd (upd (upd (upd (upd (upd r (6 * K + 12) x) (6 * K + 13) w) (6 * K + 14) (-5)) (6 * K + 15) (nI 0)) (6 * K + 16) (nI 0)) (6 * K + 17) (nI 0)) 5 (nI (K + 1)) := ⟨_, rfl⟩
    rw [← hy]
    have hn : ∀ k, k ≠ 5 → (k < 6 * K + 12 ∨ 6 * K + 18 ≤ k) → y k = r k := fun k a b => by rw [hy, upd_n a, upd_n (by omega), upd_n (by omega), upd_n (by omega), upd_n (by omega), upd_n (by omega), upd_n (by omega)]
    have e1 : kn y = K + 1 := by show tn (y 5) = _; rw [hy, upd_s]; exact tn_nI (by omega)
    refine ⟨fun d hd => ?_, n2_of h.2.2.1 (hn _ (by omega) (by omega)) (hn _ (by omega) (by omega)) (hn _ (by omega) (by omega)) (hn _ (by omega) (by omega)) (hn _ (by omega) (by omega)) (fun k _ b => hn k (by omega) (by omega)), n3_of h.2.2.2.1 (hn _ (by omega) (by omega)) (hn _ (by omega) (by omega)), n4_of h.2.2.2.2 (hn _ (by omega) (by omega)) w4 (fun k a b => hn k (by omega) (by omega))⟩
    rw [e1] at hd
    by_cases g : d = K
    · subst g
      have z5 : y (6 * d + 15) = nI 0 := by rw [hy, upd_n (by omega), upd_n (by omega), upd_n (by omega), upd_s]
      have z6 : y (6 * d + 16) = nI 0 := by rw [hy, upd_n (by omega), upd_n (by omega), upd_s]
      have z7 : y (6 * d + 17) = nI 0 := by rw [hy, upd_n (by omega), upd_s]
      have z4 : y (6 * d + 14) = (-5) := by rw [hy, upd_n (by omega), upd_n (by omega), upd_n (by omega), upd_n (by omega), upd_s]
      rw [z5, z6, z7, z4, if_pos rfl]
      rfl
    · rw [hn _ (by omega) (by omega), hn _ (by omega) (by omega), hn _ (by omega) (by omega), hn _ (by omega) (by omega)]
      exact h.2.1 d (by omega)
  · rw [cif_f c]
    exact h.2
theorem mvR_Iv {B : Nat} {r : Nat → Int32} (h : Iv B r) (d x : Int32) : Iv B (mvR r d x) := by
  refine ⟨mvR_RI h.1 d x, ?_⟩
  unfold mvR
  rcases Classical.em (isN d (kn r) ∧ isN x 6) with c | c
  · rw [cif_t c]
    obtain ⟨⟨⟨w1, w2⟩, ⟨w3, w4⟩, -⟩, -⟩ := h.1
    obtain ⟨⟨D, hD, rfl⟩, -⟩ := c
    rw [tn_nI (by omega)]
    exact ⟨n1_of h.2.1 (upd_n (by omega)) w2 (fun k a b c => upd_n (by omega)), n2_of h.2.2.1 (upd_n (by omega)) (upd_n (by omega)) (upd_n (by omega)) (upd_n (by omega)) (upd_n (by omega)) (fun k a _ => upd_n (by omega)), n3_of h.2.2.2.1 (upd_n (by omega)) (upd_n (by omega)), n4_of h.2.2.2.2 (upd_n (by omega)) w4 (fun k a b => upd_n (by omega))⟩
  · rw [cif_f c]
    exact h.2
theorem stR_Iv {B : Nat} {r : Nat → Int32} (h : Iv B r) (x v : Int32) : Iv B (stR r x v) := by
  refine ⟨stR_RI h.1 x v, ?_⟩
  unfold stR
  rcases Classical.em (inN x 0 1 ∧ inN v (tn x) 60) with c | c
  · rw [cif_t c]
    obtain ⟨⟨⟨w1, w2⟩, ⟨w3, w4⟩, -⟩, -⟩ := h.1
    obtain ⟨⟨X, -, hX, rfl⟩, ⟨v, v1, v2, rfl⟩⟩ := c
    rw [tn_nI (by omega)] at v1 ⊢
    refine ⟨n1_of h.2.1 (upd_n (by omega)) w2 (fun k a b c => upd_n (by omega)), n2_of h.2.2.1 (upd_n (by omega)) (upd_n (by omega)) (upd_n (by omega)) (upd_n (by omega)) (upd_n (by omega)) (fun k a _ => upd_n (by omega)), ?_, n4_of h.2.2.2.2 (upd_n (by omega)) w4 (fun k a b => upd_n (by omega))⟩
    obtain ⟨m, L, ⟨m1, m2⟩, l1, l2, l3⟩ := h.2.2.2.1
    rcases (show X = 0 ∨ X = 1 by omega) with rfl | rfl
    · exact ⟨v, L, ⟨upd_s _ _ _, v2⟩, by rw [upd_n (by omega)]; exact l1, l2, l3⟩
    · exact ⟨m, v, ⟨by rw [upd_n (by omega)]; exact m1, m2⟩, upd_s _ _ _, v1, v2⟩
  · rw [cif_f c]
    exact h.2
theorem scR_Iv {B : Nat} {r : Nat → Int32} (h : Iv B r) (d q : Int32) : Iv B (scR r d q) := by
  refine ⟨scR_RI h.1 d q, ?_⟩
  unfold scR
  rcases Classical.em ((isN d (kn r) ∧ isN q (mn r)) ∧ r (5 * (tn q) + 84) ≠ d ∧ ¬ sbit r (tn q) d) with c | c
  · rw [cif_t c]
    obtain ⟨⟨⟨w1, w2⟩, ⟨w3, w4⟩, -, w7, -⟩, -⟩ := h.1
    obtain ⟨⟨⟨D, hD, rfl⟩, ⟨q, hq, rfl⟩⟩, c1, c2⟩ := c
    rw [tn_nI (by omega)] at c1 ⊢
    refine ⟨n1_of h.2.1 (upd_n (by omega)) w2 (fun k a b c => upd_n (by omega)), n2_of h.2.2.1 (upd_n (by omega)) (upd_n (by omega)) (upd_n (by omega)) (upd_n (by omega)) (upd_n (by omega)) (fun k a _ => upd_n (by omega)), n3_of h.2.2.2.1 (upd_n (by omega)) (upd_n (by omega)), fun j hj => ?_⟩
    have e : mn (upd r (5 * q + 88) (r (5 * q + 88) ||| (nI 1 <<< (nI D &&& 31)))) = mn r := by unfold mn; rw [upd_n (by omega)]
    have e2 : pd (upd r (5 * q + 88) (r (5 * q + 88) ||| (nI 1 <<< (nI D &&& 31)))) j = pd r j := by unfold pd; rw [upd_n (by omega)]
    rw [e] at hj
    rw [e2]
    by_cases g : j = q
    · subst g
      have v := w7 j hj
      have hne : pd r j ≠ D := fun e => c1 (by rw [v.1, e])
      rw [upd_s, bt_set (by omega) (by omega), h.2.2.2.2 j hj, Bool.false_or, decide_eq_false_iff_not]
      exact hne
    · rw [upd_n (by omega)]
      exact h.2.2.2.2 j hj
  · rw [cif_f c]
    exact h.2
theorem ptR_Iv {B : Nat} {r : Nat → Int32} (h : Iv B r) (d x g k : Int32) : Iv B (ptR r d x g k) := by
  refine ⟨ptR_RI h.1 d x g k, ?_⟩
  unfold ptR
  rcases Classical.em ((isN d (kn r) ∧ inN x 0 6 ∧ isN g 20) ∧ inN k 0 2 ∧ ptF r d x) with c | c
  · rw [cif_t c]
    obtain ⟨⟨⟨D, hD, rfl⟩, ⟨X, -, hX, rfl⟩, ⟨Gd, hG, rfl⟩⟩, ⟨K, -, hK, rfl⟩, hF⟩ := c
    obtain ⟨⟨⟨w1, w2⟩, ⟨w3, w4⟩, ⟨w5, w6⟩, w7, w8⟩, o1, o2, o3⟩ := h.1
    have eT : tn (nI D) = D := tn_nI (by omega)
    have hown : r (6 * D + 14) = (-5) := by have := hF.1; rw [eT] at this; exact this
    have hm : mn r < 12 := by
      have := cnt_not (P := fun d => r (6 * d + 14) ≠ (-5)) hD (fun q => q hown)
      omega
    rw [eT]
    obtain ⟨m, hmm⟩ : ∃ m, m = mn r := ⟨_, rfl⟩
    rw [← hmm] at o3 hm ⊢
    obtain ⟨y, hy⟩ : ∃ y, y = upd (upd (upd (upd (upd (upd (upd (upd (upd r (5 * m + 84) (nI D)) (5 * m + 85) (nI X)) (5 * m + 86) (nI Gd)) (5 * m + 87) (nI K)) (5 * m + 88) (nI 0)) (6 * D + 14) (nI m)) (6 * D + 15) (r (6 * D + 15) + nI 1)) 7 (r 7 + nI 1)) 6 (nI (m + 1)) := ⟨_, rfl⟩
    rw [← hy]
    have hn : ∀ k, k ≠ 6 → k ≠ 7 → k ≠ 6 * D + 14 → k ≠ 6 * D + 15 → (k < 5 * m + 84 ∨ 5 * m + 89 ≤ k) → y k = r k := fun k a b c d e => by
      rw [hy, upd_n a, upd_n b, upd_n d, upd_n c, upd_n (by omega), upd_n (by omega), upd_n (by omega), upd_n (by omega), upd_n (by omega)]
    have y6 : y 6 = nI (m + 1) := by rw [hy, upd_s]
    have y14 : y (6 * D + 14) = nI m := by rw [hy, upd_n (by omega), upd_n (by omega), upd_n (by omega), upd_s]
    have y15 : y (6 * D + 15) = r (6 * D + 15) + nI 1 := by rw [hy, upd_n (by omega), upd_n (by omega), upd_s]
    have p0 : y (5 * m + 84) = nI D := by rw [hy, upd_n (by omega), upd_n (by omega), upd_n (by omega), upd_n (by omega), upd_n (by omega), upd_n (by omega), upd_n (by omega), upd_n (by omega), upd_s]
    have p4 : y (5 * m + 88) = nI 0 := by rw [hy, upd_n (by omega), upd_n (by omega), upd_n (by omega), upd_n (by omega), upd_s]
    have e1 : kn y = kn r := by unfold kn; rw [hn 5 (by omega) (by omega) (by omega) (by omega) (by omega)]
    have e2 : mn y = m + 1 := by show tn (y 6) = _; rw [y6]; exact tn_nI (by omega)
    refine ⟨fun d hd => ?_, n2_of h.2.2.1 (hn _ (by omega) (by omega) (by omega) (by omega) (by omega)) (hn _ (by omega) (by omega) (by omega) (by omega) (by omega)) (hn _ (by omega) (by omega) (by omega) (by omega) (by omega)) (hn _ (by omega) (by omega) (by omega) (by omega) (by omega)) (hn _ (by omega) (by omega) (by omega) (by omega) (by omega)) (fun k a _ => hn _ (by omega) (by omega) (by omega) (by omega) (by omega)), n3_of h.2.2.2.1 (hn _ (by omega) (by omega) (by omega) (by omega) (by omega)) (hn _ (by omega) (by omega) (by omega) (by omega) (by omega)), fun j hj => ?_⟩
    · rw [e1] at hd
      rw [hn (6 * d + 16) (by omega) (by omega) (by omega) (by omega) (by omega), hn (6 * d + 17) (by omega) (by omega) (by omega) (by omega) (by omega)]
      by_cases g : d = D
      · subst g
        have := h.2.1 d hd
        rw [hown, if_pos rfl] at this
        rw [y15, y14, this, if_neg (nI_n5 (by omega))]
        have e0 : ∀ a b : Int32, a + b + nI 0 + nI 1 = a + b + nI 1 := fun a b => by rw [Int32.add_assoc]; rfl
        exact e0 _ _
      · rw [hn (6 * d + 15) (by omega) (by omega) (by omega) (by omega) (by omega), hn (6 * d + 14) (by omega) (by omega) (by omega) (by omega) (by omega)]
        exact h.2.1 d hd
    · rw [e2] at hj
      by_cases g : j = m
      · subst g
        rw [p4]
        exact b_0 _
      · have e3 : pd y j = pd r j := by unfold pd; rw [hn _ (by omega) (by omega) (by omega) (by omega) (by omega)]
        rw [e3, hn _ (by omega) (by omega) (by omega) (by omega) (by omega)]
        exact h.2.2.2.2 j (by omega)
  · rw [cif_f c]
    exact h.2
