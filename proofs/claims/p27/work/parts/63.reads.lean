/-! WHAT IS READ, in the row's words -/
theorem isN_lt {d n : Nat} (h : d < n) : isN (nI d) n := ⟨d, h, rfl⟩
theorem ct_at {r : Nat → Int32} {a b : Int32} {k : Nat} (h : k < 16) : ctA r a b (nI k) = ctF r a b k := by
  unfold ctA
  rw [cif_t (isN_lt h), tn_nI (by omega)]
theorem inN_c {k a b : Nat} (h1 : a ≤ k) (h2 : k ≤ b) : inN (nI k) a b := ⟨k, h1, h2, rfl⟩
theorem inN_no {k a b : Nat} (hk : k < 2 ^ 31) (hb : b < 2 ^ 31) (h : k < a ∨ b < k) : ¬ inN (nI k) a b := by
  rintro ⟨d, d1, d2, d3⟩
  have := (nI_eq hk (by omega)).mp d3
  omega
theorem dr_lo {r : Nat → Int32} {d k : Nat} (hk : kn r ≤ 12) (hd : d < kn r) (h : k ≤ 2) : drA r (nI d) (nI k) = r (6 * d + k + 12) := by
  unfold drA
  rw [cif_t (isN_lt hd), cif_t (inN_c (Nat.zero_le _) h), tn_nI (by omega), tn_nI (by omega)]
theorem dr_3 {r : Nat → Int32} {d : Nat} (hd : d < kn r) : drA r (nI d) (nI 3) = sc2 r (nI d) := by
  unfold drA
  rw [cif_t (isN_lt hd), cif_f (inN_no (by omega) (by omega) (by omega)), if_pos rfl]
theorem dr_hi {r : Nat → Int32} {d k : Nat} (hk : kn r ≤ 12) (hd : d < kn r) (h1 : 4 ≤ k) (h2 : k ≤ 6) : drA r (nI d) (nI k) = r (6 * d + k + 11) := by
  unfold drA
  rw [cif_t (isN_lt hd), cif_f (inN_no (by omega) (by omega) (by omega)), if_neg (fun e => by have := (nI_eq (by omega) (by omega)).mp e; omega), cif_t (inN_c h1 h2), tn_nI (by omega), tn_nI (by omega)]
theorem po_lo {r : Nat → Int32} {q k : Nat} (hm : mn r ≤ 12) (hq : q < mn r) (h : k ≤ 3) : ptoA r (nI q) (nI k) = r (5 * q + k + 84) := by
  unfold ptoA
  rw [cif_t (isN_lt hq), cif_t (inN_c (Nat.zero_le _) h), tn_nI (by omega), tn_nI (by omega)]
theorem po_4 {r : Nat → Int32} {q : Nat} (hm : mn r ≤ 12) (hq : q < mn r) : ptoA r (nI q) (nI 4) = supp r q := by
  unfold ptoA
  rw [cif_t (isN_lt hq), cif_f (inN_no (by omega) (by omega) (by omega)), if_pos rfl, tn_nI (by omega)]
theorem po_5 {r : Nat → Int32} {q : Nat} (hm : mn r ≤ 12) (hq : q < mn r) : ptoA r (nI q) (nI 5) = r (5 * q + 88) := by
  unfold ptoA
  rw [cif_t (isN_lt hq), cif_f (inN_no (by omega) (by omega) (by omega)), if_neg (fun e => by have := (nI_eq (by omega) (by omega)).mp e; omega), if_pos rfl, tn_nI (by omega)]
theorem hd_at {r : Nat → Int32} {x : Nat} (hm : mn r ≤ 12) (hx : x < mn r) : hdA r (nI x) = nI (sg r x) := by
  unfold hdA
  rw [cif_f (nI_nn (by omega)), cif_t (isN_lt hx), tn_nI (by omega)]
theorem hd_no {r : Nat → Int32} (hm : mn r = 0) : hdA r (nI 0) = (-5) := by
  unfold hdA
  rw [cif_f (nI_nn (by omega)), cif_f]
  rintro ⟨d, hd, -⟩
  omega
theorem cnt_mono {P : Nat → Prop} : ∀ {a b : Nat}, a ≤ b → cnt P a ≤ cnt P b := by
  intro a b h
  induction b with
  | zero => rw [Nat.le_zero.mp h]; exact Nat.le_refl _
  | succ b ih =>
    by_cases e : a = b + 1
    · rw [e]; exact Nat.le_refl _
    · refine Nat.le_trans (ih (by omega)) ?_
      show cnt P b ≤ cnt P b + _
      exact Nat.le_add_right _ _
theorem cnt_at {P : Nat → Prop} : ∀ {n j : Nat}, j < cnt P n → ∃ k, k < n ∧ P k ∧ cnt P k = j := by
  intro n
  induction n with
  | zero => intro j h; exact absurd h (Nat.not_lt_zero _)
  | succ n ih =>
    intro j h
    by_cases c : j < cnt P n
    · obtain ⟨k, k1, k2, k3⟩ := ih c
      exact ⟨k, by omega, k2, k3⟩
    · by_cases p : P n
      · rw [cnt_t p] at h
        exact ⟨n, by omega, p, by omega⟩
      · rw [cnt_f p] at h
        omega
theorem cnt_slt {P : Nat → Prop} {a b : Nat} (h : a < b) (p : P a) : cnt P a < cnt P b := by
  have := cnt_mono (P := P) (show a + 1 ≤ b by omega)
  rw [cnt_t p] at this
  omega
theorem cnt_le140 (P : Nat → Prop) {k : Nat} (h : k ≤ 140) : cnt P k ≤ 140 := Nat.le_trans (cnt_le P k) h
theorem rkd_at {r : Nat → Int32} {j k : Nat} (hk : k < 140) (hL : LW r k) (hc : cnt (LW r) k = j) : rkd r (nI j) = some k := by
  unfold rkd
  have b1 := cnt_le (LW r) k
  refine fst_s (P := fun k => LW r k ∧ nI (cnt (LW r) k) = nI j) ⟨hL, by rw [hc]⟩ (fun i hi q => ?_) hk
  have b2 := cnt_le (LW r) i
  have := (nI_eq (by omega) (by omega)).mp q.2
  have := cnt_slt hi q.1
  omega
theorem by_at {r : Nat → Int32} {j k y : Nat} (hk : k < 140) (hL : LW r k) (hc : cnt (LW r) k = j) (hy : y ≤ 5) : byA r (nI j) (nI y) = byB r (nI y) k := by
  have b1 := cnt_le (LW r) k
  unfold byA
  rw [cif_t ⟨nI_nn (by omega), inN_c (Nat.zero_le _) hy⟩, rkd_at hk hL hc]
theorem byB_0 {r : Nat → Int32} {k : Nat} : byB r (nI 0) k = nI (k / 20) := if_pos rfl
theorem byB_1 {r : Nat → Int32} {k : Nat} : byB r (nI 1) k = nI (k % 20) := (if_neg (by decide)).trans (if_pos rfl)
theorem byB_5 {r : Nat → Int32} {k : Nat} : byB r (nI 5) k = wgt r (nI (k / 20)) := (if_neg (by decide)).trans ((if_neg (by decide)).trans (if_pos rfl))
theorem byB_2 {r : Nat → Int32} {k : Nat} : byB r (nI 2) k = r (3 * k + 192) := by
  have : byB r (nI 2) k = r (tn (nI 2) + 3 * k + 190) := (if_neg (by decide)).trans ((if_neg (by decide)).trans (if_neg (by decide)))
  rw [this, tn_nI (by omega)]
  congr 1
  omega
theorem byB_3 {r : Nat → Int32} {k : Nat} : byB r (nI 3) k = r (3 * k + 193) := by
  have : byB r (nI 3) k = r (tn (nI 3) + 3 * k + 190) := (if_neg (by decide)).trans ((if_neg (by decide)).trans (if_neg (by decide)))
  rw [this, tn_nI (by omega)]
  congr 1
  omega
theorem byB_4 {r : Nat → Int32} {k : Nat} : byB r (nI 4) k = r (3 * k + 194) := by
  have : byB r (nI 4) k = r (tn (nI 4) + 3 * k + 190) := (if_neg (by decide)).trans ((if_neg (by decide)).trans (if_neg (by decide)))
  rw [this, tn_nI (by omega)]
  congr 1
  omega
theorem ru_0 {r : Nat → Int32} {a g : Nat} (ha : a < 6) (hg : g < 20) : ruA r (nI a) (nI g) (nI 0) = b2 (alw r a g) := by
  unfold ruA
  rw [cif_t ⟨isN_lt ha, isN_lt hg⟩, if_pos rfl, tn_nI (by omega), tn_nI (by omega)]
theorem ru_1 {r : Nat → Int32} {a g : Nat} (ha : a < 6) (hg : g < 20) : ruA r (nI a) (nI g) (nI 1) = opI (rulO r a g) := by
  unfold ruA
  rw [cif_t ⟨isN_lt ha, isN_lt hg⟩, if_neg (by decide), if_pos rfl, tn_nI (by omega), tn_nI (by omega)]
theorem ru_2s {r : Nat → Int32} {a g k : Nat} (ha : a < 6) (hg : g < 20) (h : rulO r a g = some k) : ruA r (nI a) (nI g) (nI 2) = r (60 * k + 3 * g + 193) := by
  unfold ruA
  rw [cif_t ⟨isN_lt ha, isN_lt hg⟩, if_neg (by decide), if_neg (by decide), if_pos rfl, tn_nI (by omega), tn_nI (by omega), h]
theorem ru_2n {r : Nat → Int32} {a g : Nat} (ha : a < 6) (hg : g < 20) (h : rulO r a g = none) : ruA r (nI a) (nI g) (nI 2) = (-5) := by
  unfold ruA
  rw [cif_t ⟨isN_lt ha, isN_lt hg⟩, if_neg (by decide), if_neg (by decide), if_pos rfl, tn_nI (by omega), tn_nI (by omega), h]
theorem ol_n {r : Nat → Int32} {d k : Nat} (hk : kn r ≤ 12) (hd : d < kn r) (h : k ≤ 1) (e : oldI r (dc r d) 140 = none) : olA r (nI d) (nI k) = (-5) := by
  unfold olA
  rw [cif_t (isN_lt hd), cif_t (inN_c (Nat.zero_le _) h), tn_nI (by omega), e]
theorem ol_s {r : Nat → Int32} {d k j : Nat} (hk : kn r ≤ 12) (hd : d < kn r) (h : k ≤ 1) (e : oldI r (dc r d) 140 = some j) : olA r (nI d) (nI k) = if k = 0 then nI (cnt (LW r) j) else r (3 * j + 194) := by
  unfold olA
  rw [cif_t (isN_lt hd), cif_t (inN_c (Nat.zero_le _) h), tn_nI (by omega), e]
  show (if nI k = 0 then nI (cnt (LW r) j) else r (3 * j + 194)) = _
  rcases (show k = 0 ∨ k = 1 by omega) with rfl | rfl <;> rfl
theorem rs_at {r : Nat → Int32} {q : Nat} (hm : mn r ≤ 12) (hq : q < mn r) : rsA r (nI q) = (hearC r).2.2 q := by
  unfold rsA
  rw [cif_t (isN_lt hq), tn_nI (by omega)]
theorem la_at {r : Nat → Int32} {q : Nat} (hm : mn r ≤ 12) (hq : q < mn r) : laA r (nI q) = opI (lackO r q) := by
  unfold laA
  rw [cif_t (isN_lt hq), tn_nI (by omega)]
/-- a drone's seconds and a petition's seconders are the same bits -/
theorem sc2_bit {r : Nat → Int32} {d k : Nat} (hd : d < 32) (hk : k < 32) : ∀ m, m ≤ 32 → (bt (itr (fun q a => a ||| (((r (5 * q + 88) >>> (nI d &&& 31)) &&& nI 1) <<< (nI q &&& 31))) (nI 0) m) k = true ↔ k < m ∧ bt (r (5 * k + 88)) d = true) := by
  intro m
  induction m with
  | zero =>
    intro _
    have : bt (itr (fun q a => a ||| (((r (5 * q + 88) >>> (nI d &&& 31)) &&& nI 1) <<< (nI q &&& 31))) (nI 0) 0) k = false := b_0 k
    rw [this]
    exact iff_of_false (by decide) (fun q => absurd q.1 (Nat.not_lt_zero _))
  | succ m ih =>
    intro h
    show bt (itr _ _ m ||| (((r (5 * m + 88) >>> (nI d &&& 31)) &&& nI 1) <<< (nI m &&& 31))) k = true ↔ _
    rw [b_or, Bool.or_eq_true, ih (by omega)]
    rcases and1 (r (5 * m + 88) >>> (nI d &&& 31)) with g | g
    · rw [g]
      have g2 := (bit_z hd).mp g
      have e : bt ((0 : Int32) <<< (nI m &&& 31)) k = false := by
        rw [b_shl m (by omega) 0 hk, b_0, Bool.and_false]
      rw [e]
      constructor
      · rintro (⟨h1, h2⟩ | h1)
        · exact ⟨by omega, h2⟩
        · cases h1
      · rintro ⟨h1, h2⟩
        by_cases c : k = m
        · subst c
          rw [g2] at h2
          cases h2
        · exact Or.inl ⟨by omega, h2⟩
    · rw [g]
      have g2 := (bit_o hd).mp g
      rw [b_one (by omega) hk, decide_eq_true_iff]
      constructor
      · rintro (⟨h1, h2⟩ | h1)
        · exact ⟨by omega, h2⟩
        · subst h1
          exact ⟨by omega, g2⟩
      · rintro ⟨h1, h2⟩
        by_cases c : k = m
        · exact Or.inr c
        · exact Or.inl ⟨by omega, h2⟩
theorem sc2_same {r : Nat → Int32} {d k : Nat} (hm : mn r ≤ 12) (hd : d < 12) (hk : k < mn r) : ((sc2 r (nI d) >>> (nI k &&& 31)) &&& nI 1 = nI 1) ↔ ((r (5 * k + 88) >>> (nI d &&& 31)) &&& nI 1 = nI 1) := by
  rw [bit_o (by omega), bit_o (by omega)]
  have := sc2_bit (r := r) (d := d) (k := k) (by omega) (by omega) (mn r) (by omega)
  exact this.trans (and_iff_right hk)
theorem kn_ct {r : Nat → Int32} {a b : Int32} (hI : RI r) : ctA r a b (nI 3) = nI (kn r) := (ct_at (by omega)).trans hI.1.1.1
theorem mn_ct {r : Nat → Int32} {a b : Int32} (hI : RI r) : ctA r a b (nI 6) = nI (mn r) := (ct_at (by omega)).trans hI.1.2.1.1
