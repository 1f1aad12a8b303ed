/-! WHAT WOULD PASS, and what the end of a season makes of it -/
def EqX (r y : Nat → Int32) : Prop := ∀ k, k ≠ 2 → k ≠ 4 → y k = r k
theorem EqX.rf (r : Nat → Int32) : EqX r r := fun _ _ _ => rfl
theorem EqX.tr {a b c : Nat → Int32} (h : EqX a b) (g : EqX b c) : EqX a c := fun k h1 h2 => (g k h1 h2).trans (h k h1 h2)
theorem EqX.eKn {r y : Nat → Int32} (h : EqX r y) : kn y = kn r := by unfold kn; rw [h 5 (by omega) (by omega)]
theorem EqX.eMn {r y : Nat → Int32} (h : EqX r y) : mn y = mn r := by unfold mn; rw [h 6 (by omega) (by omega)]
theorem EqX.eOn {r y : Nat → Int32} (h : EqX r y) : on y = on r := by unfold on; rw [h 11 (by omega) (by omega)]
theorem EqX.ePd {r y : Nat → Int32} (h : EqX r y) (q : Nat) : pd y q = pd r q := by unfold pd; rw [h _ (by omega) (by omega)]
theorem EqX.ePc {r y : Nat → Int32} (h : EqX r y) (q : Nat) : pc y q = pc r q := by unfold pc; rw [h _ (by omega) (by omega)]
theorem EqX.ePg {r y : Nat → Int32} (h : EqX r y) (q : Nat) : pg y q = pg r q := by unfold pg; rw [h _ (by omega) (by omega)]
theorem EqX.ePk {r y : Nat → Int32} (h : EqX r y) (q : Nat) : pk y q = pk r q := by unfold pk; rw [h _ (by omega) (by omega)]
theorem EqX.eSu {r y : Nat → Int32} (h : EqX r y) : supp y = supp r := by
  funext q
  unfold supp
  rw [h.eKn, h.ePd, h (5 * q + 88) (by omega) (by omega)]
  exact itr_congr (h _ (by omega) (by omega)) (fun i hi x => by rw [h (6 * i + 13) (by omega) (by omega)])
theorem EqX.eWg {r y : Nat → Int32} (h : EqX r y) (x : Int32) : wgt y x = wgt r x := by
  unfold wgt
  rw [h.eKn]
  exact itr_congr rfl (fun i hi a => by rw [h (6 * i + 12) (by omega) (by omega), h (6 * i + 13) (by omega) (by omega)])
theorem EqX.eRw {r y : Nat → Int32} (h : EqX r y) (x g k : Int32) : refw y x g k = refw r x g k := by
  unfold refw
  rw [h.eOn]
  exact itr_congr rfl (fun i hi a => by rw [h (4 * i + 144) (by omega) (by omega), h (4 * i + 145) (by omega) (by omega), h (4 * i + 146) (by omega) (by omega), h (4 * i + 147) (by omega) (by omega)])
theorem EqX.eRu {r y : Nat → Int32} (h : EqX r y) (q : Nat) (v : Int32) : refu y q v = refu r q v := by
  unfold refu
  rw [h.ePc, h.ePg, h.ePk, h.eRw, h.eWg, h 0 (by omega) (by omega), h _ (by omega) (by omega), h _ (by omega) (by omega), h _ (by omega) (by omega), h _ (by omega) (by omega)]
theorem EqX.ePs {r y : Nat → Int32} (h : EqX r y) (q : Nat) (v : Int32) : EqX (psr r q v) (psr y q v) := by
  intro k h2 h4
  unfold psr
  rw [h.ePc, h.ePg, h.ePk, h 3 (by omega) (by omega), h 10 (by omega) (by omega)]
  exact upd_c rfl (upd_c rfl (upd_c rfl (upd_c rfl (h k h2 h4))))
theorem EqX.eHe {r y f : Nat → Int32} {σ : Nat → Nat} (h : EqX r y) : ∀ n, EqX (hear r f σ n).1 (hear y f σ n).1 ∧ (hear y f σ n).2 = (hear r f σ n).2 := by
  intro n
  induction n with
  | zero => exact ⟨h, rfl⟩
  | succ n ih =>
    obtain ⟨h1, h2⟩ := ih
    have e0 : hear r f σ n = ((hear r f σ n).1, (hear r f σ n).2.1, (hear r f σ n).2.2) := rfl
    have e1 : hear y f σ n = ((hear y f σ n).1, (hear r f σ n).2.1, (hear r f σ n).2.2) := by rw [← h2]
    by_cases g : refu (hear r f σ n).1 (σ n) (supp (hear r f σ n).1 (σ n)) = 0
    · have g' : refu (hear y f σ n).1 (σ n) (supp (hear y f σ n).1 (σ n)) = 0 := by rw [h1.eSu, h1.eRu]; exact g
      rw [hear_pos e0 g, hear_pos e1 g', h1.eSu, h1.eRu]
      exact ⟨h1.ePs _ _, rfl⟩
    · have g' : ¬ refu (hear y f σ n).1 (σ n) (supp (hear y f σ n).1 (σ n)) = 0 := by rw [h1.eSu, h1.eRu]; exact g
      rw [hear_neg e0 g, hear_neg e1 g', h1.eSu, h1.eRu]
      exact ⟨h1, rfl⟩
theorem EqX.eSg {r y : Nat → Int32} (h : EqX r y) : sg y = sg r := by
  have key : ∀ (f g : Nat → Int32) (n m : Nat), f = g → n = m → Classical.choose (ord_ex f n) = Classical.choose (ord_ex g m) := by
    intro f g n m e1 e2
    subst e1 e2
    rfl
  exact key _ _ _ _ h.eSu h.eMn
theorem EqX.eHC {r y : Nat → Int32} (h : EqX r y) : (hearC y).2 = (hearC r).2 := by
  unfold hearC
  rw [h.eSg, h.eMn]
  exact (h.eHe _).2
theorem dayE_X (r : Nat → Int32) : EqX r (dayE r) := fun _ h2 h4 => dayE_n h2 h4
theorem edI_no {r : Nat → Int32} {e L : Nat} (h4 : r 4 = nI e) (h1 : r 1 = nI L) (hL : L ≤ 60) : ∀ t, (t = 0 ∨ e + t < L) → (edI r t).2 = 0 ∧ EqX r (edI r t).1 ∧ (edI r t).1 2 = r 2 + nI t ∧ (edI r t).1 4 = nI (e + t) := by
  intro t
  induction t with
  | zero => exact fun _ => ⟨rfl, EqX.rf r, (Int32.add_zero _).symm, h4⟩
  | succ t ih =>
    intro ht
    obtain ⟨g1, g2, g3, g4⟩ := ih (by omega)
    have hlt : (edI r t).1 4 + nI 1 < (edI r t).1 1 := by
      rw [g4, g2 1 (by omega) (by omega), h1, nI_addc rfl, nI_ltI (by omega) (by omega)]
      omega
    have eR : (edI r (t + 1)).1 = dayE (edI r t).1 := by
      show dayR (edI r t).1 = _
      unfold dayR
      rw [if_pos hlt]
    have eA : (edI r (t + 1)).2 = 0 := by
      show dayA (edI r t).1 + (edI r t).2 = 0
      unfold dayA
      rw [if_pos hlt, g1]
    refine ⟨eA, by rw [eR]; exact g2.tr (dayE_X _), ?_, ?_⟩
    · rw [eR]
      unfold dayE
      rw [upd_n (by omega), upd_s, g3, Int32.add_assoc]
      congr 1
      exact nI_addc rfl
    · rw [eR]
      unfold dayE
      rw [upd_s, g4]
      exact nI_addc (by omega)
/-- so many days end the season, and it alone -/
theorem pass_end {B : Nat} {r : Nat → Int32} (h : Iv B r) (hB : B + 60 ≤ 99999) {e L T : Nat} (h4 : r 4 = nI e) (he60 : e < 60) (h1 : r 1 = nI L) (hL1 : 1 ≤ L) (hL : L ≤ 60) (hT : (e < L ∧ T = L - e) ∨ (L ≤ e ∧ T = 1)) : edA r (nI T) = nI (cnt (fun q => (hearC r).2.2 q = 0) (mn r)) ∧ (∀ k, k < 192 → (k = 0 ∨ k = 1 ∨ k = 5 ∨ k = 7 ∨ (84 ≤ k ∧ k < 144) ∨ (12 ≤ k ∧ k < 84 ∧ (k % 6 = 0 ∨ k % 6 = 1 ∨ k % 6 = 3))) → edR r (nI T) k = r k) ∧ edR r (nI T) 3 = r 3 + nI 1 ∧ edR r (nI T) 4 = nI 0 ∧ edR r (nI T) 6 = nI 0 ∧ edR r (nI T) 8 = r 8 + nI (cnt (fun q => (hearC r).2.2 q = 0) (mn r)) ∧ edR r (nI T) 9 = r 9 + (nI (mn r) - nI (cnt (fun q => (hearC r).2.2 q = 0) (mn r))) ∧ (∀ d, d < kn r → edR r (nI T) (6 * d + 14) = (-5)) ∧ (∀ d, d < kn r → edR r (nI T) (6 * d + 16) = r (6 * d + 16) + nI (cnt (fun q => pd r q = d ∧ (hearC r).2.2 q = 0) (mn r))) ∧ Iv (B + 60) (edR r (nI T)) := by
  obtain ⟨D, S, e', a, b, ⟨D1, D2⟩, -⟩ := h.2.2.1
  have hT0 : 1 ≤ T ∧ T ≤ 60 := by omega
  obtain ⟨t, rfl⟩ : ∃ t, T = t + 1 := ⟨T - 1, by omega⟩
  obtain ⟨g1, g2, g3, g4⟩ := edI_no (r := r) h4 h1 hL t (by omega)
  have hc : inN (nI (t + 1)) 1 99 ∧ r 2 + nI (t + 1) ≤ nI 99999 := ⟨inN_c (by omega) (by omega), by rw [D1, nI_addc rfl, nI_leI (by omega) (by omega)]; omega⟩
  have hI := edR_Iv h (t := t + 1) (by omega)
  have hIx := edI_Iv h t (by omega)
  have he : ¬ (edI r t).1 4 + nI 1 < (edI r t).1 1 := by
    rw [g4, g2 1 (by omega) (by omega), h1, nI_addc rfl, nI_ltI (by omega) (by omega)]
    omega
  have eR : edR r (nI (t + 1)) = dayR (edI r t).1 := by
    unfold edR
    rw [cif_t hc, tn_nI (by omega)]
    rfl
  have eX := g2.tr (dayE_X (edI r t).1)
  have eH := eX.eHC
  have eM := eX.eMn
  have eA : edA r (nI (t + 1)) = nI (hearC (dayE (edI r t).1)).2.1 := by
    unfold edA
    rw [cif_t hc.1, if_pos hc.2, tn_nI (by omega)]
    show nI (dayA (edI r t).1 + (edI r t).2) = _
    rw [g1]
    unfold dayA
    rw [if_neg he]
    rfl
  have e21 : (hearC (dayE (edI r t).1)).2.1 = cnt (fun q => (hearC r).2.2 q = 0) (mn r) := by rw [hearC_cnt, eH, eM]
  obtain ⟨r0, r2, r3, r4, r6, r8, r9, r10, rl, r14, r16⟩ := end_row hIx.1 he
  have ek := g2.eKn
  rw [eR] at hI ⊢
  refine ⟨eA.trans (congrArg nI e21), fun k k1 k2 => (r0 k k1 k2).trans (g2 k (by omega) (by omega)), by rw [r3, g2 3 (by omega) (by omega)], r4, r6, by rw [r8, e21, g2 8 (by omega) (by omega)], by rw [r9, e21, g2 9 (by omega) (by omega), g2.eMn], fun d hd => r14 d (by omega), fun d hd => ?_, Iv_le hI (by omega)⟩
  rw [(r16 d (by omega)).1, g2 _ (by omega) (by omega), eH, g2.eMn]
  refine congrArg (fun n => r (6 * d + 16) + nI n) (cnt_congr (fun q hq => by rw [g2.ePd]))
theorem b2_bits {P : Nat → Prop} {i : Nat} (hi : i < 32) : ∀ m, m ≤ 32 → (bt (itr (fun q a => a ||| (b2 (P q) <<< (nI q &&& 31))) (nI 0) m) i = true ↔ i < m ∧ P i) := by
  intro m
  induction m with
  | zero =>
    intro _
    have : bt (itr (fun q a => a ||| (b2 (P q) <<< (nI q &&& 31))) (nI 0) 0) i = false := b_0 i
    rw [this]
    exact iff_of_false (by decide) (fun q => absurd q.1 (Nat.not_lt_zero _))
  | succ m ih =>
    intro h
    show bt (itr _ _ m ||| (b2 (P m) <<< _)) i = true ↔ _
    rw [b_or, Bool.or_eq_true, ih (by omega), b2_shl]
    rcases Classical.em (P m) with g | g
    · rw [cif_t g, b_one (by omega) hi, decide_eq_true_iff]
      constructor
      · rintro (⟨h1, h2⟩ | h1)
        · exact ⟨by omega, h2⟩
        · subst h1
          exact ⟨by omega, g⟩
      · rintro ⟨h1, h2⟩
        by_cases e : i = m
        · exact Or.inr e
        · exact Or.inl ⟨by omega, h2⟩
    · rw [cif_f g]
      constructor
      · rintro (⟨h1, h2⟩ | h1)
        · exact ⟨by omega, h2⟩
        · rw [b_0] at h1
          cases h1
      · rintro ⟨h1, h2⟩
        have : i ≠ m := fun e => g (by rw [← e]; exact h2)
        exact Or.inl ⟨by omega, h2⟩
theorem wp_bit {r : Nat → Int32} {k : Nat} (hm : mn r ≤ 12) (hk : k < mn r) : (wpA r >>> (nI k &&& 31)) &&& nI 1 = nI 1 ↔ (hearC r).2.2 k = 0 := by
  rw [bit_o (by omega)]
  have := b2_bits (P := fun q => (hearC r).2.2 q = 0) (i := k) (by omega) (mn r) (by omega)
  exact this.trans (and_iff_right hk)
noncomputable def drI (r : Nat → Int32) (m : Nat) : Int32 := itr (fun q a => a ||| (cif ((hearC r).2.2 q = 0) (nI 1 <<< (nI (pd r q) &&& 31)) (nI 0))) (nI 0) m
theorem dr_bit {r : Nat → Int32} {i : Nat} (hi : i < 32) : ∀ m, (∀ q, q < m → pd r q < 32) → (bt (drI r m) i = true ↔ ∃ q, q < m ∧ pd r q = i ∧ (hearC r).2.2 q = 0) := by
  intro m
  induction m with
  | zero =>
    intro _
    have : bt (drI r 0) i = false := b_0 i
    rw [this]
    exact iff_of_false (by decide) (fun ⟨j, h, _⟩ => absurd h (Nat.not_lt_zero _))
  | succ m ih =>
    intro h
    show bt (drI r m ||| (cif ((hearC r).2.2 m = 0) (nI 1 <<< (nI (pd r m) &&& 31)) (nI 0))) i = true ↔ _
    rw [b_or, Bool.or_eq_true, ih (fun q hq => h q (by omega))]
    rcases Classical.em ((hearC r).2.2 m = 0) with g | g
    · rw [cif_t g, b_one (h m (by omega)) hi, decide_eq_true_iff]
      constructor
      · rintro (⟨j, h1, h2⟩ | h1)
        · exact ⟨j, by omega, h2⟩
        · exact ⟨m, by omega, h1.symm, g⟩
      · rintro ⟨j, h1, h2, h3⟩
        by_cases e : j = m
        · subst e
          exact Or.inr h2.symm
        · exact Or.inl ⟨j, by omega, h2, h3⟩
    · rw [cif_f g]
      have z : bt (nI 0) i = false := b_0 i
      rw [z]
      constructor
      · rintro (⟨j, h1, h2⟩ | h1)
        · exact ⟨j, by omega, h2⟩
        · cases h1
      · rintro ⟨j, h1, h2, h3⟩
        have : j ≠ m := fun e => g (by rw [← e]; exact h3)
        exact Or.inl ⟨j, by omega, h2, h3⟩
theorem dr_eq {r : Nat → Int32} (hI : RI r) {d : Nat} (hd : d < kn r) : (drI r (mn r) >>> (nI d &&& 31)) &&& nI 1 = nI (cnt (fun q => pd r q = d ∧ (hearC r).2.2 q = 0) (mn r)) := by
  have hk := hI.1.1.2
  have hb := dr_bit (r := r) (i := d) (by omega) (mn r) (fun q hq => by have := (hI.1.2.2.2.1 q hq).2.1; omega)
  by_cases c : 0 < cnt (fun q => pd r q = d ∧ (hearC r).2.2 q = 0) (mn r)
  · have c1 : cnt (fun q => pd r q = d ∧ (hearC r).2.2 q = 0) (mn r) = 1 := by
      rcases own_cnt hI hd (fun q => (hearC r).2.2 q = 0) with ⟨-, x⟩ | ⟨q, -, -, -, x1, x2⟩
      · omega
      · by_cases g : (hearC r).2.2 q = 0
        · exact x1 g
        · have := x2 g
          omega
    rw [c1]
    exact (bit_o (by omega)).mpr (hb.mpr (cnt_ex c))
  · have c0 : cnt (fun q => pd r q = d ∧ (hearC r).2.2 q = 0) (mn r) = 0 := by omega
    rw [c0]
    refine (bit_z (by omega)).mpr ?_
    rw [← Bool.not_eq_true]
    intro g
    obtain ⟨q, q1, q2⟩ := hb.mp g
    exact c (cnt_pos q1 q2)
theorem refu_5 (r : Nat → Int32) (q : Nat) (v : Int32) : refu r q v ≤ nI 5 := by
  unfold refu
  repeat' split
  all_goals decide
theorem hear_5 {r f : Nat → Int32} {σ : Nat → Nat} (h : ∀ q, f q ≤ nI 5) : ∀ k q, (hear r f σ k).2.2 q ≤ nI 5 := by
  intro k
  induction k with
  | zero => exact h
  | succ k ih =>
    intro q
    show upd (hear r f σ k).2.2 (σ k) (refu (hear r f σ k).1 (σ k) (supp (hear r f σ k).1 (σ k))) q ≤ nI 5
    by_cases e : q = σ k
    · rw [e, upd_s]
      exact refu_5 _ _ _
    · rw [upd_n e]
      exact ih q
theorem hearC_5 (r : Nat → Int32) (q : Nat) : (hearC r).2.2 q ≤ nI 5 := hear_5 (fun _ => by decide) _ _
/-! THE FIRST ONE that is heard -/
theorem hear_1st {r f : Nat → Int32} {σ : Nat → Nat} {n : Nat} (hi : ∀ j, 0 < j → j < n → σ j ≠ σ 0) : ∀ k, k + 1 ≤ n → (hear r f σ (k + 1)).2.2 (σ 0) = refu r (σ 0) (supp r (σ 0)) := by
  intro k
  induction k with
  | zero =>
    intro _
    show upd f (σ 0) (refu r (σ 0) (supp r (σ 0))) (σ 0) = _
    exact upd_s _ _ _
  | succ k ih =>
    intro hk
    show upd (hear r f σ (k + 1)).2.2 (σ (k + 1)) (refu (hear r f σ (k + 1)).1 (σ (k + 1)) (supp (hear r f σ (k + 1)).1 (σ (k + 1)))) (σ 0) = _
    rw [upd_n (fun e => hi (k + 1) (by omega) (by omega) e.symm)]
    exact ih (by omega)
theorem hearC_1st {r : Nat → Int32} (h : 0 < mn r) : (hearC r).2.2 (sg r 0) = refu r (sg r 0) (supp r (sg r 0)) := by
  have := hear_1st (r := r) (f := fun _ => 0) (σ := sg r) (n := mn r) (fun j h1 h2 e => by have := ord_inj (sg_ok r) h2 h e; omega) (mn r - 1) (by omega)
  rw [show mn r - 1 + 1 = mn r by omega] at this
  exact this
theorem lack_0 {r : Nat → Int32} {q : Nat} : opI (lackO r q) = 0 ↔ refu r q (supp r q) = 0 := by
  have e0 : supp r q + nI 0 = supp r q := Int32.add_zero _
  constructor
  · intro h
    unfold lackO at h
    cases e : fst (fun m => refu r q (supp r q + nI m) = 0) 121 with
    | none =>
      rw [e] at h
      exact absurd h (by decide)
    | some j =>
      rw [e] at h
      have hj := fst_lt e
      have h2 : nI j = nI 0 := h
      have h3 := (nI_eq (by omega) (by omega)).mp h2
      subst h3
      have := fst_p e
      rw [e0] at this
      exact this
  · intro h
    unfold lackO
    rw [fst_s (P := fun m => refu r q (supp r q + nI m) = 0) (i := 0) (by show refu r q (supp r q + nI 0) = 0; rw [e0]; exact h) (fun j hj => absurd hj (Nat.not_lt_zero _)) (by omega)]
    rfl
theorem lack_c (r : Nat → Int32) (q : Nat) : opI (lackO r q) = (-5) ∨ ∃ j, j ≤ 120 ∧ opI (lackO r q) = nI j := by
  cases e : lackO r q with
  | none => exact Or.inl rfl
  | some j =>
    have hj := fst_lt e
    exact Or.inr ⟨j, by omega, rfl⟩
theorem supp_top {r : Nat → Int32} {q : Nat} (hq : q < mn r) : supp r q ≤ supp r (sg r 0) := by
  obtain ⟨j, hj, rfl⟩ := ord_sur (sg_ok r) hq
  rcases Nat.eq_zero_or_pos j with h | h
  · rw [h, i32_le]
    omega
  · rcases (sg_ok r).2.1 0 j h hj with g | ⟨g, -⟩
    · rw [i32_lt] at g
      rw [i32_le]
      omega
    · rw [g, i32_le]
      omega
theorem b2_none {P : Nat → Prop} : ∀ m, (∀ q, q < m → ¬ P q) → itr (fun q a => a ||| (b2 (P q) <<< (nI q &&& 31))) (nI 0) m = 0 := by
  intro m
  induction m with
  | zero => exact fun _ => rfl
  | succ m ih =>
    intro h
    show itr _ _ m ||| (b2 (P m) <<< _) = 0
    rw [ih (fun q hq => h q (by omega)), b2_shl, cif_f (h m (by omega))]
    rfl
theorem wp_0 {r : Nat → Int32} (h : mn r = 0) : wpA r = 0 := by
  unfold wpA
  rw [h]
  rfl
/-- with the mood above all support none passes -/
theorem mood_all {r y : Nat → Int32} {v : Nat} (hI : RI r) (hw : ∀ d, d < kn r → ∃ w, 1 ≤ w ∧ w ≤ 9 ∧ r (6 * d + 13) = nI w) (hv : supp r (sg r 0) = nI v) (hv2 : v < 2 ^ 30) (hy : y = upd r 0 (nI (v + 1))) : mn y = mn r ∧ ∀ q, q < mn r → (hearC y).2.2 q = nI 1 := by
  have hn : ∀ k, k ≠ 0 → y k = r k := fun k hk => by rw [hy, upd_n hk]
  have y0 : y 0 = nI (v + 1) := by rw [hy, upd_s]
  have em : mn y = mn r := by unfold mn; rw [hn 6 (by omega)]
  have es : supp y = supp r := by
    funext q
    unfold supp
    have e1 : kn y = kn r := by unfold kn; rw [hn 5 (by omega)]
    have e2 : pd y q = pd r q := by unfold pd; rw [hn _ (by omega)]
    rw [e1, e2, hn (5 * q + 88) (by omega)]
    exact itr_congr (hn _ (by omega)) (fun i hi x => by rw [hn (6 * i + 13) (by omega)])
  have hr : ∀ q, q < mn r → refu y q (supp y q) = nI 1 := by
    intro q hq
    obtain ⟨w, w1, w2, w3⟩ := supp_nat (q := q) hI.1.1.2 (hI.1.2.2.2.1 q hq).2.1 hw
    have ht := supp_top hq
    rw [w3, hv, nI_leI (by omega) (by omega)] at ht
    rw [es, w3]
    unfold refu
    rw [if_pos (by rw [y0, nI_ltI (by omega) (by omega)]; omega)]
  obtain ⟨s1, s2, s3⟩ := sg_ok y
  have key : ∀ k, k ≤ mn y → (hear y (fun _ => 0) (sg y) k).1 = y ∧ ∀ j, j < k → (hear y (fun _ => 0) (sg y) k).2.2 (sg y j) = nI 1 := by
    intro k
    induction k with
    | zero => exact fun _ => ⟨rfl, fun j hj => absurd hj (Nat.not_lt_zero _)⟩
    | succ k ih =>
      intro hk
      obtain ⟨g1, g2⟩ := ih (by omega)
      have e0 : hear y (fun _ => 0) (sg y) k = (y, (hear y (fun _ => 0) (sg y) k).2.1, (hear y (fun _ => 0) (sg y) k).2.2) := by
        conv => lhs; rw [show hear y (fun _ => 0) (sg y) k = ((hear y (fun _ => 0) (sg y) k).1, (hear y (fun _ => 0) (sg y) k).2.1, (hear y (fun _ => 0) (sg y) k).2.2) from rfl]
        rw [g1]
      have h1 := hr (sg y k) (by have := s1 k (by omega); omega)
      rw [hear_neg e0 (by rw [h1]; decide), h1]
      refine ⟨rfl, fun j hj => ?_⟩
      show upd _ (sg y k) (nI 1) (sg y j) = nI 1
      by_cases e : j = k
      · rw [e, upd_s]
      · rw [upd_n (fun e2 => e (ord_inj (sg_ok y) (by omega) (by omega) e2))]
        exact g2 j (by omega)
  refine ⟨em, fun q hq => ?_⟩
  obtain ⟨j, hj, rfl⟩ := ord_sur (sg_ok y) (show q < mn y by omega)
  exact (key (mn y) (Nat.le_refl _)).2 j hj
theorem lg_self (x : Int64) : lg_cmp x x = 0 := by
  unfold lg_cmp
  rw [if_neg (fun h => absurd h (by rw [gt_iff_lt, Int64.lt_iff_toInt_lt]; omega)), if_pos rfl]
