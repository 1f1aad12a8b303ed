/-! rows that agree on their 612 numbers: all that is told of them agrees -/
def REq (r y : Nat → Int32) : Prop := ∀ k, k < 612 → y k = r k
theorem req_mn {r y : Nat → Int32} (h : REq r y) : mn y = mn r := by
  show tn (y 6) = tn (r 6)
  rw [h 6 (by omega)]
theorem req_kn {r y : Nat → Int32} (h : REq r y) : kn y = kn r := by
  show tn (y 5) = tn (r 5)
  rw [h 5 (by omega)]
theorem req_on {r y : Nat → Int32} (h : REq r y) : on y = on r := by
  show tn (y 11) = tn (r 11)
  rw [h 11 (by omega)]
theorem req_WR {r y : Nat → Int32} (h : REq r y) (hW : WR r) : WR y := by
  refine WR_of hW (h 5 (by omega)) (h 6 (by omega)) ⟨on r, hW.2.2.1.2, ?_⟩ (fun k h1 h2 => h k (by omega)) (fun d hd => h _ (by omega))
  rw [h 11 (by omega)]
  exact hW.2.2.1.1
theorem req_supp {r y : Nat → Int32} {q : Nat} (h : REq r y) (hW : WR r) (hq : q < mn r) : supp y q = supp r q := by
  obtain ⟨⟨w1, w2⟩, ⟨w3, w4⟩, ⟨w5, w6⟩, w7, w8⟩ := hW
  obtain ⟨v1, v2, -⟩ := w7 q hq
  exact supp_congr (h 5 (by omega)) w2 (by omega) (h _ (by omega)) (h _ (by omega)) (fun d hd => h _ (by omega))
theorem req_wgt {r y : Nat → Int32} (h : REq r y) (hk : kn r ≤ 12) (x : Int32) : wgt y x = wgt r x := by
  have hk2 : kn r ≤ 12 := hk
  unfold wgt
  rw [(req_kn h)]
  exact itr_congr rfl (fun i hi a => by rw [h _ (by omega), h _ (by omega)])
theorem req_refw {r y : Nat → Int32} (h : REq r y) (hk : on r ≤ 12) (x g k : Int32) : refw y x g k = refw r x g k := by
  unfold refw
  rw [(req_on h)]
  exact itr_congr rfl (fun i hi a => by rw [h _ (by omega), h _ (by omega), h _ (by omega), h _ (by omega)])
theorem req_refu {r y : Nat → Int32} {q : Nat} (h : REq r y) (hW : WR r) (hq : q < mn r) (v : Int32) : refu y q v = refu r q v := by
  have h1 := req_wgt h hW.1.2
  have h2 := req_refw h hW.2.2.1.2
  obtain ⟨⟨w1, w2⟩, ⟨w3, w4⟩, ⟨w5, w6⟩, w7, w8⟩ := hW
  obtain ⟨v1, v2, v3, v4, v5, v6, v7, v8⟩ := w7 q hq
  have a2 : pc y q = pc r q := by unfold pc; rw [h _ (by omega)]
  have a3 : pg y q = pg r q := by unfold pg; rw [h _ (by omega)]
  have a4 : pk y q = pk r q := by unfold pk; rw [h _ (by omega)]
  unfold refu
  rw [a2, a3, a4, h 0 (by omega), h1, h2, h _ (by omega), h _ (by omega), h _ (by omega), h _ (by omega)]
theorem req_psr {r y : Nat → Int32} {q : Nat} (h : REq r y) (hW : WR r) (hq : q < mn r) (v : Int32) : REq (psr r q v) (psr y q v) := by
  obtain ⟨⟨w1, w2⟩, ⟨w3, w4⟩, ⟨w5, w6⟩, w7, w8⟩ := hW
  obtain ⟨v1, v2, v3, v4, v5, v6, v7, v8⟩ := w7 q hq
  have a2 : pc y q = pc r q := by unfold pc; rw [h _ (by omega)]
  have a3 : pg y q = pg r q := by unfold pg; rw [h _ (by omega)]
  have a4 : pk y q = pk r q := by unfold pk; rw [h _ (by omega)]
  intro k hk
  unfold psr
  rw [a2, a3, a4, h 3 (by omega), h 10 (by omega)]
  have upd_eq : ∀ {f g : Nat → Int32} {j : Nat} {w : Int32}, f k = g k → upd f j w k = upd g j w k := by
    intro f g j w e
    by_cases hj : k = j
    · subst hj
      rw [upd_s, upd_s]
    · rw [upd_n hj, upd_n hj, e]
  exact upd_eq (upd_eq (upd_eq (upd_eq (h k hk))))
theorem hear_req {r y f f' : Nat → Int32} {σ : Nat → Nat} (h : REq r y) (hW : WR r) (hs : ∀ j, j < mn r → σ j < mn r) : ∀ k, k ≤ mn r → REq (hear r f σ k).1 (hear y f' σ k).1 ∧ (hear r f σ k).2.1 = (hear y f' σ k).2.1 ∧ ∀ q, (∃ j, j < k ∧ σ j = q) → (hear r f σ k).2.2 q = (hear y f' σ k).2.2 q := by
  intro k
  induction k with
  | zero => exact fun _ => ⟨h, rfl, fun q ⟨j, hj, _⟩ => by omega⟩
  | succ k ih =>
    intro hk
    obtain ⟨a, b, c⟩ := ih (by omega)
    have hL : LawEq r (hear r f σ k).1 := (hear_ok (r := r) (f := f) (σ := σ) (k := k) rfl).1
    have hWk := hL.WR hW
    have hq : σ k < mn (hear r f σ k).1 := by rw [hL.mn]; exact hs k (by omega)
    have e1 := req_supp a hWk hq
    have e2 := req_refu a hWk hq
    show REq (hst σ k (hear r f σ k)).1 (hst σ k (hear y f' σ k)).1 ∧ (hst σ k (hear r f σ k)).2.1 = (hst σ k (hear y f' σ k)).2.1 ∧ ∀ q, _ → (hst σ k (hear r f σ k)).2.2 q = (hst σ k (hear y f' σ k)).2.2 q
    unfold hst
    simp only [e1, e2, b]
    refine ⟨?_, trivial, ?_⟩
    · split
      · exact req_psr a hWk hq _
      · exact a
    · rintro q ⟨j, h1, h2⟩
      by_cases e : q = σ k
      · subst e
        rw [upd_s, upd_s]
      · rw [upd_n e, upd_n e]
        refine c q ⟨j, ?_, h2⟩
        by_cases g : j = k
        · subst g
          exact absurd h2.symm e
        · omega
theorem ord_congr {f g : Nat → Int32} {n : Nat} {σ : Nat → Nat} (h : OrdS f n σ) (e : ∀ q, q < n → g q = f q) : OrdS g n σ := by
  obtain ⟨a, b, c⟩ := h
  refine ⟨a, fun i j hij hj => ?_, c⟩
  have := b i j hij hj
  unfold bef at *
  rw [e _ (a i (by omega)), e _ (a j hj)]
  exact this
/-- the reasons of a hearing of a row that agrees -/
theorem req_hearC {r y : Nat → Int32} (h : REq r y) (hW : WR r) {q : Nat} (hq : q < mn r) : (hearC y).2.2 q = (hearC r).2.2 q := by
  have hO := sg_ok r
  have hO2 : OrdS (supp y) (mn y) (sg r) := by
    rw [(req_mn h)]
    exact ord_congr hO (fun q hq => req_supp h hW hq)
  have e1 := (hear_C (f := fun _ => 0) hO2).2.2 q (by rw [(req_mn h)]; exact hq)
  rw [← e1, (req_mn h)]
  exact ((hear_req (f := fun _ => 0) (f' := fun _ => 0) h hW hO.1 (mn r) (Nat.le_refl _)).2.2 q (ord_sur hO hq)).symm
theorem cntLW_req {r y : Nat → Int32} (h : REq r y) {n : Nat} (hn : n ≤ 140) : cnt (LW y) n = cnt (LW r) n := cnt_congr (fun j hj => by unfold LW; rw [h _ (by omega)])
theorem cpS_0 (S : Nat → Int32) {a : Nat} (ha : a ≠ 0) : REq S (cpS S 0 a) := by
  intro k hk
  unfold cpS
  rw [if_neg (by omega)]
theorem cpS_at (S : Nat → Int32) (a b : Nat) : REq (rwS S (612 * a)) (rwS (cpS S a b) (612 * b)) := by
  intro k hk
  unfold rwS cpS
  rw [if_pos (by omega)]
  congr 1
  omega
theorem cpS_n {S : Nat → Int32} {a b c : Nat} (h : c ≠ b) : REq (rwS S (612 * c)) (rwS (cpS S a b) (612 * c)) := by
  intro k hk
  unfold rwS cpS
  rw [if_neg (by omega)]
