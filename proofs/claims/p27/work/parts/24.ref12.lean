
/-! a whole text: its things and its fault; the things are done one after the other -/
/-- behind the row's 612 numbers nothing changes -/
def HiEq (r y : Nat → Int32) : Prop := ∀ k, 612 ≤ k → y k = r k
theorem HiEq.rf (r : Nat → Int32) : HiEq r r := fun _ _ => rfl
theorem HiEq.tr {a b c : Nat → Int32} (h : HiEq a b) (g : HiEq b c) : HiEq a c := fun k h1 => (g k h1).trans (h k h1)
theorem psr_hi {r : Nat → Int32} (hW : WR r) {q : Nat} (hq : q < mn r) (v : Int32) : HiEq r (psr r q v) := by
  obtain ⟨v1, v2, v3, v4, v5, v6, v7, v8⟩ := hW.2.2.2.1 q hq
  intro k hk
  unfold psr
  rw [upd_n (by omega), upd_n (by omega), upd_n (by omega), upd_n (by omega)]
theorem hear_hi {r f : Nat → Int32} {σ : Nat → Nat} (hW : WR r) (hs : ∀ j, j < mn r → σ j < mn r) : ∀ k, k ≤ mn r → HiEq r (hear r f σ k).1 := by
  intro k
  induction k with
  | zero => exact fun _ => HiEq.rf r
  | succ k ih =>
    intro hk
    have hL : LawEq r (hear r f σ k).1 := (hear_ok (r := r) (f := f) (σ := σ) (k := k) rfl).1
    refine (ih (by omega)).tr ?_
    show HiEq _ (hst σ k (hear r f σ k)).1
    unfold hst
    dsimp only
    split
    · exact psr_hi (hL.WR hW) (by rw [hL.mn]; exact hs k (by omega)) _
    · exact HiEq.rf _
theorem ests_hi {r f : Nat → Int32} (hW : WR r) : ∀ {n : Nat}, n ≤ mn r → HiEq r (ests r f n) := by
  intro n
  induction n with
  | zero => exact fun _ k hk => upd_n (by omega)
  | succ n ih =>
    intro hn
    obtain ⟨h1, o, h2, h3⟩ := ests_ok (f := f) hW (show n ≤ mn r by omega)
    have hm : mn r ≤ 12 := hW.2.1.2
    have hW2 := h1.WR hW ⟨o, by omega, h3⟩
    have ho : on (ests r f n) = o := by show tn _ = o; rw [h3]; exact tn_nI (by omega)
    obtain ⟨v1, v2, -⟩ := hW2.2.2.2.1 n (by rw [h1.mn]; omega)
    have hk := hW2.1.2
    refine (ih (by omega)).tr (fun k hk2 => ?_)
    show est f n (ests r f n) k = ests r f n k
    unfold est
    split
    · rw [upd_n (by omega), upd_n (by omega), upd_n (by omega), upd_n (by omega), upd_n (by omega), upd_n (by omega)]
    · rw [upd_n (by omega)]
theorem hrC_hi {r : Nat → Int32} (hW : WR r) : HiEq r (hrC r) := by
  have h1 : HiEq r (hearC r).1 := hear_hi hW (sg_ok r).1 (mn r) (Nat.le_refl _)
  have hL := (hearC_ok r).1
  have h2 : HiEq (hearC r).1 (ests (hearC r).1 (hearC r).2.2 (mn r)) := ests_hi (hL.WR hW) (by rw [hL.mn]; exact Nat.le_refl _)
  refine (h1.tr h2).tr (fun k hk => ?_)
  unfold hrC
  rw [upd_n (by omega), upd_n (by omega)]
theorem dayR_hi {r : Nat → Int32} (hW : WR r) : HiEq r (dayR r) := by
  have hE : HiEq r (dayE r) := fun k hk => by unfold dayE; rw [upd_n (by omega), upd_n (by omega)]
  have hk := hW.1.2
  unfold dayR
  split
  · exact hE
  · refine (hE.tr (hrC_hi (dayE_WR hW))).tr (fun k hk2 => ?_)
    rw [noOwn_n (fun d hd => by omega), upd_n (by omega), upd_n (by omega), upd_n (by omega)]
theorem edI_hi {r : Nat → Int32} (hW : WR r) : ∀ n, HiEq r (edI r n).1 := by
  intro n
  induction n with
  | zero => exact HiEq.rf r
  | succ n ih => exact ih.tr (dayR_hi (edI_WR hW n))
theorem edR_hi {r : Nat → Int32} (hW : WR r) (n : Int32) : HiEq r (edR r n) := by
  unfold edR
  rcases Classical.em (inN n 1 99 ∧ r 2 + n ≤ nI 99999) with c | c
  · rw [cif_t c]; exact edI_hi hW _
  · rw [cif_f c]; exact HiEq.rf r
theorem scR_hi {r : Nat → Int32} (hW : WR r) (d q : Int32) : HiEq r (scR r d q) := by
  unfold scR
  rcases Classical.em ((isN d (kn r) ∧ isN q (mn r)) ∧ r (5 * (tn q) + 84) ≠ d ∧ ¬ sbit r (tn q) d) with c | c
  · rw [cif_t c]
    obtain ⟨⟨-, k, hk, rfl⟩, -⟩ := c
    have hm := hW.2.1.2
    have e : tn (nI k) = k := tn_nI (by omega)
    rw [e]
    exact fun j hj => upd_n (by omega)
  · rw [cif_f c]; exact HiEq.rf r
theorem ptR_hi {r : Nat → Int32} (hW : WR r) (d x g k : Int32) : HiEq r (ptR r d x g k) := by
  unfold ptR
  rcases Classical.em ((isN d (kn r) ∧ inN x 0 6 ∧ isN g 20) ∧ inN k 0 2 ∧ ptF r d x) with c | c
  · rw [cif_t c]
    obtain ⟨⟨⟨D, hD, rfl⟩, -⟩, -⟩ := c
    have hm := hW.2.1.2
    have hk := hW.1.2
    have e : tn (nI D) = D := tn_nI (by omega)
    rw [e]
    exact fun j hj => by rw [upd_n (by omega), upd_n (by omega), upd_n (by omega), upd_n (by omega), upd_n (by omega), upd_n (by omega), upd_n (by omega), upd_n (by omega), upd_n (by omega)]
  · rw [cif_f c]; exact HiEq.rf r
