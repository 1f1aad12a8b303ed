
/-! the acts of the reference on its row 0 -/
noncomputable def cif {α : Type} (P : Prop) (a b : α) : α := @ite _ P (Classical.propDecidable P) a b
theorem cif_t {α : Type} {P : Prop} {a b : α} (h : P) : cif P a b = a := by unfold cif; exact if_pos h
theorem cif_f {α : Type} {P : Prop} {a b : α} (h : ¬ P) : cif P a b = b := by unfold cif; exact if_neg h
noncomputable def cmA (r : Nat → Int32) (x w : Int32) : Int32 := cif (isN x 6) (cif (inN w 1 9) (if kn r = 12 then (-3) else nI (kn r)) (-2)) (-1)
noncomputable def cmR (r : Nat → Int32) (x w : Int32) : Nat → Int32 := cif (isN x 6 ∧ inN w 1 9 ∧ kn r ≠ 12) (upd (upd (upd (upd (upd (upd (upd r (6 * (kn r) + 12) x) (6 * (kn r) + 13) w) (6 * (kn r) + 14) (-5)) (6 * (kn r) + 15) (nI 0)) (6 * (kn r) + 16) (nI 0)) (6 * (kn r) + 17) (nI 0)) 5 (nI (kn r + 1))) r
noncomputable def mvA (r : Nat → Int32) (d x : Int32) : Int32 := cif (isN d (kn r) ∧ isN x 6) (if r (6 * (tn d) + 12) = x then (-5) else r (6 * (tn d) + 12)) (-1)
noncomputable def mvR (r : Nat → Int32) (d x : Int32) : Nat → Int32 := cif (isN d (kn r) ∧ isN x 6) (upd r (6 * (tn d) + 12) x) r
def ptF (r : Nat → Int32) (d x : Int32) : Prop := r (6 * (tn d) + 14) = (-5) ∧ (x = nI 6 ∨ r (6 * (tn d) + 12) = x)
noncomputable def ptA (r : Nat → Int32) (d x g k : Int32) : Int32 := cif (isN d (kn r) ∧ inN x 0 6 ∧ isN g 20) (cif (inN k 0 2) (cif (ptF r d x) (nI (mn r)) (-4)) (-2)) (-1)
noncomputable def ptR (r : Nat → Int32) (d x g k : Int32) : Nat → Int32 := cif ((isN d (kn r) ∧ inN x 0 6 ∧ isN g 20) ∧ inN k 0 2 ∧ ptF r d x) (upd (upd (upd (upd (upd (upd (upd (upd (upd r (5 * (mn r) + 84) d) (5 * (mn r) + 85) x) (5 * (mn r) + 86) g) (5 * (mn r) + 87) k) (5 * (mn r) + 88) (nI 0)) (6 * (tn d) + 14) (nI (mn r))) (6 * (tn d) + 15) (r (6 * (tn d) + 15) + nI 1)) 7 (r 7 + nI 1)) 6 (nI (mn r + 1))) r
def sbit (r : Nat → Int32) (q : Nat) (d : Int32) : Prop := ((r (5 * q + 88) >>> (d &&& 31)) &&& nI 1) = nI 1
noncomputable def scR (r : Nat → Int32) (d q : Int32) : Nat → Int32 := cif ((isN d (kn r) ∧ isN q (mn r)) ∧ r (5 * (tn q) + 84) ≠ d ∧ ¬ sbit r (tn q) d) (upd r (5 * (tn q) + 88) (r (5 * (tn q) + 88) ||| (nI 1 <<< (d &&& 31)))) r
noncomputable def scA (r : Nat → Int32) (d q : Int32) : Int32 := cif (isN d (kn r) ∧ isN q (mn r)) (if r (5 * (tn q) + 84) = d then (-4) else cif (sbit r (tn q) d) (-5) (supp (scR r d q) (tn q))) (-1)
noncomputable def stA (r : Nat → Int32) (x v : Int32) : Int32 := cif (inN x 0 1) (cif (inN v (tn x) 60) (if r (tn x) = v then (-5) else r (tn x)) (-2)) (-1)
noncomputable def stR (r : Nat → Int32) (x v : Int32) : Nat → Int32 := cif (inN x 0 1 ∧ inN v (tn x) 60) (upd r (tn x) v) r
/-- n days end: the row, and how many petitions passed -/
noncomputable def edI (r : Nat → Int32) (n : Nat) : (Nat → Int32) × Nat := itr (fun _ x => (dayR x.1, dayA x.1 + x.2)) (r, 0) n
noncomputable def edA (r : Nat → Int32) (n : Int32) : Int32 := cif (inN n 1 99) (if r 2 + n ≤ nI 99999 then nI (edI r (tn n)).2 else (-3)) (-2)
noncomputable def edR (r : Nat → Int32) (n : Int32) : Nat → Int32 := cif (inN n 1 99 ∧ r 2 + n ≤ nI 99999) (edI r (tn n)).1 r
theorem edI_WR {r : Nat → Int32} (hW : WR r) : ∀ n, WR (edI r n).1 := by
  intro n
  induction n with
  | zero => exact hW
  | succ n ih => exact dayR_WR ih
theorem u4 (G : GG) (a b c d : Nat → Int32) : u1 (u1 (u1 (u1 G 213 a) 214 b) 213 c) 214 d = u1 (u1 G 213 c) 214 d := by
  rw [u1_comm (show (214 : Nat) ≠ 213 by decide), u1_u1, u1_u1]

theorem WRs {r : Nat → Int32} (hW : WR r) {q : Nat} (hq : q < mn r) (v : Int32) : WR (upd r (5 * q + 88) v) := by
  have hW0 := hW
  obtain ⟨⟨w1, w2⟩, ⟨w3, w4⟩, ⟨w5, w6⟩, w7, w8⟩ := hW
  have e1 : kn (upd r (5 * q + 88) v) = kn r := by unfold kn; rw [upd_n (by omega)]
  have e2 : mn (upd r (5 * q + 88) v) = mn r := by unfold mn; rw [upd_n (by omega)]
  have e3 : on (upd r (5 * q + 88) v) = on r := by unfold on; rw [upd_n (by omega)]
  refine ⟨⟨by rw [upd_n (by omega), e1]; exact w1, by omega⟩, ⟨by rw [upd_n (by omega), e2]; exact w3, by omega⟩, ⟨by rw [upd_n (by omega), e3]; exact w5, by omega⟩, fun q2 hq2 => ?_, fun d hd => ?_⟩
  · rw [e2] at hq2
    have a1 : pd (upd r (5 * q + 88) v) q2 = pd r q2 := by unfold pd; rw [upd_n (by omega)]
    have a2 : pc (upd r (5 * q + 88) v) q2 = pc r q2 := by unfold pc; rw [upd_n (by omega)]
    have a3 : pg (upd r (5 * q + 88) v) q2 = pg r q2 := by unfold pg; rw [upd_n (by omega)]
    have a4 : pk (upd r (5 * q + 88) v) q2 = pk r q2 := by unfold pk; rw [upd_n (by omega)]
    rw [a1, a2, a3, a4, e1, upd_n (by omega), upd_n (by omega), upd_n (by omega), upd_n (by omega)]
    exact w7 q2 hq2
  · rw [e1] at hd
    have a1 : dc (upd r (5 * q + 88) v) d = dc r d := by unfold dc; rw [upd_n (by omega)]
    rw [a1, upd_n (by omega)]
    exact w8 d hd
/-- behind an act that answered a, with r as row 0 (and all behind it), n states recorded before -/
def actG (G : GG) (n : Nat) (a : Int32) (r : Nat → Int32) : GG := if 0 ≤ a then u1 (u1 G 211 (rcS r n 6)) 210 (upd (G 210) 1 (nI (if n = 4 then 4 else n + 1))) else u1 G 211 r
