theorem upd_c {f g : Nat → Int32} {j k : Nat} {v w : Int32} (hv : v = w) (h : f k = g k) : upd f j v k = upd g j w k := by
  subst hv
  by_cases e : k = j
  · rw [e, upd_s, upd_s]
  · rw [upd_n e, upd_n e, h]
theorem yT_n {r : Nat → Int32} {t k : Nat} (h8 : k ≠ 8) (h9 : k ≠ 9) : yT r t k = ests (hearC r).1 (hearC r).2.2 t k := by unfold yT; rw [upd_n h9, upd_n h8]
theorem yT_f {r : Nat → Int32} {t : Nat} (h : ¬ (hearC r).2.2 t = 0) (hd : pd (yT r t) t < 12) (ho : on (yT r t) < 12) : yT r (t + 1) = ref1R (yT r t) (pd (yT r t) t) t := by
  have h0 : 0 < (hearC r).2.2 t := by
    have h1 := hearC_nn r t
    rw [i32_le] at h1
    rw [i32_lt]
    have e0 : (0 : Int32).toInt = 0 := by decide
    have : ((hearC r).2.2 t).toInt ≠ 0 := fun q => h (Int32.toInt_inj.mp (q.trans e0.symm))
    omega
  have c1 : cnt (fun q => (hearC r).2.2 q = 0) (t + 1) = cnt (fun q => (hearC r).2.2 q = 0) t := cnt_f (P := fun q => (hearC r).2.2 q = 0) h
  have c2 : cnt (fun q => ¬ (hearC r).2.2 q = 0) (t + 1) = cnt (fun q => ¬ (hearC r).2.2 q = 0) t + 1 := cnt_t (P := fun q => ¬ (hearC r).2.2 q = 0) h
  have hN : ∀ k, k ≠ 8 → k ≠ 9 → yT r t k = ests (hearC r).1 (hearC r).2.2 t k := fun k a c => yT_n a c
  have y8 : yT r t 8 = r 8 + nI (cnt (fun q => (hearC r).2.2 q = 0) t) := by unfold yT; rw [upd_n (by omega), upd_s]
  have y9 : yT r t 9 = r 9 + nI (cnt (fun q => ¬ (hearC r).2.2 q = 0) t) := by unfold yT; rw [upd_s]
  have e : ests (hearC r).1 (hearC r).2.2 (t + 1) = est (hearC r).2.2 t (ests (hearC r).1 (hearC r).2.2 t) := rfl
  generalize yT r t = Y at *
  generalize hE : ests (hearC r).1 (hearC r).2.2 t = E at *
  have a1 : pd E t = pd Y t := by unfold pd; rw [hN _ (by omega) (by omega)]
  have a2 : pc E t = pc Y t := by unfold pc; rw [hN _ (by omega) (by omega)]
  have a3 : pg E t = pg Y t := by unfold pg; rw [hN _ (by omega) (by omega)]
  have a4 : pk E t = pk Y t := by unfold pk; rw [hN _ (by omega) (by omega)]
  have a5 : on E = on Y := by unfold on; rw [hN _ (by omega) (by omega)]
  have a6 : kn E = kn Y := by unfold kn; rw [hN _ (by omega) (by omega)]
  have a7 : supp E t = supp Y t := by
    unfold supp
    rw [a6, a1, hN (5 * t + 88) (by omega) (by omega)]
    exact itr_congr (hN _ (by omega) (by omega)).symm (fun i hi x => by rw [hN (6 * i + 13) (by omega) (by omega)])
  unfold yT
  rw [e, c1, c2]
  unfold est ref1R
  rw [if_pos h0, a1, a2, a3, a4, a5, a7]
  funext k
  by_cases k9 : k = 9
  · subst k9
    rw [upd_s, upd_s, y9, Int32.add_assoc]
    congr 1
    exact (nI_addc (by omega)).symm
  · rw [upd_n k9, upd_n k9]
    by_cases k8 : k = 8
    · subst k8
      rw [upd_s, upd_n (by omega), upd_n (by omega), upd_n (by omega), upd_n (by omega), upd_n (by omega), upd_n (by omega), y8]
    · rw [upd_n k8]
      exact upd_c rfl (upd_c rfl (upd_c rfl (upd_c rfl (upd_c rfl (upd_c (by rw [hN _ (by omega) (by omega)]) (hN k k8 k9).symm)))))
