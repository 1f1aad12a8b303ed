/-! THE START: both objects new -/
theorem fr_lo : ∀ n k, k < 192 → fr n k = sg0 k := by
  intro n
  induction n with
  | zero => exact fun _ _ => rfl
  | succ n ih =>
    intro k hk
    show upd (fr n) (3 * n + 192) (-5) k = sg0 k
    rw [upd_n (by omega)]
    exact ih k hk
theorem fr_at : ∀ n j, j < n → fr n (3 * j + 192) = (-5) := by
  intro n
  induction n with
  | zero => intro j hj; omega
  | succ n ih =>
    intro j hj
    show upd (fr n) (3 * n + 192) (-5) (3 * j + 192) = (-5)
    by_cases e : j = n
    · subst e
      exact upd_s _ _ _
    · rw [upd_n (by omega)]
      exact ih j (by omega)
theorem sg0_n {k : Nat} (h : 2 ≤ k) : sg0 k = 0 := by
  unfold sg0
  rw [upd_n (by omega), upd_n (by omega)]
theorem sum_0 : ∀ n, sumN (fun _ => 0) n = 0 := by
  intro n
  induction n with
  | zero => rfl
  | succ n ih =>
    show sumN (fun _ => 0) n + 0 = 0
    rw [ih]
    rfl
theorem Rep_00 : Rep G00 1 (fr 140) := by
  have z : ∀ k, 2 ≤ k → k < 192 → fr 140 k = 0 := fun k h1 h2 => (fr_lo 140 k h2).trans (sg0_n h1)
  have e1 : kn (fr 140) = 0 := by unfold kn; rw [z 5 (by omega) (by omega)]; rfl
  have e2 : mn (fr 140) = 0 := by unfold mn; rw [z 6 (by omega) (by omega)]; rfl
  have e3 : on (fr 140) = 0 := by unfold on; rw [z 11 (by omega) (by omega)]; rfl
  have hR : RI (fr 140) := by
    refine ⟨⟨⟨by rw [e1]; exact z 5 (by omega) (by omega), by omega⟩, ⟨by rw [e2]; exact z 6 (by omega) (by omega), by omega⟩, ⟨by rw [e3]; exact z 11 (by omega) (by omega), by omega⟩, fun q hq => by omega, fun d hd => by omega⟩, fun q hq => by omega, fun d hd => by omega, by rw [e1, e2]; rfl⟩
  have zz : ∀ c, c ≠ 23 → c < 25 → G00 (1 + c) = fun _ => 0 := fun c h1 h2 => by rw [G00_b isB_1 h2]; exact if_neg h1
  have z23 : G00 (1 + 23) = sg0 := by rw [G00_b isB_1 (by omega)]; rfl
  refine ⟨hR, ⟨?_, fun d hd => by omega, fun d h1 h2 => ?_, ?_, ?_, ?_⟩, fun k hk => ?_, ⟨?_, fun q hq => by omega⟩, ⟨?_, fun k hk => by omega⟩, ⟨?_, ?_, ?_, ?_, ?_, ?_⟩, fun q hq => by omega⟩
  · rw [zz 1 (by omega) (by omega), z 5 (by omega) (by omega)]
  · rw [zz 4 (by omega) (by omega), zz 5 (by omega) (by omega), zz 6 (by omega) (by omega)]
    exact ⟨rfl, rfl, rfl⟩
  · rw [zz 4 (by omega) (by omega), z 7 (by omega) (by omega)]; exact sum_0 12
  · rw [zz 5 (by omega) (by omega), z 8 (by omega) (by omega)]; exact sum_0 12
  · rw [zz 6 (by omega) (by omega), z 9 (by omega) (by omega)]; exact sum_0 12
  · exact Or.inl ⟨fr_at 140 k hk, by rw [zz 9 (by omega) (by omega)]; rfl⟩
  · rw [zz 11 (by omega) (by omega), z 6 (by omega) (by omega)]
  · rw [zz 18 (by omega) (by omega), z 11 (by omega) (by omega)]
  · rw [z23, fr_lo 140 0 (by omega)]
  · rw [z23, fr_lo 140 1 (by omega)]
  · rw [show G00 1 = fun _ => 0 from zz 0 (by omega) (by omega), z 2 (by omega) (by omega)]
  · rw [show G00 1 = fun _ => 0 from zz 0 (by omega) (by omega), z 3 (by omega) (by omega)]
  · rw [show G00 1 = fun _ => 0 from zz 0 (by omega) (by omega), z 4 (by omega) (by omega)]
  · rw [show G00 1 = fun _ => 0 from zz 0 (by omega) (by omega), z 10 (by omega) (by omega)]
theorem G00_z {k : Nat} (h : k = 0 ∨ k = 101 ∨ (203 ≤ k ∧ k < 210) ∨ 212 ≤ k) : G00 k = fun _ => 0 := by
  unfold G00
  rw [if_neg (by omega), if_neg (by omega), if_neg (by omega)]
theorem Cls_00 : Cls G00 G00 := by
  have e211 : G00 211 = fr 140 := rfl
  have e210 : G00 210 = upd (upd (fun _ => 0) 5 (-5)) 6 (-5) := rfl
  refine ⟨by rw [e211]; exact Rep_00, ⟨0, by rw [e210]; rfl, ⟨0, by omega, by omega, by rw [G00_z (by omega)]; rfl, by rw [G00_z (by omega)]; rfl, fun j hj => by omega⟩⟩, Or.inl ⟨by rw [G00_z (by omega)]; rfl, by rw [e210]; rfl⟩, ⟨by rw [G00_z (by omega), e210]; rfl, by rw [G00_z (by omega), G00_z (by omega)], ⟨0, by omega, by rw [e210]; rfl⟩⟩, Or.inl ⟨by rw [G00_z (by omega)], by rw [e210]; rfl, by rw [e210]; rfl⟩⟩
theorem fr_up : ∀ n k, 3 * n + 192 ≤ k → fr n k = sg0 k := by
  intro n
  induction n with
  | zero => exact fun _ _ => rfl
  | succ n ih =>
    intro k hk
    show upd (fr n) (3 * n + 192) (-5) k = sg0 k
    rw [upd_n (by omega)]
    exact ih k (by omega)
theorem Hv_00 : Hv G00 (fr 140) 0 := ⟨Cls_00, rfl, by omega, fun k hk => (fr_up 140 k (by omega)).trans (sg0_n (by omega)), fun k _ => rfl⟩
theorem Iv_00 : Iv 0 (fr 140) := by
  have hR := Rep_00.1
  have z : ∀ k, 2 ≤ k → k < 192 → fr 140 k = 0 := fun k h1 h2 => (fr_lo 140 k h2).trans (sg0_n h1)
  have e1 : kn (fr 140) = 0 := by unfold kn; rw [z 5 (by omega) (by omega)]; rfl
  have e2 : mn (fr 140) = 0 := by unfold mn; rw [z 6 (by omega) (by omega)]; rfl
  refine ⟨hR, fun d hd => by omega, ⟨0, 0, 0, 0, 0, ⟨z 2 (by omega) (by omega), by omega⟩, ⟨z 3 (by omega) (by omega), by omega⟩, ⟨z 4 (by omega) (by omega), by omega⟩, ⟨z 10 (by omega) (by omega), z 8 (by omega) (by omega), by omega, by omega⟩, fun k hk hL => absurd (fr_at 140 k hk) hL⟩, ⟨5, 10, ⟨(fr_lo 140 0 (by omega)).trans rfl, by omega⟩, (fr_lo 140 1 (by omega)).trans rfl, by omega, by omega⟩, fun q hq => by omega⟩
