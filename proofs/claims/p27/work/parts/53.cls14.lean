/-! BOTH: the class's cells (out of G) stand for the reference's (out of V) -/
def Cls (G V : GG) : Prop :=
  Rep G 1 (V 211) ∧ (∃ n, V 210 1 = nI n ∧ HistR G (V 211) n) ∧ ((G 0 4 = nI 0 ∧ V 210 2 = nI 0) ∨ (G 0 4 = nI 1 ∧ V 210 2 = nI 1 ∧ Rep G 76 (rwS (V 211) 3060))) ∧ (G 203 1 = V 210 4 ∧ G 204 = V 212 ∧ ∃ n, n ≤ 60 ∧ V 210 4 = nI n) ∧ ((G 0 8 = 0 ∧ V 210 5 = (-5) ∧ V 210 6 = (-5)) ∨ (G 0 8 ≠ 0 ∧ V 210 5 = G 0 7 ∧ V 210 6 = G 0 8))
theorem Cls.mv {G G' V V' : GG} (h : Cls G V) (a : ∀ k, (k < 26 ∨ (76 ≤ k ∧ k < 205)) → G' k = G k) (b : ∀ j, j < 9 → V' 210 j = V 210 j) (c : V' 212 = V 212) (d : ∀ k, k < 3672 → V' 211 k = V 211 k) : Cls G' V' := by
  obtain ⟨h1, ⟨n, h2, h3⟩, h4, ⟨h5, h6, h7⟩, h8⟩ := h
  refine ⟨Rep_req (fun k hk => d k (by omega)) (Rep_frame (fun k x y => a k (by omega)) h1), ⟨n, by rw [b 1 (by omega)]; exact h2, h3.cg (fun k x y => a k (by omega)) (fun k x y => d k (by omega))⟩, ?_, ⟨by rw [a 203 (by omega), b 4 (by omega)]; exact h5, by rw [a 204 (by omega), c]; exact h6, by rw [b 4 (by omega)]; exact h7⟩, ?_⟩
  · rw [a 0 (by omega), b 2 (by omega)]
    exact h4.imp_right (fun ⟨x, y, w⟩ => ⟨x, y, Rep_req (fun k hk => d _ (by omega)) (Rep_frame (fun k g1 g2 => a k (by omega)) w)⟩)
  · rw [a 0 (by omega), b 5 (by omega), b 6 (by omega)]
    exact h8
def PubP (G : GG) (A : Int32) (V : GG) (ans : Int32) (uG : GG) : Prop := ans = A ∧ (∀ k, 210 ≤ k → uG k = G k) ∧ Cls uG V
theorem REq.sy {a b : Nat → Int32} (h : REq a b) : REq b a := fun k hk => (h k hk).symm
theorem REq.rf (a : Nat → Int32) : REq a a := fun _ _ => rfl
theorem rw0 (S : Nat → Int32) : rwS S (612 * 0) = S := by rw [Nat.mul_zero]; exact rwS_0 S
theorem cpS_at0 (S : Nat → Int32) (a : Nat) : REq (rwS S (612 * a)) (cpS S a 0) := by
  have := cpS_at S a 0
  rw [rw0] at this
  exact this
theorem cpS_at1 (S : Nat → Int32) (b : Nat) : REq S (rwS (cpS S 0 b) (612 * b)) := by
  have := cpS_at S 0 b
  rw [rw0] at this
  exact this
theorem cmR_hi {r : Nat → Int32} (hW : WR r) (x w : Int32) : HiEq r (cmR r x w) := by
  have hk := hW.1.2
  unfold cmR
  rcases Classical.em (isN x 6 ∧ inN w 1 9 ∧ kn r ≠ 12) with c | c
  · rw [cif_t c]
    exact fun j hj => by rw [upd_n (by omega), upd_n (by omega), upd_n (by omega), upd_n (by omega), upd_n (by omega), upd_n (by omega), upd_n (by omega)]
  · rw [cif_f c]; exact HiEq.rf r
theorem mvR_hi {r : Nat → Int32} (hW : WR r) (d x : Int32) : HiEq r (mvR r d x) := by
  have hk := hW.1.2
  unfold mvR
  rcases Classical.em (isN d (kn r) ∧ isN x 6) with c | c
  · rw [cif_t c]
    obtain ⟨⟨D, hD, rfl⟩, -⟩ := c
    rw [tn_nI (by omega)]
    exact fun j hj => upd_n (by omega)
  · rw [cif_f c]; exact HiEq.rf r
theorem stR_hi {r : Nat → Int32} (hW : WR r) (x v : Int32) : HiEq r (stR r x v) := by
  unfold stR
  rcases Classical.em (inN x 0 1 ∧ inN v (tn x) 60) with c | c
  · rw [cif_t c]
    obtain ⟨⟨k, -, hk, rfl⟩, -⟩ := c
    rw [tn_nI (by omega)]
    exact fun j hj => upd_n (by omega)
  · rw [cif_f c]; exact HiEq.rf r
theorem Cls_act {G G1 G2 : GG} {R : Nat → Int32} (hC : Cls G G) (h1 : cpd G G1 26 1) (h2 : frm G1 G2 1) (h3 : Rep G2 1 R) (h4 : HiEq (cpS (G 211) 0 6) R) : Cls G2 (u1 G 211 R) ∧ Rep G2 26 (rwS R 3672) := by
  obtain ⟨a1, ⟨n, a2, a3⟩, a4, ⟨a5, a6, a7⟩, a8⟩ := hC
  have e : ∀ k, (k < 1 ∨ 50 ≤ k) → G2 k = G k := fun k hk => (h2 k (by omega)).trans (h1.1 k (by omega))
  have eR : ∀ k, 612 ≤ k → k < 3672 → R k = G 211 k := fun k x y => (h4 k x).trans (by unfold cpS; rw [if_neg (by omega)])
  have s210 : (u1 G 211 R) 210 = G 210 := u1_n (by decide)
  have s212 : (u1 G 211 R) 212 = G 212 := u1_n (by decide)
  have s211 : (u1 G 211 R) 211 = R := u1_s _ _ _
  refine ⟨⟨by rw [s211]; exact h3, ⟨n, by rw [s210]; exact a2, by rw [s211]; exact a3.cg (fun k x y => e k (by omega)) (fun k x y => eR k x (by omega))⟩, ?_, ⟨by rw [s210, e 203 (by omega)]; exact a5, by rw [s212, e 204 (by omega)]; exact a6, by rw [s210]; exact a7⟩, ?_⟩, ?_⟩
  · rw [s210, s211, e 0 (by omega)]
    exact a4.imp_right (fun ⟨x, y, w⟩ => ⟨x, y, Rep_req (fun k hk => eR _ (by omega) (by omega)) (Rep_frame (fun k g1 g2 => e k (by omega)) w)⟩)
  · rw [s210, e 0 (by omega)]
    exact a8
  · have h5 : Rep G1 26 (G 211) := h1.rep a1
    have h6 : Rep G2 26 (G 211) := Rep_frame (fun k g1 g2 => h2 k (by omega)) h5
    refine Rep_req (fun k hk => ?_) h6
    show R (3672 + k) = G 211 k
    rw [h4 _ (by omega)]
    unfold cpS
    rw [if_pos (by omega)]
    exact congrArg (G 211) (by omega)
theorem Cls_rec {G uG G0 : GG} {R : Nat → Int32} {n : Nat} (hC : Cls G (u1 G0 211 R)) (f : ∀ k, (k < 101 ∨ 203 ≤ k) → uG k = G k) (hH : HistR uG (rcS R n 6) (if n = 4 then 4 else n + 1)) (hn4 : n ≤ 4) : Cls uG (u1 (u1 G0 211 (rcS R n 6)) 210 (upd (G0 210) 1 (nI (if n = 4 then 4 else n + 1)))) := by
  obtain ⟨a1, -, a4, ⟨a5, a6, a7⟩, a8⟩ := hC
  have s210 : (u1 G0 211 R) 210 = G0 210 := u1_n (by decide)
  have s212 : (u1 G0 211 R) 212 = G0 212 := u1_n (by decide)
  have s211 : (u1 G0 211 R) 211 = R := u1_s _ _ _
  rw [s210] at a4 a5 a7 a8
  rw [s211] at a1 a4
  rw [s212] at a6
  have t210 : (u1 (u1 G0 211 (rcS R n 6)) 210 (upd (G0 210) 1 (nI (if n = 4 then 4 else n + 1)))) 210 = upd (G0 210) 1 (nI (if n = 4 then 4 else n + 1)) := u1_s _ _ _
  have t211 : (u1 (u1 G0 211 (rcS R n 6)) 210 (upd (G0 210) 1 (nI (if n = 4 then 4 else n + 1)))) 211 = rcS R n 6 := (u1_n (by decide)).trans (u1_s _ _ _)
  have t212 : (u1 (u1 G0 211 (rcS R n 6)) 210 (upd (G0 210) 1 (nI (if n = 4 then 4 else n + 1)))) 212 = G0 212 := (u1_n (by decide)).trans (u1_n (by decide))
  have r0 : REq R (rcS R n 6) := by
    have := rcS_oth (S := R) (n := n) (a := 6) (c := 0) hn4 (Or.inl rfl)
    rw [rw0, rw0] at this
    exact this
  have r5 : REq (rwS R 3060) (rwS (rcS R n 6) 3060) := rcS_oth (S := R) (n := n) (a := 6) (c := 5) hn4 (Or.inr (Or.inl (by decide)))
  refine ⟨by rw [t211]; exact Rep_req r0 (Rep_frame (fun k g1 g2 => f k (by omega)) a1), ⟨_, by rw [t210, upd_s], by rw [t211]; exact hH⟩, ?_, ⟨by rw [t210, upd_n (by decide), f 203 (by omega)]; exact a5, by rw [t212, f 204 (by omega)]; exact a6, by rw [t210, upd_n (by decide)]; exact a7⟩, ?_⟩
  · rw [t210, t211, upd_n (by decide), f 0 (by omega)]
    exact a4.imp_right (fun ⟨x, y, w⟩ => ⟨x, y, Rep_req r5 (Rep_frame (fun k g1 g2 => f k (by omega)) w)⟩)
  · rw [t210, upd_n (by decide), upd_n (by decide), f 0 (by omega)]
    exact a8
theorem Cls.n {G V : GG} {n : Nat} (h : Cls G V) (hn : V 210 1 = nI n) (hn4 : n ≤ 4) : HistR G (V 211) n := by
  obtain ⟨m, h1, h2⟩ := h.2.1
  obtain ⟨F, a1, a2, a3⟩ := h2
  have e : n = m := (nI_eq (by omega) (by omega)).mp (hn.symm.trans h1)
  subst e
  exact ⟨F, a1, a2, a3⟩
theorem type_C {G : GG} {n : Nat} {x : Int32} (hC : Cls G G) (hn : G 210 4 = nI n) (hn60 : n ≤ 60) : Cls (if n = 60 then G else u1 (u1 G 204 (upd (G 204) n x)) 203 (upd (G 203) 1 (nI (n + 1)))) (if n = 60 then G else u1 (u1 G 212 (upd (G 212) n x)) 210 (upd (G 210) 4 (nI (n + 1)))) := by
  by_cases h : n = 60
  · rw [if_pos h, if_pos h]
    exact hC
  · rw [if_neg h, if_neg h]
    obtain ⟨a1, ⟨m, a2, a3⟩, a4, ⟨a5, a6, a7⟩, a8⟩ := hC
    have s210 : (u1 (u1 G 212 (upd (G 212) n x)) 210 (upd (G 210) 4 (nI (n + 1)))) 210 = upd (G 210) 4 (nI (n + 1)) := u1_s _ _ _
    have s211 : (u1 (u1 G 212 (upd (G 212) n x)) 210 (upd (G 210) 4 (nI (n + 1)))) 211 = G 211 := (u1_n (by decide)).trans (u1_n (by decide))
    have s212 : (u1 (u1 G 212 (upd (G 212) n x)) 210 (upd (G 210) 4 (nI (n + 1)))) 212 = upd (G 212) n x := (u1_n (by decide)).trans (u1_s _ _ _)
    have e : ∀ k, k < 203 → (u1 (u1 G 204 (upd (G 204) n x)) 203 (upd (G 203) 1 (nI (n + 1)))) k = G k := fun k hk => (u1_n (by omega)).trans (u1_n (by omega))
    refine ⟨by rw [s211]; exact Rep_frame (fun k g1 g2 => e k (by omega)) a1, ⟨m, by rw [s210, upd_n (by decide)]; exact a2, by rw [s211]; exact a3.cg (fun k g1 g2 => e k (by omega)) (fun _ _ _ => rfl)⟩, ?_, ⟨by rw [s210, u1_s, upd_s, upd_s], by rw [s212, u1_n (by decide), u1_s, a6], ⟨n + 1, by omega, by rw [s210, upd_s]⟩⟩, ?_⟩
    · rw [s210, s211, upd_n (by decide), e 0 (by omega)]
      exact a4.imp_right (fun ⟨g1, g2, w⟩ => ⟨g1, g2, Rep_frame (fun k x1 x2 => e k (by omega)) w⟩)
    · rw [s210, upd_n (by decide), upd_n (by decide), e 0 (by omega)]
      exact a8
theorem clear_C {G : GG} (hC : Cls G G) : Cls (u1 G 203 (upd (G 203) 1 (nI 0))) (u1 G 210 (upd (G 210) 4 (nI 0))) := by
  obtain ⟨a1, ⟨m, a2, a3⟩, a4, ⟨a5, a6, a7⟩, a8⟩ := hC
  have s210 : (u1 G 210 (upd (G 210) 4 (nI 0))) 210 = upd (G 210) 4 (nI 0) := u1_s _ _ _
  have s211 : (u1 G 210 (upd (G 210) 4 (nI 0))) 211 = G 211 := u1_n (by decide)
  have s212 : (u1 G 210 (upd (G 210) 4 (nI 0))) 212 = G 212 := u1_n (by decide)
  have e : ∀ k, k ≠ 203 → (u1 G 203 (upd (G 203) 1 (nI 0))) k = G k := fun k hk => u1_n hk
  refine ⟨by rw [s211]; exact Rep_frame (fun k g1 g2 => e k (by omega)) a1, ⟨m, by rw [s210, upd_n (by decide)]; exact a2, by rw [s211]; exact a3.cg (fun k g1 g2 => e k (by omega)) (fun _ _ _ => rfl)⟩, ?_, ⟨by rw [s210, u1_s, upd_s, upd_s], by rw [s212, e 204 (by decide)]; exact a6, ⟨0, by omega, by rw [s210, upd_s]⟩⟩, ?_⟩
  · rw [s210, s211, upd_n (by decide), e 0 (by omega)]
    exact a4.imp_right (fun ⟨g1, g2, w⟩ => ⟨g1, g2, Rep_frame (fun k x1 x2 => e k (by omega)) w⟩)
  · rw [s210, upd_n (by decide), upd_n (by decide), e 0 (by omega)]
    exact a8
theorem undo_C {G uG : GG} {n : Nat} (hC : Cls G G) (hn0 : n ≠ 0) (hn4 : n ≤ 4) (f : ∀ k, k ≠ 101 → 25 ≤ k → uG k = G k) (f0 : uG 0 = G 0) (hH : HistR uG (G 211) (n - 1)) (hR : Rep uG 1 (rwS (G 211) (612 * n))) : Cls uG (u1 (u1 G 211 (cpS (G 211) n 0)) 210 (upd (G 210) 1 (nI (n - 1)))) := by
  obtain ⟨a1, -, a4, ⟨a5, a6, a7⟩, a8⟩ := hC
  have s210 : (u1 (u1 G 211 (cpS (G 211) n 0)) 210 (upd (G 210) 1 (nI (n - 1)))) 210 = upd (G 210) 1 (nI (n - 1)) := u1_s _ _ _
  have s211 : (u1 (u1 G 211 (cpS (G 211) n 0)) 210 (upd (G 210) 1 (nI (n - 1)))) 211 = cpS (G 211) n 0 := (u1_n (by decide)).trans (u1_s _ _ _)
  have s212 : (u1 (u1 G 211 (cpS (G 211) n 0)) 210 (upd (G 210) 1 (nI (n - 1)))) 212 = G 212 := (u1_n (by decide)).trans (u1_n (by decide))
  have hi : ∀ k, 612 ≤ k → cpS (G 211) n 0 k = G 211 k := fun k hk => by unfold cpS; rw [if_neg (by omega)]
  refine ⟨by rw [s211]; exact Rep_req (cpS_at0 (G 211) n) hR, ⟨n - 1, by rw [s210, upd_s], by rw [s211]; exact hH.cg (fun _ _ _ => rfl) (fun k g1 _ => hi k g1)⟩, ?_, ⟨by rw [s210, upd_n (by decide), f 203 (by decide) (by decide)]; exact a5, by rw [s212, f 204 (by decide) (by decide)]; exact a6, by rw [s210, upd_n (by decide)]; exact a7⟩, ?_⟩
  · rw [s210, s211, upd_n (by decide), f0]
    exact a4.imp_right (fun ⟨g1, g2, w⟩ => ⟨g1, g2, Rep_req (cpS_n (c := 5) (by decide)) (Rep_frame (fun k x1 x2 => f k (by omega) (by omega)) w)⟩)
  · rw [s210, upd_n (by decide), upd_n (by decide), f0]
    exact a8
theorem keep_C {G G1 : GG} (hC : Cls G G) (h : cpd G G1 76 1) : Cls (u1 G1 0 (upd (G1 0) 4 (nI 1))) (u1 (u1 G 211 (cpS (G 211) 0 5)) 210 (upd (G 210) 2 (nI 1))) := by
  obtain ⟨a1, ⟨m, a2, a3⟩, a4, ⟨a5, a6, a7⟩, a8⟩ := hC
  have s210 : (u1 (u1 G 211 (cpS (G 211) 0 5)) 210 (upd (G 210) 2 (nI 1))) 210 = upd (G 210) 2 (nI 1) := u1_s _ _ _
  have s211 : (u1 (u1 G 211 (cpS (G 211) 0 5)) 210 (upd (G 210) 2 (nI 1))) 211 = cpS (G 211) 0 5 := (u1_n (by decide)).trans (u1_s _ _ _)
  have s212 : (u1 (u1 G 211 (cpS (G 211) 0 5)) 210 (upd (G 210) 2 (nI 1))) 212 = G 212 := (u1_n (by decide)).trans (u1_n (by decide))
  have e : ∀ k, k ≠ 0 → (u1 G1 0 (upd (G1 0) 4 (nI 1))) k = G1 k := fun k hk => u1_n hk
  have f : ∀ k, (k < 76 ∨ 100 ≤ k) → G1 k = G k := fun k hk => h.1 k hk
  have lo : ∀ k, k < 3060 → cpS (G 211) 0 5 k = G 211 k := fun k hk => by unfold cpS; rw [if_neg (by omega)]
  refine ⟨by rw [s211]; exact Rep_req (fun k hk => lo k (by omega)) (Rep_frame (fun k g1 g2 => (e k (by omega)).trans (f k (by omega))) a1), ⟨m, by rw [s210, upd_n (by decide)]; exact a2, by rw [s211]; exact a3.cg (fun k g1 g2 => (e k (by omega)).trans (f k (by omega))) (fun k g1 g2 => lo k (by omega))⟩, ?_, ⟨by rw [s210, upd_n (by decide), e 203 (by decide), f 203 (by omega)]; exact a5, by rw [s212, e 204 (by decide), f 204 (by omega)]; exact a6, by rw [s210, upd_n (by decide)]; exact a7⟩, ?_⟩
  · rw [s210, s211, u1_s, upd_s, upd_s]
    exact Or.inr ⟨rfl, rfl, Rep_req (cpS_at1 (G 211) 5) (Rep_frame (fun k g1 g2 => e k (by omega)) (h.rep a1))⟩
  · rw [s210, u1_s, upd_n (by decide), upd_n (by decide), upd_n (by decide), upd_n (by decide), f 0 (by omega)]
    exact a8
theorem rcS_cg {S R : Nat → Int32} {n a b : Nat} (hn : n ≤ 4) (ha : a = 0 ∨ a = 6) (hb : b = 0 ∨ b = 6) (h : ∀ c, 1 ≤ c → c ≤ 5 → REq (rwS S (612 * c)) (rwS R (612 * c))) (hab : REq (rwS S (612 * a)) (rwS R (612 * b))) (c : Nat) (h1 : 1 ≤ c) (h5 : c ≤ 5) : REq (rwS (rcS S n a) (612 * c)) (rwS (rcS R n b) (612 * c)) := by
  by_cases e : c = if n = 4 then 4 else n + 1
  · rw [e]
    exact ((rcS_hi (S := S) hn ha).sy.tr hab).tr (rcS_hi (S := R) hn hb)
  · by_cases h4 : n = 4
    · subst h4
      rw [if_pos rfl] at e
      by_cases g : c = 5
      · subst g
        exact ((rcS_oth (S := S) (a := a) hn (Or.inr (Or.inl (by decide)))).sy.tr (h 5 (by decide) (by decide))).tr (rcS_oth (S := R) (a := b) hn (Or.inr (Or.inl (by decide))))
      · obtain ⟨j, rfl⟩ : ∃ j, c = j + 1 := ⟨c - 1, by omega⟩
        exact ((rcS_lo (S := S) (a := a) (j := j) (by omega)).sy.tr (h (j + 2) (by omega) (by omega))).tr (rcS_lo (S := R) (a := b) (j := j) (by omega))
    · rw [if_neg h4] at e
      exact ((rcS_oth (S := S) (a := a) hn (by omega)).sy.tr (h c h1 h5)).tr (rcS_oth (S := R) (a := b) hn (by omega))
theorem rest_S (S : Nat → Int32) {n : Nat} (hn : n ≤ 4) : ∀ k, k < 3672 → cpS (rcS S n 0) 5 0 k = rcS (cpS (cpS S 0 6) 5 0) n 6 k := by
  intro k hk
  obtain ⟨c, j, hj, hc, rfl⟩ : ∃ c j, j < 612 ∧ c ≤ 5 ∧ k = 612 * c + j := ⟨k / 612, k % 612, by omega, by omega, by omega⟩
  have key : REq (rwS (cpS (rcS S n 0) 5 0) (612 * c)) (rwS (rcS (cpS (cpS S 0 6) 5 0) n 6) (612 * c)) := by
    by_cases h0 : c = 0
    · subst h0
      have x1 : REq (rwS (rcS S n 0) (612 * 5)) (rwS (cpS (rcS S n 0) 5 0) (612 * 0)) := cpS_at _ 5 0
      have x2 : REq (rwS S (612 * 5)) (rwS (rcS S n 0) (612 * 5)) := rcS_oth hn (Or.inr (Or.inl (by decide)))
      have x3 : REq (rwS (cpS S 0 6) (612 * 5)) (rwS (cpS (cpS S 0 6) 5 0) (612 * 0)) := cpS_at _ 5 0
      have x4 : REq (rwS S (612 * 5)) (rwS (cpS S 0 6) (612 * 5)) := cpS_n (by decide)
      have x5 : REq (rwS (cpS (cpS S 0 6) 5 0) (612 * 0)) (rwS (rcS (cpS (cpS S 0 6) 5 0) n 6) (612 * 0)) := rcS_oth hn (Or.inl rfl)
      exact (x2.tr x1).sy.tr ((x4.tr x3).tr x5)
    · have y1 : REq (rwS (rcS S n 0) (612 * c)) (rwS (cpS (rcS S n 0) 5 0) (612 * c)) := cpS_n h0
      refine y1.sy.tr (rcS_cg hn (Or.inl rfl) (Or.inr rfl) (fun d d1 d5 => ?_) ?_ c (by omega) hc)
      · exact (cpS_n (S := S) (a := 0) (b := 6) (by omega)).tr (cpS_n (by omega))
      · have z1 : REq (rwS S (612 * 0)) (rwS (cpS S 0 6) (612 * 6)) := cpS_at S 0 6
        exact z1.tr (cpS_n (by decide))
  exact (key j hj).symm
set_option maxHeartbeats 4000000 in
set_option maxRecDepth 100000 in
theorem c_X7_recorded (l : Launch) (J : JJ) (z : ZZ) (ad : Nat → Nat) (G : GG) (G0 : GG) (R : Nat → Int32) (n : Nat) (hn : G0 210 1 = nI n) (hn4 : n ≤ 4) (hC : Cls G (u1 G0 211 R)) (h6 : Rep G 26 (rwS R 3672)) (a : Int32) : MI l J z ad yX7_recorded cX7_recorded 2 .int 4 [.ref (ad 0), .int a] G (fun ans uG => ans = a ∧ (∀ k, 203 ≤ k → uG k = G k) ∧ Cls uG (actG G0 n a R)) := by
  refine MI.go (by decide) (Nat.le_of_ble_eq_true rfl) ?_
  intro pr e s m args below meth c ls Q X h hl hret
  have hx := X.1
  have hb := X.2.1
  have hown := X.2.2.2.1
  have hts := X.2.2.2.2
  have hl : lv_has ls 2 [(0, .ref (ad 0)), (1, .int a)] := hl
  refine lv_iload_n hx hb dX7_recorded_0 rfl (lv_at hl 1 rfl) ?_
  refine lv_if_lt (tgt := 15) hx hb dX7_recorded_1 (by decide) (fun c_1 => ?_) (fun c_1 => ?_)
  · refine lv_iload_n hx hb dX7_recorded_15 rfl (lv_at hl 1 rfl) ?_
    exact hret a G _ _ 16 _ (⟨rfl, fun _ _ => rfl, by unfold actG; rw [if_neg (Int32.not_le.mpr c_1)]; exact hC⟩) h dX7_recorded_16
  · refine lv_aload_n hx hb dX7_recorded_4 rfl (lv_at hl 0 rfl) ?_
    refine fg_X7_28 X h dX7_recorded_5 ?_
    refine lv_aload_n hx hb dX7_recorded_8 rfl (lv_at hl 0 rfl) ?_
    refine fg_X7_16 X h dX7_recorded_9 ?_
    have hH : HistR G R n := by
      have := Cls.n hC ((congrFun (u1_n (by decide)) 1).trans hn) hn4
      rw [u1_s] at this
      exact this
    refine rg_cvv (As := [.ref (ad 26)]) (rest := []) X hl.1 h (c_X0_remember l J z ad G R n hH h6) mw_361 mw_362 mw_363 mw_18 mw_364 pdX0_remember (by decide) (xo_101 J ad _) rfl rfl ⟨Nat.le_of_ble_eq_true rfl, Nat.le_of_ble_eq_true rfl⟩ ⟨Nat.le_of_ble_eq_true rfl, Nat.le_of_ble_eq_true rfl⟩ rfl (Nat.le_of_ble_eq_true rfl) dX7_recorded_12 (fun G1 H locs q1 h => ?_)
    refine lv_iload_n hx hb dX7_recorded_15 rfl (lv_at hl 1 rfl) ?_
    exact hret a G1 _ _ 16 _ (⟨rfl, fun k hk => q1.1 k (by omega), by unfold actG; rw [if_pos (Int32.not_lt.mp c_1)]; exact Cls_rec hC q1.1 q1.2 hn4⟩) h dX7_recorded_16
set_option maxHeartbeats 4000000 in
set_option maxRecDepth 100000 in
theorem c_X7_come (l : Launch) (J : JJ) (z : ZZ) (ad : Nat → Nat) (G : GG) (n : Nat) (hn : G 210 1 = nI n) (hn4 : n ≤ 4) (hC : Cls G G) (x w : Int32) : MI l J z ad yX7_come cX7_come 3 .int 5 [.ref (ad 0), .int x, .int w] G (fun ans uG => PubP G (cmA (cpS (G 211) 0 6) x w) (actG G n (cmA (cpS (G 211) 0 6) x w) (cmR (cpS (G 211) 0 6) x w)) ans uG) := by
  refine MI.go (by decide) (Nat.le_of_ble_eq_true rfl) ?_
  intro pr e s m args below meth c ls Q X h hl hret
  have hx := X.1
  have hb := X.2.1
  have hown := X.2.2.2.1
  have hts := X.2.2.2.2
  have hl : lv_has ls 3 [(0, .ref (ad 0)), (1, .int x), (2, .int w)] := hl
  refine lv_aload_n hx hb dX7_come_0 rfl (lv_at hl 0 rfl) ?_
  refine fg_X7_16 X h dX7_come_1 ?_
  refine lv_aload_n hx hb dX7_come_4 rfl (lv_at hl 0 rfl) ?_
  refine fg_X7_12 X h dX7_come_5 ?_
  refine rg_cvv (As := [.ref (ad 1)]) (rest := []) X hl.1 h (c_X5_copyFrom l J z ad G 26 1 isB_26 isB_1 (by omega)) mw_267 mw_268 mw_269 mw_11 mw_270 pdX5_copyFrom (isB_26.lt (c := 0) (by decide)) (so_0 isB_26 J ad _) rfl rfl ⟨Nat.le_of_ble_eq_true rfl, Nat.le_of_ble_eq_true rfl⟩ ⟨Nat.le_of_ble_eq_true rfl, Nat.le_of_ble_eq_true rfl⟩ rfl (Nat.le_of_ble_eq_true rfl) dX7_come_8 (fun G1 H locs q1 h => ?_)
  refine lv_aload_n hx hb dX7_come_11 rfl (lv_at hl 0 rfl) ?_
  refine lv_aload_n hx hb dX7_come_12 rfl (lv_at hl 0 rfl) ?_
  refine fg_X7_12 X h dX7_come_13 ?_
  refine lv_iload_n hx hb dX7_come_16 rfl (lv_at hl 1 rfl) ?_
  refine lv_iload_n hx hb dX7_come_17 rfl (lv_at hl 2 rfl) ?_
  have hR1 : Rep G1 1 (cpS (G 211) 0 6) := Rep_req (cpS_0 (G 211) (by decide)) (Rep_frame (fun k a b => q1.1 k (by omega)) hC.1)
  have hW1 : WR (cpS (G 211) 0 6) := req_WR (cpS_0 (G 211) (by decide)) hC.1.1.1
  refine rg_civ (As := [.int x, .int w]) (rest := [.ref (ad 0)]) X hl.1 h (c_X5_addDrone l J z ad G1 1 isB_1 (cpS (G 211) 0 6) hR1 x w) mw_389 mw_390 mw_391 mw_11 mw_392 pdX5_addDrone (isB_1.lt (c := 0) (by decide)) (so_0 isB_1 J ad _) rfl rfl ⟨Nat.le_of_ble_eq_true rfl, Nat.le_of_ble_eq_true rfl⟩ ⟨Nat.le_of_ble_eq_true rfl, Nat.le_of_ble_eq_true rfl⟩ rfl (Nat.le_of_ble_eq_true rfl) dX7_come_18 (fun r2 G2 H locs q2 h => ?_)
  obtain ⟨ra, hf2, hR2⟩ := q2
  have hA := Cls_act hC q1 hf2 hR2 (cmR_hi hW1 x w)
  refine lv_as (y := cmA (cpS (G 211) 0 6) x w) ra ?_
  refine rg_civ (As := [.int (cmA (cpS (G 211) 0 6) x w)]) (rest := []) X hl.1 h (c_X7_recorded l J z ad G2 G (cmR (cpS (G 211) 0 6) x w) n hn hn4 hA.1 hA.2 (cmA (cpS (G 211) 0 6) x w)) mw_357 mw_358 mw_359 mw_2 mw_360 pdX7_recorded (by decide) (xo_0 J ad _) rfl rfl ⟨Nat.le_of_ble_eq_true rfl, Nat.le_of_ble_eq_true rfl⟩ ⟨Nat.le_of_ble_eq_true rfl, Nat.le_of_ble_eq_true rfl⟩ rfl (Nat.le_of_ble_eq_true rfl) dX7_come_21 (fun r3 G3 H locs q3 h => ?_)
  exact hret r3 G3 _ _ 24 _ (⟨q3.1, fun k hk => (q3.2.1 k (by omega)).trans ((hf2 k (by omega)).trans (q1.1 k (by omega))), q3.2.2⟩) h dX7_come_24
set_option maxHeartbeats 4000000 in
set_option maxRecDepth 100000 in
theorem c_X7_move (l : Launch) (J : JJ) (z : ZZ) (ad : Nat → Nat) (G : GG) (n : Nat) (hn : G 210 1 = nI n) (hn4 : n ≤ 4) (hC : Cls G G) (d x : Int32) : MI l J z ad yX7_move cX7_move 3 .int 5 [.ref (ad 0), .int d, .int x] G (fun ans uG => PubP G (mvA (cpS (G 211) 0 6) d x) (actG G n (mvA (cpS (G 211) 0 6) d x) (mvR (cpS (G 211) 0 6) d x)) ans uG) := by
  refine MI.go (by decide) (Nat.le_of_ble_eq_true rfl) ?_
  intro pr e s m args below meth c ls Q X h hl hret
  have hx := X.1
  have hb := X.2.1
  have hown := X.2.2.2.1
  have hts := X.2.2.2.2
  have hl : lv_has ls 3 [(0, .ref (ad 0)), (1, .int d), (2, .int x)] := hl
  refine lv_aload_n hx hb dX7_move_0 rfl (lv_at hl 0 rfl) ?_
  refine fg_X7_16 X h dX7_move_1 ?_
  refine lv_aload_n hx hb dX7_move_4 rfl (lv_at hl 0 rfl) ?_
  refine fg_X7_12 X h dX7_move_5 ?_
  refine rg_cvv (As := [.ref (ad 1)]) (rest := []) X hl.1 h (c_X5_copyFrom l J z ad G 26 1 isB_26 isB_1 (by omega)) mw_267 mw_268 mw_269 mw_11 mw_270 pdX5_copyFrom (isB_26.lt (c := 0) (by decide)) (so_0 isB_26 J ad _) rfl rfl ⟨Nat.le_of_ble_eq_true rfl, Nat.le_of_ble_eq_true rfl⟩ ⟨Nat.le_of_ble_eq_true rfl, Nat.le_of_ble_eq_true rfl⟩ rfl (Nat.le_of_ble_eq_true rfl) dX7_move_8 (fun G1 H locs q1 h => ?_)
  refine lv_aload_n hx hb dX7_move_11 rfl (lv_at hl 0 rfl) ?_
  refine lv_aload_n hx hb dX7_move_12 rfl (lv_at hl 0 rfl) ?_
  refine fg_X7_12 X h dX7_move_13 ?_
  refine lv_iload_n hx hb dX7_move_16 rfl (lv_at hl 1 rfl) ?_
  refine lv_iload_n hx hb dX7_move_17 rfl (lv_at hl 2 rfl) ?_
  have hR1 : Rep G1 1 (cpS (G 211) 0 6) := Rep_req (cpS_0 (G 211) (by decide)) (Rep_frame (fun k a b => q1.1 k (by omega)) hC.1)
  have hW1 : WR (cpS (G 211) 0 6) := req_WR (cpS_0 (G 211) (by decide)) hC.1.1.1
  refine rg_civ (As := [.int d, .int x]) (rest := [.ref (ad 0)]) X hl.1 h (c_X5_moveDrone l J z ad G1 1 isB_1 (cpS (G 211) 0 6) hR1 d x) mw_405 mw_406 mw_407 mw_11 mw_408 pdX5_moveDrone (isB_1.lt (c := 0) (by decide)) (so_0 isB_1 J ad _) rfl rfl ⟨Nat.le_of_ble_eq_true rfl, Nat.le_of_ble_eq_true rfl⟩ ⟨Nat.le_of_ble_eq_true rfl, Nat.le_of_ble_eq_true rfl⟩ rfl (Nat.le_of_ble_eq_true rfl) dX7_move_18 (fun r2 G2 H locs q2 h => ?_)
  obtain ⟨ra, hf2, hR2⟩ := q2
  have hA := Cls_act hC q1 hf2 hR2 (mvR_hi hW1 d x)
  refine lv_as (y := mvA (cpS (G 211) 0 6) d x) ra ?_
  refine rg_civ (As := [.int (mvA (cpS (G 211) 0 6) d x)]) (rest := []) X hl.1 h (c_X7_recorded l J z ad G2 G (mvR (cpS (G 211) 0 6) d x) n hn hn4 hA.1 hA.2 (mvA (cpS (G 211) 0 6) d x)) mw_357 mw_358 mw_359 mw_2 mw_360 pdX7_recorded (by decide) (xo_0 J ad _) rfl rfl ⟨Nat.le_of_ble_eq_true rfl, Nat.le_of_ble_eq_true rfl⟩ ⟨Nat.le_of_ble_eq_true rfl, Nat.le_of_ble_eq_true rfl⟩ rfl (Nat.le_of_ble_eq_true rfl) dX7_move_21 (fun r3 G3 H locs q3 h => ?_)
  exact hret r3 G3 _ _ 24 _ (⟨q3.1, fun k hk => (q3.2.1 k (by omega)).trans ((hf2 k (by omega)).trans (q1.1 k (by omega))), q3.2.2⟩) h dX7_move_24
set_option maxHeartbeats 4000000 in
set_option maxRecDepth 100000 in
theorem c_X7_petition (l : Launch) (J : JJ) (z : ZZ) (ad : Nat → Nat) (G : GG) (n : Nat) (hn : G 210 1 = nI n) (hn4 : n ≤ 4) (hC : Cls G G) (d x g k : Int32) : MI l J z ad yX7_petition cX7_petition 5 .int 5 [.ref (ad 0), .int d, .int x, .int g, .int k] G (fun ans uG => PubP G (ptA (cpS (G 211) 0 6) d x g k) (actG G n (ptA (cpS (G 211) 0 6) d x g k) (ptR (cpS (G 211) 0 6) d x g k)) ans uG) := by
  refine MI.go (by decide) (Nat.le_of_ble_eq_true rfl) ?_
  intro pr e s m args below meth c ls Q X h hl hret
  have hx := X.1
  have hb := X.2.1
  have hown := X.2.2.2.1
  have hts := X.2.2.2.2
  have hl : lv_has ls 5 [(0, .ref (ad 0)), (1, .int d), (2, .int x), (3, .int g), (4, .int k)] := hl
  refine lv_aload_n hx hb dX7_petition_0 rfl (lv_at hl 0 rfl) ?_
  refine fg_X7_16 X h dX7_petition_1 ?_
  refine lv_aload_n hx hb dX7_petition_4 rfl (lv_at hl 0 rfl) ?_
  refine fg_X7_12 X h dX7_petition_5 ?_
  refine rg_cvv (As := [.ref (ad 1)]) (rest := []) X hl.1 h (c_X5_copyFrom l J z ad G 26 1 isB_26 isB_1 (by omega)) mw_267 mw_268 mw_269 mw_11 mw_270 pdX5_copyFrom (isB_26.lt (c := 0) (by decide)) (so_0 isB_26 J ad _) rfl rfl ⟨Nat.le_of_ble_eq_true rfl, Nat.le_of_ble_eq_true rfl⟩ ⟨Nat.le_of_ble_eq_true rfl, Nat.le_of_ble_eq_true rfl⟩ rfl (Nat.le_of_ble_eq_true rfl) dX7_petition_8 (fun G1 H locs q1 h => ?_)
  refine lv_aload_n hx hb dX7_petition_11 rfl (lv_at hl 0 rfl) ?_
  refine lv_aload_n hx hb dX7_petition_12 rfl (lv_at hl 0 rfl) ?_
  refine fg_X7_12 X h dX7_petition_13 ?_
  refine lv_iload_n hx hb dX7_petition_16 rfl (lv_at hl 1 rfl) ?_
  refine lv_iload_n hx hb dX7_petition_17 rfl (lv_at hl 2 rfl) ?_
  refine lv_iload_n hx hb dX7_petition_18 rfl (lv_at hl 3 rfl) ?_
  refine lv_iload hx hb dX7_petition_19 (lv_at hl 4 rfl) ?_
  have hR1 : Rep G1 1 (cpS (G 211) 0 6) := Rep_req (cpS_0 (G 211) (by decide)) (Rep_frame (fun k a b => q1.1 k (by omega)) hC.1)
  have hW1 : WR (cpS (G 211) 0 6) := req_WR (cpS_0 (G 211) (by decide)) hC.1.1.1
  refine rg_civ (As := [.int d, .int x, .int g, .int k]) (rest := [.ref (ad 0)]) X hl.1 h (c_X5_addPetition l J z ad G1 1 isB_1 (cpS (G 211) 0 6) hR1 d x g k) mw_415 mw_416 mw_417 mw_11 mw_418 pdX5_addPetition (isB_1.lt (c := 0) (by decide)) (so_0 isB_1 J ad _) rfl rfl ⟨Nat.le_of_ble_eq_true rfl, Nat.le_of_ble_eq_true rfl⟩ ⟨Nat.le_of_ble_eq_true rfl, Nat.le_of_ble_eq_true rfl⟩ rfl (Nat.le_of_ble_eq_true rfl) dX7_petition_21 (fun r2 G2 H locs q2 h => ?_)
  obtain ⟨ra, hf2, hR2⟩ := q2
  have hA := Cls_act hC q1 hf2 hR2 (ptR_hi hW1 d x g k)
  refine lv_as (y := ptA (cpS (G 211) 0 6) d x g k) ra ?_
  refine rg_civ (As := [.int (ptA (cpS (G 211) 0 6) d x g k)]) (rest := []) X hl.1 h (c_X7_recorded l J z ad G2 G (ptR (cpS (G 211) 0 6) d x g k) n hn hn4 hA.1 hA.2 (ptA (cpS (G 211) 0 6) d x g k)) mw_357 mw_358 mw_359 mw_2 mw_360 pdX7_recorded (by decide) (xo_0 J ad _) rfl rfl ⟨Nat.le_of_ble_eq_true rfl, Nat.le_of_ble_eq_true rfl⟩ ⟨Nat.le_of_ble_eq_true rfl, Nat.le_of_ble_eq_true rfl⟩ rfl (Nat.le_of_ble_eq_true rfl) dX7_petition_24 (fun r3 G3 H locs q3 h => ?_)
  exact hret r3 G3 _ _ 27 _ (⟨q3.1, fun k hk => (q3.2.1 k (by omega)).trans ((hf2 k (by omega)).trans (q1.1 k (by omega))), q3.2.2⟩) h dX7_petition_27
set_option maxHeartbeats 4000000 in
set_option maxRecDepth 100000 in
theorem c_X7_second (l : Launch) (J : JJ) (z : ZZ) (ad : Nat → Nat) (G : GG) (n : Nat) (hn : G 210 1 = nI n) (hn4 : n ≤ 4) (hC : Cls G G) (d q : Int32) : MI l J z ad yX7_second cX7_second 3 .int 5 [.ref (ad 0), .int d, .int q] G (fun ans uG => PubP G (scA (cpS (G 211) 0 6) d q) (actG G n (scA (cpS (G 211) 0 6) d q) (scR (cpS (G 211) 0 6) d q)) ans uG) := by
  refine MI.go (by decide) (Nat.le_of_ble_eq_true rfl) ?_
  intro pr e s m args below meth c ls Q X h hl hret
  have hx := X.1
  have hb := X.2.1
  have hown := X.2.2.2.1
  have hts := X.2.2.2.2
  have hl : lv_has ls 3 [(0, .ref (ad 0)), (1, .int d), (2, .int q)] := hl
  refine lv_aload_n hx hb dX7_second_0 rfl (lv_at hl 0 rfl) ?_
  refine fg_X7_16 X h dX7_second_1 ?_
  refine lv_aload_n hx hb dX7_second_4 rfl (lv_at hl 0 rfl) ?_
  refine fg_X7_12 X h dX7_second_5 ?_
  refine rg_cvv (As := [.ref (ad 1)]) (rest := []) X hl.1 h (c_X5_copyFrom l J z ad G 26 1 isB_26 isB_1 (by omega)) mw_267 mw_268 mw_269 mw_11 mw_270 pdX5_copyFrom (isB_26.lt (c := 0) (by decide)) (so_0 isB_26 J ad _) rfl rfl ⟨Nat.le_of_ble_eq_true rfl, Nat.le_of_ble_eq_true rfl⟩ ⟨Nat.le_of_ble_eq_true rfl, Nat.le_of_ble_eq_true rfl⟩ rfl (Nat.le_of_ble_eq_true rfl) dX7_second_8 (fun G1 H locs q1 h => ?_)
  refine lv_aload_n hx hb dX7_second_11 rfl (lv_at hl 0 rfl) ?_
  refine lv_aload_n hx hb dX7_second_12 rfl (lv_at hl 0 rfl) ?_
  refine fg_X7_12 X h dX7_second_13 ?_
  refine lv_iload_n hx hb dX7_second_16 rfl (lv_at hl 1 rfl) ?_
  refine lv_iload_n hx hb dX7_second_17 rfl (lv_at hl 2 rfl) ?_
  have hR1 : Rep G1 1 (cpS (G 211) 0 6) := Rep_req (cpS_0 (G 211) (by decide)) (Rep_frame (fun k a b => q1.1 k (by omega)) hC.1)
  have hW1 : WR (cpS (G 211) 0 6) := req_WR (cpS_0 (G 211) (by decide)) hC.1.1.1
  refine rg_civ (As := [.int d, .int q]) (rest := [.ref (ad 0)]) X hl.1 h (c_X5_addSeconder l J z ad G1 1 isB_1 (cpS (G 211) 0 6) hR1 d q) mw_432 mw_433 mw_434 mw_11 mw_435 pdX5_addSeconder (isB_1.lt (c := 0) (by decide)) (so_0 isB_1 J ad _) rfl rfl ⟨Nat.le_of_ble_eq_true rfl, Nat.le_of_ble_eq_true rfl⟩ ⟨Nat.le_of_ble_eq_true rfl, Nat.le_of_ble_eq_true rfl⟩ rfl (Nat.le_of_ble_eq_true rfl) dX7_second_18 (fun r2 G2 H locs q2 h => ?_)
  obtain ⟨ra, hf2, hR2⟩ := q2
  have hA := Cls_act hC q1 hf2 hR2 (scR_hi hW1 d q)
  refine lv_as (y := scA (cpS (G 211) 0 6) d q) ra ?_
  refine rg_civ (As := [.int (scA (cpS (G 211) 0 6) d q)]) (rest := []) X hl.1 h (c_X7_recorded l J z ad G2 G (scR (cpS (G 211) 0 6) d q) n hn hn4 hA.1 hA.2 (scA (cpS (G 211) 0 6) d q)) mw_357 mw_358 mw_359 mw_2 mw_360 pdX7_recorded (by decide) (xo_0 J ad _) rfl rfl ⟨Nat.le_of_ble_eq_true rfl, Nat.le_of_ble_eq_true rfl⟩ ⟨Nat.le_of_ble_eq_true rfl, Nat.le_of_ble_eq_true rfl⟩ rfl (Nat.le_of_ble_eq_true rfl) dX7_second_21 (fun r3 G3 H locs q3 h => ?_)
  exact hret r3 G3 _ _ 24 _ (⟨q3.1, fun k hk => (q3.2.1 k (by omega)).trans ((hf2 k (by omega)).trans (q1.1 k (by omega))), q3.2.2⟩) h dX7_second_24
set_option maxHeartbeats 4000000 in
set_option maxRecDepth 100000 in
theorem c_X7_pass (l : Launch) (J : JJ) (z : ZZ) (ad : Nat → Nat) (G : GG) (n : Nat) (hn : G 210 1 = nI n) (hn4 : n ≤ 4) (hC : Cls G G) (t : Int32) : MI l J z ad yX7_pass cX7_pass 2 .int 5 [.ref (ad 0), .int t] G (fun ans uG => PubP G (edA (cpS (G 211) 0 6) t) (actG G n (edA (cpS (G 211) 0 6) t) (edR (cpS (G 211) 0 6) t)) ans uG) := by
  refine MI.go (by decide) (Nat.le_of_ble_eq_true rfl) ?_
  intro pr e s m args below meth c ls Q X h hl hret
  have hx := X.1
  have hb := X.2.1
  have hown := X.2.2.2.1
  have hts := X.2.2.2.2
  have hl : lv_has ls 2 [(0, .ref (ad 0)), (1, .int t)] := hl
  refine lv_aload_n hx hb dX7_pass_0 rfl (lv_at hl 0 rfl) ?_
  refine fg_X7_16 X h dX7_pass_1 ?_
  refine lv_aload_n hx hb dX7_pass_4 rfl (lv_at hl 0 rfl) ?_
  refine fg_X7_12 X h dX7_pass_5 ?_
  refine rg_cvv (As := [.ref (ad 1)]) (rest := []) X hl.1 h (c_X5_copyFrom l J z ad G 26 1 isB_26 isB_1 (by omega)) mw_267 mw_268 mw_269 mw_11 mw_270 pdX5_copyFrom (isB_26.lt (c := 0) (by decide)) (so_0 isB_26 J ad _) rfl rfl ⟨Nat.le_of_ble_eq_true rfl, Nat.le_of_ble_eq_true rfl⟩ ⟨Nat.le_of_ble_eq_true rfl, Nat.le_of_ble_eq_true rfl⟩ rfl (Nat.le_of_ble_eq_true rfl) dX7_pass_8 (fun G1 H locs q1 h => ?_)
  refine lv_aload_n hx hb dX7_pass_11 rfl (lv_at hl 0 rfl) ?_
  refine lv_aload_n hx hb dX7_pass_12 rfl (lv_at hl 0 rfl) ?_
  refine fg_X7_12 X h dX7_pass_13 ?_
  refine lv_iload_n hx hb dX7_pass_16 rfl (lv_at hl 1 rfl) ?_
  have hR1 : Rep G1 1 (cpS (G 211) 0 6) := Rep_req (cpS_0 (G 211) (by decide)) (Rep_frame (fun k a b => q1.1 k (by omega)) hC.1)
  have hW1 : WR (cpS (G 211) 0 6) := req_WR (cpS_0 (G 211) (by decide)) hC.1.1.1
  refine rg_civ (As := [.int t]) (rest := [.ref (ad 0)]) X hl.1 h (c_X5_endDays l J z ad G1 1 isB_1 (cpS (G 211) 0 6) hR1 t) mw_335 mw_336 mw_337 mw_11 mw_338 pdX5_endDays (isB_1.lt (c := 0) (by decide)) (so_0 isB_1 J ad _) rfl rfl ⟨Nat.le_of_ble_eq_true rfl, Nat.le_of_ble_eq_true rfl⟩ ⟨Nat.le_of_ble_eq_true rfl, Nat.le_of_ble_eq_true rfl⟩ rfl (Nat.le_of_ble_eq_true rfl) dX7_pass_17 (fun r2 G2 H locs q2 h => ?_)
  obtain ⟨ra, hf2, hR2⟩ := q2
  have hA := Cls_act hC q1 hf2 hR2 (edR_hi hW1 t)
  refine lv_as (y := edA (cpS (G 211) 0 6) t) ra ?_
  refine rg_civ (As := [.int (edA (cpS (G 211) 0 6) t)]) (rest := []) X hl.1 h (c_X7_recorded l J z ad G2 G (edR (cpS (G 211) 0 6) t) n hn hn4 hA.1 hA.2 (edA (cpS (G 211) 0 6) t)) mw_357 mw_358 mw_359 mw_2 mw_360 pdX7_recorded (by decide) (xo_0 J ad _) rfl rfl ⟨Nat.le_of_ble_eq_true rfl, Nat.le_of_ble_eq_true rfl⟩ ⟨Nat.le_of_ble_eq_true rfl, Nat.le_of_ble_eq_true rfl⟩ rfl (Nat.le_of_ble_eq_true rfl) dX7_pass_20 (fun r3 G3 H locs q3 h => ?_)
  exact hret r3 G3 _ _ 23 _ (⟨q3.1, fun k hk => (q3.2.1 k (by omega)).trans ((hf2 k (by omega)).trans (q1.1 k (by omega))), q3.2.2⟩) h dX7_pass_23
set_option maxHeartbeats 4000000 in
set_option maxRecDepth 100000 in
theorem c_X7_set (l : Launch) (J : JJ) (z : ZZ) (ad : Nat → Nat) (G : GG) (n : Nat) (hn : G 210 1 = nI n) (hn4 : n ≤ 4) (hC : Cls G G) (x v : Int32) : MI l J z ad yX7_set cX7_set 3 .int 5 [.ref (ad 0), .int x, .int v] G (fun ans uG => PubP G (stA (cpS (G 211) 0 6) x v) (actG G n (stA (cpS (G 211) 0 6) x v) (stR (cpS (G 211) 0 6) x v)) ans uG) := by
  refine MI.go (by decide) (Nat.le_of_ble_eq_true rfl) ?_
  intro pr e s m args below meth c ls Q X h hl hret
  have hx := X.1
  have hb := X.2.1
  have hown := X.2.2.2.1
  have hts := X.2.2.2.2
  have hl : lv_has ls 3 [(0, .ref (ad 0)), (1, .int x), (2, .int v)] := hl
  refine lv_aload_n hx hb dX7_set_0 rfl (lv_at hl 0 rfl) ?_
  refine fg_X7_16 X h dX7_set_1 ?_
  refine lv_aload_n hx hb dX7_set_4 rfl (lv_at hl 0 rfl) ?_
  refine fg_X7_12 X h dX7_set_5 ?_
  refine rg_cvv (As := [.ref (ad 1)]) (rest := []) X hl.1 h (c_X5_copyFrom l J z ad G 26 1 isB_26 isB_1 (by omega)) mw_267 mw_268 mw_269 mw_11 mw_270 pdX5_copyFrom (isB_26.lt (c := 0) (by decide)) (so_0 isB_26 J ad _) rfl rfl ⟨Nat.le_of_ble_eq_true rfl, Nat.le_of_ble_eq_true rfl⟩ ⟨Nat.le_of_ble_eq_true rfl, Nat.le_of_ble_eq_true rfl⟩ rfl (Nat.le_of_ble_eq_true rfl) dX7_set_8 (fun G1 H locs q1 h => ?_)
  refine lv_aload_n hx hb dX7_set_11 rfl (lv_at hl 0 rfl) ?_
  refine lv_aload_n hx hb dX7_set_12 rfl (lv_at hl 0 rfl) ?_
  refine fg_X7_12 X h dX7_set_13 ?_
  refine lv_iload_n hx hb dX7_set_16 rfl (lv_at hl 1 rfl) ?_
  refine lv_iload_n hx hb dX7_set_17 rfl (lv_at hl 2 rfl) ?_
  have hR1 : Rep G1 1 (cpS (G 211) 0 6) := Rep_req (cpS_0 (G 211) (by decide)) (Rep_frame (fun k a b => q1.1 k (by omega)) hC.1)
  have hW1 : WR (cpS (G 211) 0 6) := req_WR (cpS_0 (G 211) (by decide)) hC.1.1.1
  refine rg_civ (As := [.int x, .int v]) (rest := [.ref (ad 0)]) X hl.1 h (c_X5_changeSetting l J z ad G1 1 isB_1 (cpS (G 211) 0 6) hR1 x v) mw_442 mw_443 mw_444 mw_11 mw_445 pdX5_changeSetting (isB_1.lt (c := 0) (by decide)) (so_0 isB_1 J ad _) rfl rfl ⟨Nat.le_of_ble_eq_true rfl, Nat.le_of_ble_eq_true rfl⟩ ⟨Nat.le_of_ble_eq_true rfl, Nat.le_of_ble_eq_true rfl⟩ rfl (Nat.le_of_ble_eq_true rfl) dX7_set_18 (fun r2 G2 H locs q2 h => ?_)
  obtain ⟨ra, hf2, hR2⟩ := q2
  have hA := Cls_act hC q1 hf2 hR2 (stR_hi hW1 x v)
  refine lv_as (y := stA (cpS (G 211) 0 6) x v) ra ?_
  refine rg_civ (As := [.int (stA (cpS (G 211) 0 6) x v)]) (rest := []) X hl.1 h (c_X7_recorded l J z ad G2 G (stR (cpS (G 211) 0 6) x v) n hn hn4 hA.1 hA.2 (stA (cpS (G 211) 0 6) x v)) mw_357 mw_358 mw_359 mw_2 mw_360 pdX7_recorded (by decide) (xo_0 J ad _) rfl rfl ⟨Nat.le_of_ble_eq_true rfl, Nat.le_of_ble_eq_true rfl⟩ ⟨Nat.le_of_ble_eq_true rfl, Nat.le_of_ble_eq_true rfl⟩ rfl (Nat.le_of_ble_eq_true rfl) dX7_set_21 (fun r3 G3 H locs q3 h => ?_)
  exact hret r3 G3 _ _ 24 _ (⟨q3.1, fun k hk => (q3.2.1 k (by omega)).trans ((hf2 k (by omega)).trans (q1.1 k (by omega))), q3.2.2⟩) h dX7_set_24
set_option maxHeartbeats 4000000 in
set_option maxRecDepth 100000 in
theorem c_X7_undo (l : Launch) (J : JJ) (z : ZZ) (ad : Nat → Nat) (G : GG) (n : Nat) (hn : G 210 1 = nI n) (hn4 : n ≤ 4) (hC : Cls G G)  : MI l J z ad yX7_undo cX7_undo 1 .int 4 [.ref (ad 0)] G (fun ans uG => PubP G (if n = 0 then (-5) else nI (n - 1)) (if n = 0 then G else u1 (u1 G 211 (cpS (G 211) n 0)) 210 (upd (G 210) 1 (nI (n - 1)))) ans uG) := by
  refine MI.go (by decide) (Nat.le_of_ble_eq_true rfl) ?_
  intro pr e s m args below meth c ls Q X h hl hret
  have hx := X.1
  have hb := X.2.1
  have hown := X.2.2.2.1
  have hts := X.2.2.2.2
  have hl : lv_has ls 1 [(0, .ref (ad 0))] := hl
  refine lv_aload_n hx hb dX7_undo_0 rfl (lv_at hl 0 rfl) ?_
  refine fg_X7_28 X h dX7_undo_1 ?_
  refine lv_aload_n hx hb dX7_undo_4 rfl (lv_at hl 0 rfl) ?_
  refine fg_X7_12 X h dX7_undo_5 ?_
  refine rg_civ (As := [.ref (ad 1)]) (rest := []) X hl.1 h (c_X0_takeBack l J z ad G (G 211) n (Cls.n hC hn hn4)) mw_372 mw_373 mw_374 mw_18 mw_375 pdX0_takeBack (by decide) (xo_101 J ad _) rfl rfl ⟨Nat.le_of_ble_eq_true rfl, Nat.le_of_ble_eq_true rfl⟩ ⟨Nat.le_of_ble_eq_true rfl, Nat.le_of_ble_eq_true rfl⟩ rfl (Nat.le_of_ble_eq_true rfl) dX7_undo_8 (fun r1 G1 H locs q1 h => ?_)
  obtain ⟨b1, b2, b3⟩ := q1
  exact hret r1 G1 _ _ 11 _ ((by by_cases h0 : n = 0; exact ⟨b1, fun k hk => by rw [b2 h0], by rw [if_pos h0, b2 h0]; exact hC⟩; exact ⟨b1, fun k hk => (b3 h0).1 k (by omega) (by omega), by rw [if_neg h0]; exact undo_C hC h0 hn4 (b3 h0).1 (b3 h0).2.1 (b3 h0).2.2.1 (b3 h0).2.2.2⟩)) h dX7_undo_11
