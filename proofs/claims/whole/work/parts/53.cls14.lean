/-! BOTH: the class's cells (out of G) stand for the reference's (out of V) -/
def Cls (G V : GG) : Prop :=
  Rep G 1 (V 211) ∧ (∃ n, V 210 1 = nI n ∧ HistR G (V 211) n) ∧ ((G 0 4 = nI 0 ∧ V 210 2 = nI 0) ∨ (G 0 4 = nI 1 ∧ V 210 2 = nI 1 ∧ Rep G 76 (rwS (V 211) 3060))) ∧ (G 203 1 = V 210 4 ∧ G 204 = V 212 ∧ ∃ n, n ≤ 60 ∧ V 210 4 = nI n) ∧ ((G 0 8 = 0 ∧ V 210 5 = (-5) ∧ V 210 6 = (-5)) ∨ (G 0 8 ≠ 0 ∧ V 210 5 = G 0 7 ∧ V 210 6 = G 0 8))
theorem Cls.mv {G G' V V' : GG} (h : Cls G V) (a : ∀ k, (k < 26 ∨ (76 ≤ k ∧ k < 205)) → G' k = G k) (b : ∀ j, j < 9 → V' 210 j = V 210 j) (c : V' 212 = V 212) (d : ∀ k, k < 3672 → V' 211 k = V 211 k) : Cls G' V' := by
  obtain ⟨h1, ⟨n, h2, h3⟩, h4, ⟨h5, h6, h7⟩, h8⟩ := h
  refine ⟨Rep_req (fun k hk => d k (by omega)) (Rep_frame (fun k x y => a k (by omega)) h1), ⟨n, by rw [b 1 (by omega)]; exact h2, h3.cg (fun k x y => a k (by omega)) (fun k x y => d k (by omega))⟩, ?_, ⟨by rw [a 203 (by omega), b 4 (by omega)]; exact h5, by rw [a 204 (by omega), c]; exact h6, by rw [b 4 (by omega)]; exact h7⟩, ?_⟩
  · rw [a 0 (by omega), b 2 (by omega)]
    exact h4.imp_right (fun ⟨x, y, w⟩ => ⟨x, y, Rep_req (fun k hk => d _ (by omega)) (Rep_frame (fun k g1 g2 => a k (by omega)) w)⟩)
  · rw [a 0 (by omega), b 5 (by omega), b 6 (by omega)]
    exact h8
def PubP (G : GG) (A : Int32) (V : GG) (ans : Int32) (uG : GG) : Prop := ans = A ∧ (∀ k, 210 ≤ k → uG k = G k) ∧ Cls uG V
theorem REq.sy {a b : Nat → Int32} (h : REq a b) : REq b a := fun k hk => (h k hk).symm
theorem REq.rf (a : Nat → Int32) : REq a a := fun _ _ => rfl
theorem rw0 (S : Nat → Int32) : rwS S (612 * 0) = S := by rw [Nat.mul_zero]; exact rwS_0 S
theorem cpS_at0 (S : Nat → Int32) (a : Nat) : REq (rwS S (612 * a)) (cpS S a 0) := by
  have := cpS_at S a 0
  rw [rw0] at this
  exact this
theorem cpS_at1 (S : Nat → Int32) (b : Nat) : REq S (rwS (cpS S 0 b) (612 * b)) := by
  have := cpS_at S 0 b
  rw [rw0] at this
  exact this
theorem cmR_hi {r : Nat → Int32} (hW : WR r) (x w : Int32) : HiEq r (cmR r x w) := by
  have hk := hW.1.2
  unfold cmR
  rcases Classical.em (isN x 6 ∧ inN w 1 9 ∧ kn r ≠ 12) with c | c
  · rw [cif_t c]
    exact fun j hj => by rw [upd_n (by omega), upd_n (by omega), upd_n (by omega), upd_n (by omega), upd_n (by omega), upd_n (by omega), upd_n (by omega)]
  · rw [cif_f c]; exact HiEq.rf r
theorem mvR_hi {r : Nat → Int32} (hW : WR r) (d x : Int32) : HiEq r (mvR r d x) := by
  have hk := hW.1.2
  unfold mvR
  rcases Classical.em (isN d (kn r) ∧ isN x 6) with c | c
  · rw [cif_t c]
    obtain ⟨⟨D, hD, rfl⟩, -⟩ := c
    rw [tn_nI (by omega)]
    exact fun j hj => upd_n (by omega)
  · rw [cif_f c]; exact HiEq.rf r
theorem stR_hi {r : Nat → Int32} (hW : WR r) (x v : Int32) : HiEq r (stR r x v) := by
  unfold stR
  rcases Classical.em (inN x 0 1 ∧ inN v (tn x) 60) with c | c
  · rw [cif_t c]
    obtain ⟨⟨k, -, hk, rfl⟩, -⟩ := c
    rw [tn_nI (by omega)]
    exact fun j hj => upd_n (by omega)
  · rw [cif_f c]; exact HiEq.rf r
theorem Cls_act {G G1 G2 : GG} {R : Nat → Int32} (hC : Cls G G) (h1 : cpd G G1 26 1) (h2 : frm G1 G2 1) (h3 : Rep G2 1 R) (h4 : HiEq (cpS (G 211) 0 6) R) : Cls G2 (u1 G 211 R) ∧ Rep G2 26 (rwS R 3672) := by
  obtain ⟨a1, ⟨n, a2, a3⟩, a4, ⟨a5, a6, a7⟩, a8⟩ := hC
  have e : ∀ k, (k < 1 ∨ 50 ≤ k) → G2 k = G k := fun k hk => (h2 k (by omega)).trans (h1.1 k (by omega))
  have eR : ∀ k, 612 ≤ k → k < 3672 → R k = G 211 k := fun k x y => (h4 k x).trans (by unfold cpS; rw [if_neg (by omega)])
  have s210 : (u1 G 211 R) 210 = G 210 := u1_n (by decide)
  have s212 : (u1 G 211 R) 212 = G 212 := u1_n (by decide)
  have s211 : (u1 G 211 R) 211 = R := u1_s _ _ _
  refine ⟨⟨by rw [s211]; exact h3, ⟨n, by rw [s210]; exact a2, by rw [s211]; exact a3.cg (fun k x y => e k (by omega)) (fun k x y => eR k x (by omega))⟩, ?_, ⟨by rw [s210, e 203 (by omega)]; exact a5, by rw [s212, e 204 (by omega)]; exact a6, by rw [s210]; exact a7⟩, ?_⟩, ?_⟩
  · rw [s210, s211, e 0 (by omega)]
    exact a4.imp_right (fun ⟨x, y, w⟩ => ⟨x, y, Rep_req (fun k hk => eR _ (by omega) (by omega)) (Rep_frame (fun k g1 g2 => e k (by omega)) w)⟩)
  · rw [s210, e 0 (by omega)]
    exact a8
  · have h5 : Rep G1 26 (G 211) := h1.rep a1
    have h6 : Rep G2 26 (G 211) := Rep_frame (fun k g1 g2 => h2 k (by omega)) h5
    refine Rep_req (fun k hk => ?_) h6
    show R (3672 + k) = G 211 k
    rw [h4 _ (by omega)]
    unfold cpS
    rw [if_pos (by omega)]
    exact congrArg (G 211) (by omega)
theorem Cls_rec {G uG G0 : GG} {R : Nat → Int32} {n : Nat} (hC : Cls G (u1 G0 211 R)) (f : ∀ k, (k < 101 ∨ 203 ≤ k) → uG k = G k) (hH : HistR uG (rcS R n 6) (if n = 4 then 4 else n + 1)) (hn4 : n ≤ 4) : Cls uG (u1 (u1 G0 211 (rcS R n 6)) 210 (upd (G0 210) 1 (nI (if n = 4 then 4 else n + 1)))) := by
  obtain ⟨a1, -, a4, ⟨a5, a6, a7⟩, a8⟩ := hC
  have s210 : (u1 G0 211 R) 210 = G0 210 := u1_n (by decide)
  have s212 : (u1 G0 211 R) 212 = G0 212 := u1_n (by decide)
  have s211 : (u1 G0 211 R) 211 = R := u1_s _ _ _
  rw [s210] at a4 a5 a7 a8
  rw [s211] at a1 a4
  rw [s212] at a6
  have t210 : (u1 (u1 G0 211 (rcS R n 6)) 210 (upd (G0 210) 1 (nI (if n = 4 then 4 else n + 1)))) 210 = upd (G0 210) 1 (nI (if n = 4 then 4 else n + 1)) := u1_s _ _ _
  have t211 : (u1 (u1 G0 211 (rcS R n 6)) 210 (upd (G0 210) 1 (nI (if n = 4 then 4 else n + 1)))) 211 = rcS R n 6 := (u1_n (by decide)).trans (u1_s _ _ _)
  have t212 : (u1 (u1 G0 211 (rcS R n 6)) 210 (upd (G0 210) 1 (nI (if n = 4 then 4 else n + 1)))) 212 = G0 212 := (u1_n (by decide)).trans (u1_n (by decide))
  have r0 : REq R (rcS R n 6) := by
    have := rcS_oth (S := R) (n := n) (a := 6) (c := 0) hn4 (Or.inl rfl)
    rw [rw0, rw0] at this
    exact this
  have r5 : REq (rwS R 3060) (rwS (rcS R n 6) 3060) := rcS_oth (S := R) (n := n) (a := 6) (c := 5) hn4 (Or.inr (Or.inl (by decide)))
  refine ⟨by rw [t211]; exact Rep_req r0 (Rep_frame (fun k g1 g2 => f k (by omega)) a1), ⟨_, by rw [t210, upd_s], by rw [t211]; exact hH⟩, ?_, ⟨by rw [t210, upd_n (by decide), f 203 (by omega)]; exact a5, by rw [t212, f 204 (by omega)]; exact a6, by rw [t210, upd_n (by decide)]; exact a7⟩, ?_⟩
  · rw [t210, t211, upd_n (by decide), f 0 (by omega)]
    exact a4.imp_right (fun ⟨x, y, w⟩ => ⟨x, y, Rep_req r5 (Rep_frame (fun k g1 g2 => f k (by omega)) w)⟩)
  · rw [t210, upd_n (by decide), upd_n (by decide), f 0 (by omega)]
    exact a8
theorem Cls.n {G V : GG} {n : Nat} (h : Cls G V) (hn : V 210 1 = nI n) (hn4 : n ≤ 4) : HistR G (V 211) n := by
  obtain ⟨m, h1, h2⟩ := h.2.1
  obtain ⟨F, a1, a2, a3⟩ := h2
  have e : n = m := (nI_eq (by omega) (by omega)).mp (hn.symm.trans h1)
  subst e
  exact ⟨F, a1, a2, a3⟩
theorem type_C {G : GG} {n : Nat} {x : Int32} (hC : Cls G G) (hn : G 210 4 = nI n) (hn60 : n ≤ 60) : Cls (if n = 60 then G else u1 (u1 G 204 (upd (G 204) n x)) 203 (upd (G 203) 1 (nI (n + 1)))) (if n = 60 then G else u1 (u1 G 212 (upd (G 212) n x)) 210 (upd (G 210) 4 (nI (n + 1)))) := by
  by_cases h : n = 60
  · rw [if_pos h, if_pos h]
    exact hC
  · rw [if_neg h, if_neg h]
    obtain ⟨a1, ⟨m, a2, a3⟩, a4, ⟨a5, a6, a7⟩, a8⟩ := hC
    have s210 : (u1 (u1 G 212 (upd (G 212) n x)) 210 (upd (G 210) 4 (nI (n + 1)))) 210 = upd (G 210) 4 (nI (n + 1)) := u1_s _ _ _
    have s211 : (u1 (u1 G 212 (upd (G 212) n x)) 210 (upd (G 210) 4 (nI (n + 1)))) 211 = G 211 := (u1_n (by decide)).trans (u1_n (by decide))
    have s212 : (u1 (u1 G 212 (upd (G 212) n x)) 210 (upd (G 210) 4 (nI (n + 1)))) 212 = upd (G 212) n x := (u1_n (by decide)).trans (u1_s _ _ _)
    have e : ∀ k, k < 203 → (u1 (u1 G 204 (upd (G 204) n x)) 203 (upd (G 203) 1 (nI (n + 1)))) k = G k := fun k hk => (u1_n (by omega)).trans (u1_n (by omega))
    refine ⟨by rw [s211]; exact Rep_frame (fun k g1 g2 => e k (by omega)) a1, ⟨m, by rw [s210, upd_n (by decide)]; exact a2, by rw [s211]; exact a3.cg (fun k g1 g2 => e k (by omega)) (fun _ _ _ => rfl)⟩, ?_, ⟨by rw [s210, u1_s, upd_s, upd_s], by rw [s212, u1_n (by decide), u1_s, a6], ⟨n + 1, by omega, by rw [s210, upd_s]⟩⟩, ?_⟩
    · rw [s210, s211, upd_n (by decide), e 0 (by omega)]
      exact a4.imp_right (fun ⟨g1, g2, w⟩ => ⟨g1, g2, Rep_frame (fun k x1 x2 => e k (by omega)) w⟩)
    · rw [s210, upd_n (by decide), upd_n (by decide), e 0 (by omega)]
      exact a8
theorem clear_C {G : GG} (hC : Cls G G) : Cls (u1 G 203 (upd (G 203) 1 (nI 0))) (u1 G 210 (upd (G 210) 4 (nI 0))) := by
  obtain ⟨a1, ⟨m, a2, a3⟩, a4, ⟨a5, a6, a7⟩, a8⟩ := hC
  have s210 : (u1 G 210 (upd (G 210) 4 (nI 0))) 210 = upd (G 210) 4 (nI 0) := u1_s _ _ _
  have s211 : (u1 G 210 (upd (G 210) 4 (nI 0))) 211 = G 211 := u1_n (by decide)
  have s212 : (u1 G 210 (upd (G 210) 4 (nI 0))) 212 = G 212 := u1_n (by decide)
  have e : ∀ k, k ≠ 203 → (u1 G 203 (upd (G 203) 1 (nI 0))) k = G k := fun k hk => u1_n hk
  refine ⟨by rw [s211]; exact Rep_frame (fun k g1 g2 => e k (by omega)) a1, ⟨m, by rw [s210, upd_n (by decide)]; exact a2, by rw [s211]; exact a3.cg (fun k g1 g2 => e k (by omega)) (fun _ _ _ => rfl)⟩, ?_, ⟨by rw [s210, u1_s, upd_s, upd_s], by rw [s212, e 204 (by decide)]; exact a6, ⟨0, by omega, by rw [s210, upd_s]⟩⟩, ?_⟩
  · rw [s210, s211, upd_n (by decide), e 0 (by omega)]
    exact a4.imp_right (fun ⟨g1, g2, w⟩ => ⟨g1, g2, Rep_frame (fun k x1 x2 => e k (by omega)) w⟩)
  · rw [s210, upd_n (by decide), upd_n (by decide), e 0 (by omega)]
    exact a8
theorem undo_C {G uG : GG} {n : Nat} (hC : Cls G G) (hn0 : n ≠ 0) (hn4 : n ≤ 4) (f : ∀ k, k ≠ 101 → 25 ≤ k → uG k = G k) (f0 : uG 0 = G 0) (hH : HistR uG (G 211) (n - 1)) (hR : Rep uG 1 (rwS (G 211) (612 * n))) : Cls uG (u1 (u1 G 211 (cpS (G 211) n 0)) 210 (upd (G 210) 1 (nI (n - 1)))) := by
  obtain ⟨a1, -, a4, ⟨a5, a6, a7⟩, a8⟩ := hC
  have s210 : (u1 (u1 G 211 (cpS (G 211) n 0)) 210 (upd (G 210) 1 (nI (n - 1)))) 210 = upd (G 210) 1 (nI (n - 1)) := u1_s _ _ _
  have s211 : (u1 (u1 G 211 (cpS (G 211) n 0)) 210 (upd (G 210) 1 (nI (n - 1)))) 211 = cpS (G 211) n 0 := (u1_n (by decide)).trans (u1_s _ _ _)
  have s212 : (u1 (u1 G 211 (cpS (G 211) n 0)) 210 (upd (G 210) 1 (nI (n - 1)))) 212 = G 212 := (u1_n (by decide)).trans (u1_n (by decide))
  have hi : ∀ k, 612 ≤ k → cpS (G 211) n 0 k = G 211 k := fun k hk => by unfold cpS; rw [if_neg (by omega)]
  refine ⟨by rw [s211]; exact Rep_req (cpS_at0 (G 211) n) hR, ⟨n - 1, by rw [s210, upd_s], by rw [s211]; exact hH.cg (fun _ _ _ => rfl) (fun k g1 _ => hi k g1)⟩, ?_, ⟨by rw [s210, upd_n (by decide), f 203 (by decide) (by decide)]; exact a5, by rw [s212, f 204 (by decide) (by decide)]; exact a6, by rw [s210, upd_n (by decide)]; exact a7⟩, ?_⟩
  · rw [s210, s211, upd_n (by decide), f0]
    exact a4.imp_right (fun ⟨g1, g2, w⟩ => ⟨g1, g2, Rep_req (cpS_n (c := 5) (by decide)) (Rep_frame (fun k x1 x2 => f k (by omega) (by omega)) w)⟩)
  · rw [s210, upd_n (by decide), upd_n (by decide), f0]
    exact a8
theorem keep_C {G G1 : GG} (hC : Cls G G) (h : cpd G G1 76 1) : Cls (u1 G1 0 (upd (G1 0) 4 (nI 1))) (u1 (u1 G 211 (cpS (G 211) 0 5)) 210 (upd (G 210) 2 (nI 1))) := by
  obtain ⟨a1, ⟨m, a2, a3⟩, a4, ⟨a5, a6, a7⟩, a8⟩ := hC
  have s210 : (u1 (u1 G 211 (cpS (G 211) 0 5)) 210 (upd (G 210) 2 (nI 1))) 210 = upd (G 210) 2 (nI 1) := u1_s _ _ _
  have s211 : (u1 (u1 G 211 (cpS (G 211) 0 5)) 210 (upd (G 210) 2 (nI 1))) 211 = cpS (G 211) 0 5 := (u1_n (by decide)).trans (u1_s _ _ _)
  have s212 : (u1 (u1 G 211 (cpS (G 211) 0 5)) 210 (upd (G 210) 2 (nI 1))) 212 = G 212 := (u1_n (by decide)).trans (u1_n (by decide))
  have e : ∀ k, k ≠ 0 → (u1 G1 0 (upd (G1 0) 4 (nI 1))) k = G1 k := fun k hk => u1_n hk
  have f : ∀ k, (k < 76 ∨ 100 ≤ k) → G1 k = G k := fun k hk => h.1 k hk
  have lo : ∀ k, k < 3060 → cpS (G 211) 0 5 k = G 211 k := fun k hk => by unfold cpS; rw [if_neg (by omega)]
  refine ⟨by rw [s211]; exact Rep_req (fun k hk => lo k (by omega)) (Rep_frame (fun k g1 g2 => (e k (by omega)).trans (f k (by omega))) a1), ⟨m, by rw [s210, upd_n (by decide)]; exact a2, by rw [s211]; exact a3.cg (fun k g1 g2 => (e k (by omega)).trans (f k (by omega))) (fun k g1 g2 => lo k (by omega))⟩, ?_, ⟨by rw [s210, upd_n (by decide), e 203 (by decide), f 203 (by omega)]; exact a5, by rw [s212, e 204 (by decide), f 204 (by omega)]; exact a6, by rw [s210, upd_n (by decide)]; exact a7⟩, ?_⟩
  · rw [s210, s211, u1_s, upd_s, upd_s]
    exact Or.inr ⟨rfl, rfl, Rep_req (cpS_at1 (G 211) 5) (Rep_frame (fun k g1 g2 => e k (by omega)) (h.rep a1))⟩
  · rw [s210, u1_s, upd_n (by decide), upd_n (by decide), upd_n (by decide), upd_n (by decide), f 0 (by omega)]
    exact a8
theorem rcS_cg {S R : Nat → Int32} {n a b : Nat} (hn : n ≤ 4) (ha : a = 0 ∨ a = 6) (hb : b = 0 ∨ b = 6) (h : ∀ c, 1 ≤ c → c ≤ 5 → REq (rwS S (612 * c)) (rwS R (612 * c))) (hab : REq (rwS S (612 * a)) (rwS R (612 * b))) (c : Nat) (h1 : 1 ≤ c) (h5 : c ≤ 5) : REq (rwS (rcS S n a) (612 * c)) (rwS (rcS R n b) (612 * c)) := by
  by_cases e : c = if n = 4 then 4 else n + 1
  · rw [e]
    exact ((rcS_hi (S := S) hn ha).sy.tr hab).tr (rcS_hi (S := R) hn hb)
  · by_cases h4 : n = 4
    · subst h4
      rw [if_pos rfl] at e
      by_cases g : c = 5
      · subst g
        exact ((rcS_oth (S := S) (a := a) hn (Or.inr (Or.inl (by decide)))).sy.tr (h 5 (by decide) (by decide))).tr (rcS_oth (S := R) (a := b) hn (Or.inr (Or.inl (by decide))))
      · obtain ⟨j, rfl⟩ : ∃ j, c = j + 1 := ⟨c - 1, by omega⟩
        exact ((rcS_lo (S := S) (a := a) (j := j) (by omega)).sy.tr (h (j + 2) (by omega) (by omega))).tr (rcS_lo (S := R) (a := b) (j := j) (by omega))
    · rw [if_neg h4] at e
      exact ((rcS_oth (S := S) (a := a) hn (by omega)).sy.tr (h c h1 h5)).tr (rcS_oth (S := R) (a := b) hn (by omega))
theorem rest_S (S : Nat → Int32) {n : Nat} (hn : n ≤ 4) : ∀ k, k < 3672 → cpS (rcS S n 0) 5 0 k = rcS (cpS (cpS S 0 6) 5 0) n 6 k := by
  intro k hk
  obtain ⟨c, j, hj, hc, rfl⟩ : ∃ c j, j < 612 ∧ c ≤ 5 ∧ k = 612 * c + j := ⟨k / 612, k % 612, by omega, by omega, by omega⟩
  have key : REq (rwS (cpS (rcS S n 0) 5 0) (612 * c)) (rwS (rcS (cpS (cpS S 0 6) 5 0) n 6) (612 * c)) := by
    by_cases h0 : c = 0
    · subst h0
      have x1 : REq (rwS (rcS S n 0) (612 * 5)) (rwS (cpS (rcS S n 0) 5 0) (612 * 0)) := cpS_at _ 5 0
      have x2 : REq (rwS S (612 * 5)) (rwS (rcS S n 0) (612 * 5)) := rcS_oth hn (Or.inr (Or.inl (by decide)))
      have x3 : REq (rwS (cpS S 0 6) (612 * 5)) (rwS (cpS (cpS S 0 6) 5 0) (612 * 0)) := cpS_at _ 5 0
      have x4 : REq (rwS S (612 * 5)) (rwS (cpS S 0 6) (612 * 5)) := cpS_n (by decide)
      have x5 : REq (rwS (cpS (cpS S 0 6) 5 0) (612 * 0)) (rwS (rcS (cpS (cpS S 0 6) 5 0) n 6) (612 * 0)) := rcS_oth hn (Or.inl rfl)
      exact (x2.tr x1).sy.tr ((x4.tr x3).tr x5)
    · have y1 : REq (rwS (rcS S n 0) (612 * c)) (rwS (cpS (rcS S n 0) 5 0) (612 * c)) := cpS_n h0
      refine y1.sy.tr (rcS_cg hn (Or.inl rfl) (Or.inr rfl) (fun d d1 d5 => ?_) ?_ c (by omega) hc)
      · exact (cpS_n (S := S) (a := 0) (b := 6) (by omega)).tr (cpS_n (by omega))
      · have z1 : REq (rwS S (612 * 0)) (rwS (cpS S 0 6) (612 * 6)) := cpS_at S 0 6
        exact z1.tr (cpS_n (by decide))
  exact (key j hj).symm
set_option maxHeartbeats 4000000 in
set_option maxRecDepth 100000 in
theorem c_X7_recorded (l : Launch) (J : JJ) (z : Nat) (ad : Nat → Nat) (G : GG) (G0 : GG) (R : Nat → Int32) (n : Nat) (hn : G0 210 1 = nI n) (hn4 : n ≤ 4) (hC : Cls G (u1 G0 211 R)) (h6 : Rep G 26 (rwS R 3672)) (a : Int32) : MI l J z ad yX7_recorded cX7_recorded 2 .int 4 [.ref (ad 0), .int a] G (fun ans uG => ans = a ∧ (∀ k, 203 ≤ k → uG k = G k) ∧ Cls uG (actG G0 n a R)) := by
  refine MI.go (by decide) (Nat.le_of_ble_eq_true rfl) ?_
  intro pr e s m args below meth c ls Q X h hl hret
  have hx := X.1
  have hb := X.2.1
  have hown := X.2.2.2.1
  have hts := X.2.2.2.2
  have hl : lv_has ls 2 [(0, .ref (ad 0)), (1, .int a)] := hl
  refine lv_iload_n hx hb dX7_recorded_0 rfl (lv_at hl 1 rfl) ?_
  refine lv_if_lt (tgt := 15) hx hb dX7_recorded_1 (by decide) (fun c_1 => ?_) (fun c_1 => ?_)
  · refine lv_iload_n hx hb dX7_recorded_15 rfl (lv_at hl 1 rfl) ?_
    exact hret a G _ _ 16 _ (⟨rfl, fun _ _ => rfl, by unfold actG; rw [if_neg (Int32.not_le.mpr c_1)]; exact hC⟩) h dX7_recorded_16
  · refine lv_aload_n hx hb dX7_recorded_4 rfl (lv_at hl 0 rfl) ?_
    refine fg_X7_28 X h dX7_recorded_5 ?_
    refine lv_aload_n hx hb dX7_recorded_8 rfl (lv_at hl 0 rfl) ?_
    refine fg_X7_16 X h dX7_recorded_9 ?_
    have hH : HistR G R n := by
      have := Cls.n hC ((congrFun (u1_n (by decide)) 1).trans hn) hn4
      rw [u1_s] at this
      exact this
    refine rg_cvv (As := [.ref (ad 26)]) (rest := []) X hl.1 h (c_X0_remember l J z ad G R n hH h6) mw_165 mw_166 mw_167 mw_21 mw_168 pdX0_remember (by decide) (xo_101 J ad _) rfl rfl ⟨Nat.le_of_ble_eq_true rfl, Nat.le_of_ble_eq_true rfl⟩ ⟨Nat.le_of_ble_eq_true rfl, Nat.le_of_ble_eq_true rfl⟩ rfl (Nat.le_of_ble_eq_true rfl) dX7_recorded_12 (fun G1 H locs q1 h => ?_)
    refine lv_iload_n hx hb dX7_recorded_15 rfl (lv_at hl 1 rfl) ?_
    exact hret a G1 _ _ 16 _ (⟨rfl, fun k hk => q1.1 k (by omega), by unfold actG; rw [if_pos (Int32.not_lt.mp c_1)]; exact Cls_rec hC q1.1 q1.2 hn4⟩) h dX7_recorded_16
set_option maxHeartbeats 4000000 in
set_option maxRecDepth 100000 in
theorem c_X7_come (l : Launch) (J : JJ) (z : Nat) (ad : Nat → Nat) (G : GG) (n : Nat) (hn : G 210 1 = nI n) (hn4 : n ≤ 4) (hC : Cls G G) (x w : Int32) : MI l J z ad yX7_come cX7_come 3 .int 5 [.ref (ad 0), .int x, .int w] G (fun ans uG => PubP G (cmA (cpS (G 211) 0 6) x w) (actG G n (cmA (cpS (G 211) 0 6) x w) (cmR (cpS (G 211) 0 6) x w)) ans uG) := by
  refine MI.go (by decide) (Nat.le_of_ble_eq_true rfl) ?_
  intro pr e s m args below meth c ls Q X h hl hret
  have hx := X.1
  have hb := X.2.1
  have hown := X.2.2.2.1
  have hts := X.2.2.2.2
  have hl : lv_has ls 3 [(0, .ref (ad 0)), (1, .int x), (2, .int w)] := hl
  refine lv_aload_n hx hb dX7_come_0 rfl (lv_at hl 0 rfl) ?_
  refine fg_X7_16 X h dX7_come_1 ?_
  refine lv_aload_n hx hb dX7_come_4 rfl (lv_at hl 0 rfl) ?_
  refine fg_X7_12 X h dX7_come_5 ?_
  refine rg_cvv (As := [.ref (ad 1)]) (rest := []) X hl.1 h (c_X5_copyFrom l J z ad G 26 1 isB_26 isB_1 (by omega)) mw_116 mw_117 mw_118 mw_14 mw_119 pdX5_copyFrom (isB_26.lt (c := 0) (by decide)) (so_0 isB_26 J ad _) rfl rfl ⟨Nat.le_of_ble_eq_true rfl, Nat.le_of_ble_eq_true rfl⟩ ⟨Nat.le_of_ble_eq_true rfl, Nat.le_of_ble_eq_true rfl⟩ rfl (Nat.le_of_ble_eq_true rfl) dX7_come_8 (fun G1 H locs q1 h => ?_)
  refine lv_aload_n hx hb dX7_come_11 rfl (lv_at hl 0 rfl) ?_
  refine lv_aload_n hx hb dX7_come_12 rfl (lv_at hl 0 rfl) ?_
  refine fg_X7_12 X h dX7_come_13 ?_
  refine lv_iload_n hx hb dX7_come_16 rfl (lv_at hl 1 rfl) ?_
  refine lv_iload_n hx hb dX7_come_17 rfl (lv_at hl 2 rfl) ?_
  have hR1 : Rep G1 1 (cpS (G 211) 0 6) := Rep_req (cpS_0 (G 211) (by decide)) (Rep_frame (fun k a b => q1.1 k (by omega)) hC.1)
  have hW1 : WR (cpS (G 211) 0 6) := req_WR (cpS_0 (G 211) (by decide)) hC.1.1.1
  refine rg_civ (As := [.int x, .int w]) (rest := [.ref (ad 0)]) X hl.1 h (c_X5_addDrone l J z ad G1 1 isB_1 (cpS (G 211) 0 6) hR1 x w) mw_150 mw_151 mw_152 mw_14 mw_153 pdX5_addDrone (isB_1.lt (c := 0) (by decide)) (so_0 isB_1 J ad _) rfl rfl ⟨Nat.le_of_ble_eq_true rfl, Nat.le_of_ble_eq_true rfl⟩ ⟨Nat.le_of_ble_eq_true rfl, Nat.le_of_ble_eq_true rfl⟩ rfl (Nat.le_of_ble_eq_true rfl) dX7_come_18 (fun r2 G2 H locs q2 h => ?_)
  obtain ⟨ra, hf2, hR2⟩ := q2
  have hA := Cls_act hC q1 hf2 hR2 (cmR_hi hW1 x w)
  refine lv_as (y := cmA (cpS (G 211) 0 6) x w) ra ?_
  refine rg_civ (As := [.int (cmA (cpS (G 211) 0 6) x w)]) (rest := []) X hl.1 h (c_X7_recorded l J z ad G2 G (cmR (cpS (G 211) 0 6) x w) n hn hn4 hA.1 hA.2 (cmA (cpS (G 211) 0 6) x w)) mw_161 mw_162 mw_163 mw_2 mw_164 pdX7_recorded (by decide) (xo_0 J ad _) rfl rfl ⟨Nat.le_of_ble_eq_true rfl, Nat.le_of_ble_eq_true rfl⟩ ⟨Nat.le_of_ble_eq_true rfl, Nat.le_of_ble_eq_true rfl⟩ rfl (Nat.le_of_ble_eq_true rfl) dX7_come_21 (fun r3 G3 H locs q3 h => ?_)
  exact hret r3 G3 _ _ 24 _ (⟨q3.1, fun k hk => (q3.2.1 k (by omega)).trans ((hf2 k (by omega)).trans (q1.1 k (by omega))), q3.2.2⟩) h dX7_come_24
set_option maxHeartbeats 4000000 in
set_option maxRecDepth 100000 in
theorem c_X7_move (l : Launch) (J : JJ) (z : Nat) (ad : Nat → Nat) (G : GG) (n : Nat) (hn : G 210 1 = nI n) (hn4 : n ≤ 4) (hC : Cls G G) (d x : Int32) : MI l J z ad yX7_move cX7_move 3 .int 5 [.ref (ad 0), .int d, .int x] G (fun ans uG => PubP G (mvA (cpS (G 211) 0 6) d x) (actG G n (mvA (cpS (G 211) 0 6) d x) (mvR (cpS (G 211) 0 6) d x)) ans uG) := by
  refine MI.go (by decide) (Nat.le_of_ble_eq_true rfl) ?_
  intro pr e s m args below meth c ls Q X h hl hret
  have hx := X.1
  have hb := X.2.1
  have hown := X.2.2.2.1
  have hts := X.2.2.2.2
  have hl : lv_has ls 3 [(0, .ref (ad 0)), (1, .int d), (2, .int x)] := hl
  refine lv_aload_n hx hb dX7_move_0 rfl (lv_at hl 0 rfl) ?_
  refine fg_X7_16 X h dX7_move_1 ?_
  refine lv_aload_n hx hb dX7_move_4 rfl (lv_at hl 0 rfl) ?_
  refine fg_X7_12 X h dX7_move_5 ?_
  refine rg_cvv (As := [.ref (ad 1)]) (rest := []) X hl.1 h (c_X5_copyFrom l J z ad G 26 1 isB_26 isB_1 (by omega)) mw_116 mw_117 mw_118 mw_14 mw_119 pdX5_copyFrom (isB_26.lt (c := 0) (by decide)) (so_0 isB_26 J ad _) rfl rfl ⟨Nat.le_of_ble_eq_true rfl, Nat.le_of_ble_eq_true rfl⟩ ⟨Nat.le_of_ble_eq_true rfl, Nat.le_of_ble_eq_true rfl⟩ rfl (Nat.le_of_ble_eq_true rfl) dX7_move_8 (fun G1 H locs q1 h => ?_)
  refine lv_aload_n hx hb dX7_move_11 rfl (lv_at hl 0 rfl) ?_
  refine lv_aload_n hx hb dX7_move_12 rfl (lv_at hl 0 rfl) ?_
  refine fg_X7_12 X h dX7_move_13 ?_
  refine lv_iload_n hx hb dX7_move_16 rfl (lv_at hl 1 rfl) ?_
  refine lv_iload_n hx hb dX7_move_17 rfl (lv_at hl 2 rfl) ?_
  have hR1 : Rep G1 1 (cpS (G 211) 0 6) := Rep_req (cpS_0 (G 211) (by decide)) (Rep_frame (fun k a b => q1.1 k (by omega)) hC.1)
  have hW1 : WR (cpS (G 211) 0 6) := req_WR (cpS_0 (G 211) (by decide)) hC.1.1.1
  refine rg_civ (As := [.int d, .int x]) (rest := [.ref (ad 0)]) X hl.1 h (c_X5_moveDrone l J z ad G1 1 isB_1 (cpS (G 211) 0 6) hR1 d x) mw_206 mw_207 mw_208 mw_14 mw_209 pdX5_moveDrone (isB_1.lt (c := 0) (by decide)) (so_0 isB_1 J ad _) rfl rfl ⟨Nat.le_of_ble_eq_true rfl, Nat.le_of_ble_eq_true rfl⟩ ⟨Nat.le_of_ble_eq_true rfl, Nat.le_of_ble_eq_true rfl⟩ rfl (Nat.le_of_ble_eq_true rfl) dX7_move_18 (fun r2 G2 H locs q2 h => ?_)
  obtain ⟨ra, hf2, hR2⟩ := q2
  have hA := Cls_act hC q1 hf2 hR2 (mvR_hi hW1 d x)
  refine lv_as (y := mvA (cpS (G 211) 0 6) d x) ra ?_
  refine rg_civ (As := [.int (mvA (cpS (G 211) 0 6) d x)]) (rest := []) X hl.1 h (c_X7_recorded l J z ad G2 G (mvR (cpS (G 211) 0 6) d x) n hn hn4 hA.1 hA.2 (mvA (cpS (G 211) 0 6) d x)) mw_161 mw_162 mw_163 mw_2 mw_164 pdX7_recorded (by decide) (xo_0 J ad _) rfl rfl ⟨Nat.le_of_ble_eq_true rfl, Nat.le_of_ble_eq_true rfl⟩ ⟨Nat.le_of_ble_eq_true rfl, Nat.le_of_ble_eq_true rfl⟩ rfl (Nat.le_of_ble_eq_true rfl) dX7_move_21 (fun r3 G3 H locs q3 h => ?_)
  exact hret r3 G3 _ _ 24 _ (⟨q3.1, fun k hk => (q3.2.1 k (by omega)).trans ((hf2 k (by omega)).trans (q1.1 k (by omega))), q3.2.2⟩) h dX7_move_24
set_option maxHeartbeats 4000000 in
set_option maxRecDepth 100000 in
theorem c_X7_petition (l : Launch) (J : JJ) (z : Nat) (ad : Nat → Nat) (G : GG) (n : Nat) (hn : G 210 1 = nI n) (hn4 : n ≤ 4) (hC : Cls G G) (d x g k : Int32) : MI l J z ad yX7_petition cX7_petition 5 .int 5 [.ref (ad 0), .int d, .int x, .int g, .int k] G (fun ans uG => PubP G (ptA (cpS (G 211) 0 6) d x g k) (actG G n (ptA (cpS (G 211) 0 6) d x g k) (ptR (cpS (G 211) 0 6) d x g k)) ans uG) := by
  refine MI.go (by decide) (Nat.le_of_ble_eq_true rfl) ?_
  intro pr e s m args below meth c ls Q X h hl hret
  have hx := X.1
  have hb := X.2.1
  have hown := X.2.2.2.1
  have hts := X.2.2.2.2
  have hl : lv_has ls 5 [(0, .ref (ad 0)), (1, .int d), (2, .int x), (3, .int g), (4, .int k)] := hl
  refine lv_aload_n hx hb dX7_petition_0 rfl (lv_at hl 0 rfl) ?_
  refine fg_X7_16 X h dX7_petition_1 ?_
  refine lv_aload_n hx hb dX7_petition_4 rfl (lv_at hl 0 rfl) ?_
  refine fg_X7_12 X h dX7_petition_5 ?_
  refine rg_cvv (As := [.ref (ad 1)]) (rest := []) X hl.1 h (c_X5_copyFrom l J z ad G 26 1 isB_26 isB_1 (by omega)) mw_116 mw_117 mw_118 mw_14 mw_119 pdX5_copyFrom (isB_26.lt (c := 0) (by decide)) (so_0 isB_26 J ad _) rfl rfl ⟨Nat.le_of_ble_eq_true rfl, Nat.le_of_ble_eq_true rfl⟩ ⟨Nat.le_of_ble_eq_true rfl, Nat.le_of_ble_eq_true rfl⟩ rfl (Nat.le_of_ble_eq_true rfl) dX7_petition_8 (fun G1 H locs q1 h => ?_)
  refine lv_aload_n hx hb dX7_petition_11 rfl (lv_at hl 0 rfl) ?_
  refine lv_aload_n hx hb dX7_petition_12 rfl (lv_at hl 0 rfl) ?_
  refine fg_X7_12 X h dX7_petition_13 ?_
  refine lv_iload_n hx hb dX7_petition_16 rfl (lv_at hl 1 rfl) ?_
  refine lv_iload_n hx hb dX7_petition_17 rfl (lv_at hl 2 rfl) ?_
  refine lv_iload_n hx hb dX7_petition_18 rfl (lv_at hl 3 rfl) ?_
  refine lv_iload hx hb dX7_petition_19 (lv_at hl 4 rfl) ?_
  have hR1 : Rep G1 1 (cpS (G 211) 0 6) := Rep_req (cpS_0 (G 211) (by decide)) (Rep_frame (fun k a b => q1.1 k (by omega)) hC.1)
  have hW1 : WR (cpS (G 211) 0 6) := req_WR (cpS_0 (G 211) (by decide)) hC.1.1.1
  refine rg_civ (As := [.int d, .int x, .int g, .int k]) (rest := [.ref (ad 0)]) X hl.1 h (c_X5_addPetition l J z ad G1 1 isB_1 (cpS (G 211) 0 6) hR1 d x g k) mw_231 mw_232 mw_233 mw_14 mw_234 pdX5_addPetition (isB_1.lt (c := 0) (by decide)) (so_0 isB_1 J ad _) rfl rfl ⟨Nat.le_of_ble_eq_true rfl, Nat.le_of_ble_eq_true rfl⟩ ⟨Nat.le_of_ble_eq_true rfl, Nat.le_of_ble_eq_true rfl⟩ rfl (Nat.le_of_ble_eq_true rfl) dX7_petition_21 (fun r2 G2 H locs q2 h => ?_)
  obtain ⟨ra, hf2, hR2⟩ := q2
  have hA := Cls_act hC q1 hf2 hR2 (ptR_hi hW1 d x g k)
  refine lv_as (y := ptA (cpS (G 211) 0 6) d x g k) ra ?_
  refine rg_civ (As := [.int (ptA (cpS (G 211) 0 6) d x g k)]) (rest := []) X hl.1 h (c_X7_recorded l J z ad G2 G (ptR (cpS (G 211) 0 6) d x g k) n hn hn4 hA.1 hA.2 (ptA (cpS (G 211) 0 6) d x g k)) mw_161 mw_162 mw_163 mw_2 mw_164 pdX7_recorded (by decide) (xo_0 J ad _) rfl rfl ⟨Nat.le_of_ble_eq_true rfl, Nat.le_of_ble_eq_true rfl⟩ ⟨Nat.le_of_ble_eq_true rfl, Nat.le_of_ble_eq_true rfl⟩ rfl (Nat.le_of_ble_eq_true rfl) dX7_petition_24 (fun r3 G3 H locs q3 h => ?_)
  exact hret r3 G3 _ _ 27 _ (⟨q3.1, fun k hk => (q3.2.1 k (by omega)).trans ((hf2 k (by omega)).trans (q1.1 k (by omega))), q3.2.2⟩) h dX7_petition_27
set_option maxHeartbeats 4000000 in
set_option maxRecDepth 100000 in
theorem c_X7_second (l : Launch) (J : JJ) (z : Nat) (ad : Nat → Nat) (G : GG) (n : Nat) (hn : G 210 1 = nI n) (hn4 : n ≤ 4) (hC : Cls G G) (d q : Int32) : MI l J z ad yX7_second cX7_second 3 .int 5 [.ref (ad 0), .int d, .int q] G (fun ans uG => PubP G (scA (cpS (G 211) 0 6) d q) (actG G n (scA (cpS (G 211) 0 6) d q) (scR (cpS (G 211) 0 6) d q)) ans uG) := by
  refine MI.go (by decide) (Nat.le_of_ble_eq_true rfl) ?_
  intro pr e s m args below meth c ls Q X h hl hret
  have hx := X.1
  have hb := X.2.1
  have hown := X.2.2.2.1
  have hts := X.2.2.2.2
  have hl : lv_has ls 3 [(0, .ref (ad 0)), (1, .int d), (2, .int q)] := hl
  refine lv_aload_n hx hb dX7_second_0 rfl (lv_at hl 0 rfl) ?_
  refine fg_X7_16 X h dX7_second_1 ?_
  refine lv_aload_n hx hb dX7_second_4 rfl (lv_at hl 0 rfl) ?_
  refine fg_X7_12 X h dX7_second_5 ?_
  refine rg_cvv (As := [.ref (ad 1)]) (rest := []) X hl.1 h (c_X5_copyFrom l J z ad G 26 1 isB_26 isB_1 (by omega)) mw_116 mw_117 mw_118 mw_14 mw_119 pdX5_copyFrom (isB_26.lt (c := 0) (by decide)) (so_0 isB_26 J ad _) rfl rfl ⟨Nat.le_of_ble_eq_true rfl, Nat.le_of_ble_eq_true rfl⟩ ⟨Nat.le_of_ble_eq_true rfl, Nat.le_of_ble_eq_true rfl⟩ rfl (Nat.le_of_ble_eq_true rfl) dX7_second_8 (fun G1 H locs q1 h => ?_)
  refine lv_aload_n hx hb dX7_second_11 rfl (lv_at hl 0 rfl) ?_
  refine lv_aload_n hx hb dX7_second_12 rfl (lv_at hl 0 rfl) ?_
  refine fg_X7_12 X h dX7_second_13 ?_
  refine lv_iload_n hx hb dX7_second_16 rfl (lv_at hl 1 rfl) ?_
  refine lv_iload_n hx hb dX7_second_17 rfl (lv_at hl 2 rfl) ?_
  have hR1 : Rep G1 1 (cpS (G 211) 0 6) := Rep_req (cpS_0 (G 211) (by decide)) (Rep_frame (fun k a b => q1.1 k (by omega)) hC.1)
  have hW1 : WR (cpS (G 211) 0 6) := req_WR (cpS_0 (G 211) (by decide)) hC.1.1.1
  refine rg_civ (As := [.int d, .int q]) (rest := [.ref (ad 0)]) X hl.1 h (c_X5_addSeconder l J z ad G1 1 isB_1 (cpS (G 211) 0 6) hR1 d q) mw_268 mw_269 mw_270 mw_14 mw_271 pdX5_addSeconder (isB_1.lt (c := 0) (by decide)) (so_0 isB_1 J ad _) rfl rfl ⟨Nat.le_of_ble_eq_true rfl, Nat.le_of_ble_eq_true rfl⟩ ⟨Nat.le_of_ble_eq_true rfl, Nat.le_of_ble_eq_true rfl⟩ rfl (Nat.le_of_ble_eq_true rfl) dX7_second_18 (fun r2 G2 H locs q2 h => ?_)
  obtain ⟨ra, hf2, hR2⟩ := q2
  have hA := Cls_act hC q1 hf2 hR2 (scR_hi hW1 d q)
  refine lv_as (y := scA (cpS (G 211) 0 6) d q) ra ?_
  refine rg_civ (As := [.int (scA (cpS (G 211) 0 6) d q)]) (rest := []) X hl.1 h (c_X7_recorded l J z ad G2 G (scR (cpS (G 211) 0 6) d q) n hn hn4 hA.1 hA.2 (scA (cpS (G 211) 0 6) d q)) mw_161 mw_162 mw_163 mw_2 mw_164 pdX7_recorded (by decide) (xo_0 J ad _) rfl rfl ⟨Nat.le_of_ble_eq_true rfl, Nat.le_of_ble_eq_true rfl⟩ ⟨Nat.le_of_ble_eq_true rfl, Nat.le_of_ble_eq_true rfl⟩ rfl (Nat.le_of_ble_eq_true rfl) dX7_second_21 (fun r3 G3 H locs q3 h => ?_)
  exact hret r3 G3 _ _ 24 _ (⟨q3.1, fun k hk => (q3.2.1 k (by omega)).trans ((hf2 k (by omega)).trans (q1.1 k (by omega))), q3.2.2⟩) h dX7_second_24
set_option maxHeartbeats 4000000 in
set_option maxRecDepth 100000 in
theorem c_X7_pass (l : Launch) (J : JJ) (z : Nat) (ad : Nat → Nat) (G : GG) (n : Nat) (hn : G 210 1 = nI n) (hn4 : n ≤ 4) (hC : Cls G G) (t : Int32) : MI l J z ad yX7_pass cX7_pass 2 .int 5 [.ref (ad 0), .int t] G (fun ans uG => PubP G (edA (cpS (G 211) 0 6) t) (actG G n (edA (cpS (G 211) 0 6) t) (edR (cpS (G 211) 0 6) t)) ans uG) := by
  refine MI.go (by decide) (Nat.le_of_ble_eq_true rfl) ?_
  intro pr e s m args below meth c ls Q X h hl hret
  have hx := X.1
  have hb := X.2.1
  have hown := X.2.2.2.1
  have hts := X.2.2.2.2
  have hl : lv_has ls 2 [(0, .ref (ad 0)), (1, .int t)] := hl
  refine lv_aload_n hx hb dX7_pass_0 rfl (lv_at hl 0 rfl) ?_
  refine fg_X7_16 X h dX7_pass_1 ?_
  refine lv_aload_n hx hb dX7_pass_4 rfl (lv_at hl 0 rfl) ?_
  refine fg_X7_12 X h dX7_pass_5 ?_
  refine rg_cvv (As := [.ref (ad 1)]) (rest := []) X hl.1 h (c_X5_copyFrom l J z ad G 26 1 isB_26 isB_1 (by omega)) mw_116 mw_117 mw_118 mw_14 mw_119 pdX5_copyFrom (isB_26.lt (c := 0) (by decide)) (so_0 isB_26 J ad _) rfl rfl ⟨Nat.le_of_ble_eq_true rfl, Nat.le_of_ble_eq_true rfl⟩ ⟨Nat.le_of_ble_eq_true rfl, Nat.le_of_ble_eq_true rfl⟩ rfl (Nat.le_of_ble_eq_true rfl) dX7_pass_8 (fun G1 H locs q1 h => ?_)
  refine lv_aload_n hx hb dX7_pass_11 rfl (lv_at hl 0 rfl) ?_
  refine lv_aload_n hx hb dX7_pass_12 rfl (lv_at hl 0 rfl) ?_
  refine fg_X7_12 X h dX7_pass_13 ?_
  refine lv_iload_n hx hb dX7_pass_16 rfl (lv_at hl 1 rfl) ?_
  have hR1 : Rep G1 1 (cpS (G 211) 0 6) := Rep_req (cpS_0 (G 211) (by decide)) (Rep_frame (fun k a b => q1.1 k (by omega)) hC.1)
  have hW1 : WR (cpS (G 211) 0 6) := req_WR (cpS_0 (G 211) (by decide)) hC.1.1.1
  refine rg_civ (As := [.int t]) (rest := [.ref (ad 0)]) X hl.1 h (c_X5_endDays l J z ad G1 1 isB_1 (cpS (G 211) 0 6) hR1 t) mw_299 mw_300 mw_301 mw_14 mw_302 pdX5_endDays (isB_1.lt (c := 0) (by decide)) (so_0 isB_1 J ad _) rfl rfl ⟨Nat.le_of_ble_eq_true rfl, Nat.le_of_ble_eq_true rfl⟩ ⟨Nat.le_of_ble_eq_true rfl, Nat.le_of_ble_eq_true rfl⟩ rfl (Nat.le_of_ble_eq_true rfl) dX7_pass_17 (fun r2 G2 H locs q2 h => ?_)
  obtain ⟨ra, hf2, hR2⟩ := q2
  have hA := Cls_act hC q1 hf2 hR2 (edR_hi hW1 t)
  refine lv_as (y := edA (cpS (G 211) 0 6) t) ra ?_
  refine rg_civ (As := [.int (edA (cpS (G 211) 0 6) t)]) (rest := []) X hl.1 h (c_X7_recorded l J z ad G2 G (edR (cpS (G 211) 0 6) t) n hn hn4 hA.1 hA.2 (edA (cpS (G 211) 0 6) t)) mw_161 mw_162 mw_163 mw_2 mw_164 pdX7_recorded (by decide) (xo_0 J ad _) rfl rfl ⟨Nat.le_of_ble_eq_true rfl, Nat.le_of_ble_eq_true rfl⟩ ⟨Nat.le_of_ble_eq_true rfl, Nat.le_of_ble_eq_true rfl⟩ rfl (Nat.le_of_ble_eq_true rfl) dX7_pass_20 (fun r3 G3 H locs q3 h => ?_)
  exact hret r3 G3 _ _ 23 _ (⟨q3.1, fun k hk => (q3.2.1 k (by omega)).trans ((hf2 k (by omega)).trans (q1.1 k (by omega))), q3.2.2⟩) h dX7_pass_23
set_option maxHeartbeats 4000000 in
set_option maxRecDepth 100000 in
theorem c_X7_set (l : Launch) (J : JJ) (z : Nat) (ad : Nat → Nat) (G : GG) (n : Nat) (hn : G 210 1 = nI n) (hn4 : n ≤ 4) (hC : Cls G G) (x v : Int32) : MI l J z ad yX7_set cX7_set 3 .int 5 [.ref (ad 0), .int x, .int v] G (fun ans uG => PubP G (stA (cpS (G 211) 0 6) x v) (actG G n (stA (cpS (G 211) 0 6) x v) (stR (cpS (G 211) 0 6) x v)) ans uG) := by
  refine MI.go (by decide) (Nat.le_of_ble_eq_true rfl) ?_
  intro pr e s m args below meth c ls Q X h hl hret
  have hx := X.1
  have hb := X.2.1
  have hown := X.2.2.2.1
  have hts := X.2.2.2.2
  have hl : lv_has ls 3 [(0, .ref (ad 0)), (1, .int x), (2, .int v)] := hl
  refine lv_aload_n hx hb dX7_set_0 rfl (lv_at hl 0 rfl) ?_
  refine fg_X7_16 X h dX7_set_1 ?_
  refine lv_aload_n hx hb dX7_set_4 rfl (lv_at hl 0 rfl) ?_
  refine fg_X7_12 X h dX7_set_5 ?_
  refine rg_cvv (As := [.ref (ad 1)]) (rest := []) X hl.1 h (c_X5_copyFrom l J z ad G 26 1 isB_26 isB_1 (by omega)) mw_116 mw_117 mw_118 mw_14 mw_119 pdX5_copyFrom (isB_26.lt (c := 0) (by decide)) (so_0 isB_26 J ad _) rfl rfl ⟨Nat.le_of_ble_eq_true rfl, Nat.le_of_ble_eq_true rfl⟩ ⟨Nat.le_of_ble_eq_true rfl, Nat.le_of_ble_eq_true rfl⟩ rfl (Nat.le_of_ble_eq_true rfl) dX7_set_8 (fun G1 H locs q1 h => ?_)
  refine lv_aload_n hx hb dX7_set_11 rfl (lv_at hl 0 rfl) ?_
  refine lv_aload_n hx hb dX7_set_12 rfl (lv_at hl 0 rfl) ?_
  refine fg_X7_12 X h dX7_set_13 ?_
  refine lv_iload_n hx hb dX7_set_16 rfl (lv_at hl 1 rfl) ?_
  refine lv_iload_n hx hb dX7_set_17 rfl (lv_at hl 2 rfl) ?_
  have hR1 : Rep G1 1 (cpS (G 211) 0 6) := Rep_req (cpS_0 (G 211) (by decide)) (Rep_frame (fun k a b => q1.1 k (by omega)) hC.1)
  have hW1 : WR (cpS (G 211) 0 6) := req_WR (cpS_0 (G 211) (by decide)) hC.1.1.1
  refine rg_civ (As := [.int x, .int v]) (rest := [.ref (ad 0)]) X hl.1 h (c_X5_changeSetting l J z ad G1 1 isB_1 (cpS (G 211) 0 6) hR1 x v) mw_408 mw_409 mw_410 mw_14 mw_411 pdX5_changeSetting (isB_1.lt (c := 0) (by decide)) (so_0 isB_1 J ad _) rfl rfl ⟨Nat.le_of_ble_eq_true rfl, Nat.le_of_ble_eq_true rfl⟩ ⟨Nat.le_of_ble_eq_true rfl, Nat.le_of_ble_eq_true rfl⟩ rfl (Nat.le_of_ble_eq_true rfl) dX7_set_18 (fun r2 G2 H locs q2 h => ?_)
  obtain ⟨ra, hf2, hR2⟩ := q2
  have hA := Cls_act hC q1 hf2 hR2 (stR_hi hW1 x v)
  refine lv_as (y := stA (cpS (G 211) 0 6) x v) ra ?_
  refine rg_civ (As := [.int (stA (cpS (G 211) 0 6) x v)]) (rest := []) X hl.1 h (c_X7_recorded l J z ad G2 G (stR (cpS (G 211) 0 6) x v) n hn hn4 hA.1 hA.2 (stA (cpS (G 211) 0 6) x v)) mw_161 mw_162 mw_163 mw_2 mw_164 pdX7_recorded (by decide) (xo_0 J ad _) rfl rfl ⟨Nat.le_of_ble_eq_true rfl, Nat.le_of_ble_eq_true rfl⟩ ⟨Nat.le_of_ble_eq_true rfl, Nat.le_of_ble_eq_true rfl⟩ rfl (Nat.le_of_ble_eq_true rfl) dX7_set_21 (fun r3 G3 H locs q3 h => ?_)
  exact hret r3 G3 _ _ 24 _ (⟨q3.1, fun k hk => (q3.2.1 k (by omega)).trans ((hf2 k (by omega)).trans (q1.1 k (by omega))), q3.2.2⟩) h dX7_set_24
set_option maxHeartbeats 4000000 in
set_option maxRecDepth 100000 in
theorem c_X7_type (l : Launch) (J : JJ) (z : Nat) (ad : Nat → Nat) (G : GG) (n : Nat) (hn : G 210 4 = nI n) (hn60 : n ≤ 60) (hC : Cls G G) (x : Int32) (hxc : vp_nar .char x = x) : MI l J z ad yX7_type cX7_type 2 .int 1 [.ref (ad 0), .int x] G (fun ans uG => PubP G (if n = 60 then (-3) else nI (n + 1)) (if n = 60 then G else u1 (u1 G 212 (upd (G 212) n x)) 210 (upd (G 210) 4 (nI (n + 1)))) ans uG) := by
  refine MI.go (by decide) (Nat.le_of_ble_eq_true rfl) ?_
  intro pr e s m args below meth c ls Q X h hl hret
  have hx := X.1
  have hb := X.2.1
  have hown := X.2.2.2.1
  have hts := X.2.2.2.2
  have hl : lv_has ls 2 [(0, .ref (ad 0)), (1, .int x)] := hl
  refine lv_aload_n hx hb dX7_type_0 rfl (lv_at hl 0 rfl) ?_
  refine fg_X7_35 X h dX7_type_1 ?_
  refine lv_iload_n hx hb dX7_type_4 rfl (lv_at hl 1 rfl) ?_
  refine rg_civd (As := [.int x]) (rest := []) X hl.1 h (c_X2_append l J z ad G n (hC.2.2.2.1.1.trans hn) hn60 x hxc) mw_424 mw_425 mw_426 mw_25 mw_427 pdX2_append (by decide) (xo_203 J ad _) rfl rfl ⟨Nat.le_of_ble_eq_true rfl, Nat.le_of_ble_eq_true rfl⟩ ⟨Nat.le_of_ble_eq_true rfl, Nat.le_of_ble_eq_true rfl⟩ rfl (Nat.le_of_ble_eq_true rfl) dX7_type_5 (fun H locs h => ?_)
  exact hret (if n = 60 then (-3) else nI (n + 1)) (if n = 60 then G else u1 (u1 G 204 (upd (G 204) n x)) 203 (upd (G 203) 1 (nI (n + 1)))) _ _ 8 _ (⟨rfl, fun k hk => by split; rfl; rw [u1_n (by omega), u1_n (by omega)], type_C hC hn hn60⟩) h dX7_type_8
set_option maxHeartbeats 4000000 in
set_option maxRecDepth 100000 in
theorem c_X7_clearText (l : Launch) (J : JJ) (z : Nat) (ad : Nat → Nat) (G : GG) (hC : Cls G G) : MI l J z ad yX7_clearText cX7_clearText 1 .int 1 [.ref (ad 0)] G (fun ans uG => PubP G (G 210 4) (u1 G 210 (upd (G 210) 4 (nI 0))) ans uG) := by
  refine MI.go (by decide) (Nat.le_of_ble_eq_true rfl) ?_
  intro pr e s m args below meth c ls Q X h hl hret
  have hx := X.1
  have hb := X.2.1
  have hown := X.2.2.2.1
  have hts := X.2.2.2.2
  have hl : lv_has ls 1 [(0, .ref (ad 0))] := hl
  refine lv_aload_n hx hb dX7_clearText_0 rfl (lv_at hl 0 rfl) ?_
  refine fg_X7_35 X h dX7_clearText_1 ?_
  refine rg_civd (As := []) (rest := []) X hl.1 h (c_X2_empty l J z ad G) mw_438 mw_439 mw_440 mw_25 mw_441 pdX2_empty (by decide) (xo_203 J ad _) rfl rfl ⟨Nat.le_of_ble_eq_true rfl, Nat.le_of_ble_eq_true rfl⟩ ⟨Nat.le_of_ble_eq_true rfl, Nat.le_of_ble_eq_true rfl⟩ rfl (Nat.le_of_ble_eq_true rfl) dX7_clearText_4 (fun H locs h => ?_)
  exact hret (G 203 1) (u1 G 203 (upd (G 203) 1 (nI 0))) _ _ 7 _ (⟨hC.2.2.2.1.1, fun k hk => u1_n (by omega), clear_C hC⟩) h dX7_clearText_7
set_option maxHeartbeats 4000000 in
set_option maxRecDepth 100000 in
theorem c_X7_undo (l : Launch) (J : JJ) (z : Nat) (ad : Nat → Nat) (G : GG) (n : Nat) (hn : G 210 1 = nI n) (hn4 : n ≤ 4) (hC : Cls G G)  : MI l J z ad yX7_undo cX7_undo 1 .int 4 [.ref (ad 0)] G (fun ans uG => PubP G (if n = 0 then (-5) else nI (n - 1)) (if n = 0 then G else u1 (u1 G 211 (cpS (G 211) n 0)) 210 (upd (G 210) 1 (nI (n - 1)))) ans uG) := by
  refine MI.go (by decide) (Nat.le_of_ble_eq_true rfl) ?_
  intro pr e s m args below meth c ls Q X h hl hret
  have hx := X.1
  have hb := X.2.1
  have hown := X.2.2.2.1
  have hts := X.2.2.2.2
  have hl : lv_has ls 1 [(0, .ref (ad 0))] := hl
  refine lv_aload_n hx hb dX7_undo_0 rfl (lv_at hl 0 rfl) ?_
  refine fg_X7_28 X h dX7_undo_1 ?_
  refine lv_aload_n hx hb dX7_undo_4 rfl (lv_at hl 0 rfl) ?_
  refine fg_X7_12 X h dX7_undo_5 ?_
  refine rg_civ (As := [.ref (ad 1)]) (rest := []) X hl.1 h (c_X0_takeBack l J z ad G (G 211) n (Cls.n hC hn hn4)) mw_546 mw_547 mw_548 mw_21 mw_549 pdX0_takeBack (by decide) (xo_101 J ad _) rfl rfl ⟨Nat.le_of_ble_eq_true rfl, Nat.le_of_ble_eq_true rfl⟩ ⟨Nat.le_of_ble_eq_true rfl, Nat.le_of_ble_eq_true rfl⟩ rfl (Nat.le_of_ble_eq_true rfl) dX7_undo_8 (fun r1 G1 H locs q1 h => ?_)
  obtain ⟨b1, b2, b3⟩ := q1
  exact hret r1 G1 _ _ 11 _ ((by by_cases h0 : n = 0; exact ⟨b1, fun k hk => by rw [b2 h0], by rw [if_pos h0, b2 h0]; exact hC⟩; exact ⟨b1, fun k hk => (b3 h0).1 k (by omega) (by omega), by rw [if_neg h0]; exact undo_C hC h0 hn4 (b3 h0).1 (b3 h0).2.1 (b3 h0).2.2.1 (b3 h0).2.2.2⟩)) h dX7_undo_11
set_option maxHeartbeats 4000000 in
set_option maxRecDepth 100000 in
theorem c_X7_keep (l : Launch) (J : JJ) (z : Nat) (ad : Nat → Nat) (G : GG) (hC : Cls G G) : MI l J z ad yX7_keep cX7_keep 1 .int 3 [.ref (ad 0)] G (fun ans uG => PubP G (nI (cnt (LW (G 211)) 140)) (u1 (u1 G 211 (cpS (G 211) 0 5)) 210 (upd (G 210) 2 (nI 1))) ans uG) := by
  refine MI.go (by decide) (Nat.le_of_ble_eq_true rfl) ?_
  intro pr e s m args below meth c ls Q X h hl hret
  have hx := X.1
  have hb := X.2.1
  have hown := X.2.2.2.1
  have hts := X.2.2.2.2
  have hl : lv_has ls 1 [(0, .ref (ad 0))] := hl
  refine lv_aload_n hx hb dX7_keep_0 rfl (lv_at hl 0 rfl) ?_
  refine fg_X7_22 X h dX7_keep_1 ?_
  refine lv_aload_n hx hb dX7_keep_4 rfl (lv_at hl 0 rfl) ?_
  refine fg_X7_12 X h dX7_keep_5 ?_
  refine rg_cvv (As := [.ref (ad 1)]) (rest := []) X hl.1 h (c_X5_copyFrom l J z ad G 76 1 isB_76 isB_1 (by omega)) mw_116 mw_117 mw_118 mw_14 mw_119 pdX5_copyFrom (isB_76.lt (c := 0) (by decide)) (so_0 isB_76 J ad _) rfl rfl ⟨Nat.le_of_ble_eq_true rfl, Nat.le_of_ble_eq_true rfl⟩ ⟨Nat.le_of_ble_eq_true rfl, Nat.le_of_ble_eq_true rfl⟩ rfl (Nat.le_of_ble_eq_true rfl) dX7_keep_8 (fun G1 H locs q1 h => ?_)
  refine lv_aload_n hx hb dX7_keep_11 rfl (lv_at hl 0 rfl) ?_
  refine lv_iconst (v := nI 1) hx hb dX7_keep_12 (by decide) ?_
  refine fp_X7_95 X h (by decide) (by decide) dX7_keep_13 (fun H locs h => ?_)
  refine lv_aload_n hx hb dX7_keep_16 rfl (lv_at hl 0 rfl) ?_
  refine fg_X7_12 X h dX7_keep_17 ?_
  refine fg_X7_99 isB_1 X h dX7_keep_20 ?_
  have hR1 : Rep (u1 G1 0 (upd (G1 0) 4 (nI 1))) 1 (G 211) := Rep_frame (fun k a b => (u1_n (by omega)).trans (q1.1 k (by omega))) hC.1
  refine rg_civd (As := []) (rest := []) X hl.1 h (c_X1_size l J z ad (u1 G1 0 (upd (G1 0) 4 (nI 1))) 1 isB_1 (G 211) hR1) mw_560 mw_561 mw_562 mw_37 mw_563 pdX1_size (isB_1.lt (by decide)) (so_7 isB_1 J ad _) rfl rfl ⟨Nat.le_of_ble_eq_true rfl, Nat.le_of_ble_eq_true rfl⟩ ⟨Nat.le_of_ble_eq_true rfl, Nat.le_of_ble_eq_true rfl⟩ rfl (Nat.le_of_ble_eq_true rfl) dX7_keep_23 (fun H locs h => ?_)
  exact hret (nI ((cnt (LW (G 211)) 140))) (u1 G1 0 (upd (G1 0) 4 (nI 1))) _ _ 26 _ (⟨rfl, fun k hk => (u1_n (by omega)).trans (q1.1 k (by omega)), keep_C hC q1⟩) h dX7_keep_26
set_option maxHeartbeats 4000000 in
set_option maxRecDepth 100000 in
theorem c_X7_restore (l : Launch) (J : JJ) (z : Nat) (ad : Nat → Nat) (G : GG) (n : Nat) (hn : G 210 1 = nI n) (hn4 : n ≤ 4) (hC : Cls G G)  : MI l J z ad yX7_restore cX7_restore 1 .int 5 [.ref (ad 0)] G (fun ans uG => PubP G (if G 210 2 = 0 then (-5) else nI (cnt (LW (rwS (G 211) 3060)) 140)) (if G 210 2 = 0 then G else u1 (u1 G 211 (cpS (rcS (G 211) n 0) 5 0)) 210 (upd (G 210) 1 (nI (if n = 4 then 4 else n + 1)))) ans uG) := by
  refine MI.go (by decide) (Nat.le_of_ble_eq_true rfl) ?_
  intro pr e s m args below meth c ls Q X h hl hret
  have hx := X.1
  have hb := X.2.1
  have hown := X.2.2.2.1
  have hts := X.2.2.2.2
  have hl : lv_has ls 1 [(0, .ref (ad 0))] := hl
  have hsn : (G 0 4 = 0 ∧ G 210 2 = 0) ∨ (G 0 4 ≠ 0 ∧ G 210 2 ≠ 0 ∧ Rep G 76 (rwS (G 211) 3060)) := by
    rcases hC.2.2.1 with ⟨a, b⟩ | ⟨a, b, d⟩
    · exact Or.inl ⟨a, b⟩
    · exact Or.inr ⟨fun q => by rw [a] at q; exact absurd q (by decide), fun q => by rw [b] at q; exact absurd q (by decide), d⟩
  refine lv_aload_n hx hb dX7_restore_0 rfl (lv_at hl 0 rfl) ?_
  refine fg_X7_95 X h dX7_restore_1 ?_
  refine lv_if_ne (tgt := 10) hx hb dX7_restore_4 (by decide) (fun c_4 => ?_) (fun c_4 => ?_)
  · obtain ⟨h2n, hR76⟩ : G 210 2 ≠ 0 ∧ Rep G 76 (rwS (G 211) 3060) := by
      rcases hsn with ⟨a, -⟩ | ⟨-, b⟩
      · exact absurd a c_4
      · exact b
    refine lv_aload_n hx hb dX7_restore_10 rfl (lv_at hl 0 rfl) ?_
    refine fg_X7_16 X h dX7_restore_11 ?_
    refine lv_aload_n hx hb dX7_restore_14 rfl (lv_at hl 0 rfl) ?_
    refine fg_X7_12 X h dX7_restore_15 ?_
    refine rg_cvv (As := [.ref (ad 1)]) (rest := []) X hl.1 h (c_X5_copyFrom l J z ad G 26 1 isB_26 isB_1 (by omega)) mw_116 mw_117 mw_118 mw_14 mw_119 pdX5_copyFrom (isB_26.lt (c := 0) (by decide)) (so_0 isB_26 J ad _) rfl rfl ⟨Nat.le_of_ble_eq_true rfl, Nat.le_of_ble_eq_true rfl⟩ ⟨Nat.le_of_ble_eq_true rfl, Nat.le_of_ble_eq_true rfl⟩ rfl (Nat.le_of_ble_eq_true rfl) dX7_restore_18 (fun G1 H locs q1 h => ?_)
    refine lv_aload_n hx hb dX7_restore_21 rfl (lv_at hl 0 rfl) ?_
    refine fg_X7_12 X h dX7_restore_22 ?_
    refine lv_aload_n hx hb dX7_restore_25 rfl (lv_at hl 0 rfl) ?_
    refine fg_X7_22 X h dX7_restore_26 ?_
    refine rg_cvv (As := [.ref (ad 76)]) (rest := []) X hl.1 h (c_X5_copyFrom l J z ad G1 1 76 isB_1 isB_76 (by omega)) mw_116 mw_117 mw_118 mw_14 mw_119 pdX5_copyFrom (isB_1.lt (c := 0) (by decide)) (so_0 isB_1 J ad _) rfl rfl ⟨Nat.le_of_ble_eq_true rfl, Nat.le_of_ble_eq_true rfl⟩ ⟨Nat.le_of_ble_eq_true rfl, Nat.le_of_ble_eq_true rfl⟩ rfl (Nat.le_of_ble_eq_true rfl) dX7_restore_29 (fun G2 H locs q2 h => ?_)
    refine lv_aload_n hx hb dX7_restore_32 rfl (lv_at hl 0 rfl) ?_
    refine lv_aload_n hx hb dX7_restore_33 rfl (lv_at hl 0 rfl) ?_
    refine fg_X7_12 X h dX7_restore_34 ?_
    refine fg_X7_99 isB_1 X h dX7_restore_37 ?_
    have hR2 : Rep G2 1 (rwS (G 211) 3060) := q2.rep (Rep_frame (fun k a b => q1.1 k (by omega)) hR76)
    have hR2x : Rep G2 1 (cpS (cpS (G 211) 0 6) 5 0) := Rep_req ((cpS_n (S := G 211) (a := 0) (b := 6) (c := 5) (by decide)).tr (cpS_at0 _ 5)) hR2
    have hA := Cls_act hC q1 (fun k hk => q2.1 k (by omega)) hR2x (fun k hk => by show cpS (cpS (G 211) 0 6) 5 0 k = _; rw [cpS]; exact if_neg (by omega))
    refine rg_civd (As := []) (rest := [.ref (ad 0)]) X hl.1 h (c_X1_size l J z ad G2 1 isB_1 (rwS (G 211) 3060) hR2) mw_560 mw_561 mw_562 mw_37 mw_563 pdX1_size (isB_1.lt (by decide)) (so_7 isB_1 J ad _) rfl rfl ⟨Nat.le_of_ble_eq_true rfl, Nat.le_of_ble_eq_true rfl⟩ ⟨Nat.le_of_ble_eq_true rfl, Nat.le_of_ble_eq_true rfl⟩ rfl (Nat.le_of_ble_eq_true rfl) dX7_restore_40 (fun H locs h => ?_)
    refine rg_civ (As := [.int (nI ((cnt (LW (rwS (G 211) 3060)) 140)))]) (rest := []) X hl.1 h (c_X7_recorded l J z ad G2 G (cpS (cpS (G 211) 0 6) 5 0) n hn hn4 hA.1 hA.2 (nI (cnt (LW (rwS (G 211) 3060)) 140))) mw_161 mw_162 mw_163 mw_2 mw_164 pdX7_recorded (by decide) (xo_0 J ad _) rfl rfl ⟨Nat.le_of_ble_eq_true rfl, Nat.le_of_ble_eq_true rfl⟩ ⟨Nat.le_of_ble_eq_true rfl, Nat.le_of_ble_eq_true rfl⟩ rfl (Nat.le_of_ble_eq_true rfl) dX7_restore_43 (fun r3 G3 H locs q3 h => ?_)
    have hle := cnt_le (LW (rwS (G 211) 3060)) 140
    obtain ⟨b1, b2, b3⟩ := q3
    unfold actG at b3
    rw [if_pos (nI_pos' (by omega))] at b3
    exact hret r3 G3 _ _ 46 _ (⟨by rw [if_neg h2n]; exact b1, fun k hk => (b2 k (by omega)).trans ((q2.1 k (by omega)).trans (q1.1 k (by omega))), by rw [if_neg h2n]; exact b3.mv (fun _ _ => rfl) (fun j hj => by rw [u1_s, u1_s]) (by rw [u1_n (by decide), u1_n (by decide), u1_n (by decide), u1_n (by decide)]) (fun k hk => by rw [u1_n (by decide), u1_s, u1_n (by decide), u1_s]; exact rest_S (G 211) hn4 k hk)⟩) h dX7_restore_46
  · have h2z : G 210 2 = 0 := by
      rcases hsn with ⟨-, a⟩ | ⟨a, -⟩
      · exact a
      · exact absurd c_4 a
    refine lv_bipush (v := (-5)) hx hb dX7_restore_7 (by decide) ?_
    exact hret (-5) G _ _ 9 _ (⟨by rw [if_pos h2z], fun _ _ => rfl, by rw [if_pos h2z]; exact hC⟩) h dX7_restore_9
set_option maxHeartbeats 4000000 in
set_option maxRecDepth 100000 in
theorem c_X7_stopped (l : Launch) (J : JJ) (z : Nat) (ad : Nat → Nat) (G : GG) (hC : Cls G G) (x : Int32) : MI l J z ad yX7_stopped cX7_stopped 2 .int 0 [.ref (ad 0), .int x] G (fun ans uG => ans = (cif (inN x 0 1) (if x = 0 then G 210 5 else G 210 6) (-2)) ∧ uG = (G)) := by
  refine MI.go (by decide) (Nat.le_of_ble_eq_true rfl) ?_
  intro pr e s m args below meth c ls Q X h hl hret
  have hx := X.1
  have hb := X.2.1
  have hown := X.2.2.2.1
  have hts := X.2.2.2.2
  have hl : lv_has ls 2 [(0, .ref (ad 0)), (1, .int x)] := hl
  have hst := hC.2.2.2.2
  refine lv_iload_n hx hb dX7_stopped_0 rfl (lv_at hl 1 rfl) ?_
  refine lv_if_lt (tgt := 9) hx hb dX7_stopped_1 (by decide) (fun c_1 => ?_) (fun c_1 => ?_)
  · refine lv_bipush (v := (-2)) hx hb dX7_stopped_9 (by decide) ?_
    exact hret (-2) G _ _ 11 _ (⟨by rw [cif_f (fun q => by have q2 := (inN_iff (by omega) (by omega)).mpr q; first | exact Int32.not_lt.mpr q2.1 c_1 | exact c_6 q2.2)], rfl⟩) h dX7_stopped_11
  · refine lv_iload_n hx hb dX7_stopped_4 rfl (lv_at hl 1 rfl) ?_
    refine lv_iconst (v := nI 1) hx hb dX7_stopped_5 (by decide) ?_
    refine lv_icmp_le (tgt := 12) hx hb dX7_stopped_6 (by decide) (fun c_6 => ?_) (fun c_6 => ?_)
    · have hx1 : inN x 0 1 := (inN_iff (by omega) (by omega)).mp ⟨Int32.not_lt.mp c_1, c_6⟩
      refine lv_aload_n hx hb dX7_stopped_12 rfl (lv_at hl 0 rfl) ?_
      refine fg_X7_88 X h dX7_stopped_13 ?_
      refine lv_if_ne (tgt := 22) hx hb dX7_stopped_16 (by decide) (fun c_16 => ?_) (fun c_16 => ?_)
      · refine lv_iload_n hx hb dX7_stopped_22 rfl (lv_at hl 1 rfl) ?_
        refine lv_if_ne (tgt := 33) hx hb dX7_stopped_23 (by decide) (fun c_23 => ?_) (fun c_23 => ?_)
        · refine lv_aload_n hx hb dX7_stopped_33 rfl (lv_at hl 0 rfl) ?_
          refine fg_X7_88 X h dX7_stopped_34 ?_
          exact hret (G 0 8) G _ _ 37 _ (⟨by rw [cif_t hx1, if_neg c_23]; rcases hst with ⟨a1, -⟩ | ⟨-, -, a2⟩; exact absurd a1 c_16; exact a2.symm, rfl⟩) h dX7_stopped_37
        · refine lv_aload_n hx hb dX7_stopped_26 rfl (lv_at hl 0 rfl) ?_
          refine fg_X7_85 X h dX7_stopped_27 ?_
          refine lv_goto (tgt := 37) hx hb dX7_stopped_30 (by decide) ?_
          exact hret (G 0 7) G _ _ 37 _ (⟨by rw [cif_t hx1, if_pos c_23]; rcases hst with ⟨a1, -⟩ | ⟨-, a2, -⟩; exact absurd a1 c_16; exact a2.symm, rfl⟩) h dX7_stopped_37
      · refine lv_bipush (v := (-5)) hx hb dX7_stopped_19 (by decide) ?_
        exact hret (-5) G _ _ 21 _ (⟨by rw [cif_t hx1]; rcases hst with ⟨a1, a2, a3⟩ | ⟨a1, -⟩; rw [a2, a3, ite_self]; exact absurd c_16 a1, rfl⟩) h dX7_stopped_21
    · refine lv_bipush (v := (-2)) hx hb dX7_stopped_9 (by decide) ?_
      exact hret (-2) G _ _ 11 _ (⟨by rw [cif_f (fun q => by have q2 := (inN_iff (by omega) (by omega)).mpr q; first | exact Int32.not_lt.mpr q2.1 c_1 | exact c_6 q2.2)], rfl⟩) h dX7_stopped_11
