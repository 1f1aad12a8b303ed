/-! THE CLASS: a petition is granted, a hearing -/
theorem psr_RI {r : Nat → Int32} (h : RI r) (q : Nat) (v : Int32) : RI (psr r q v) :=
  RI_of h (psr_law r q v 5 (by omega) (by omega)) (psr_law r q v 6 (by omega) (by omega)) (psr_law r q v 11 (by omega) (by omega)) (fun k a c _ => psr_law r q v k (by omega) (by omega)) (fun d hd => psr_law r q v _ (by omega) (by omega)) (fun d hd => psr_law r q v _ (by omega) (by omega))
theorem Rep_ps {G uG : GG} {b : Nat} {r : Nat → Int32} (hR : Rep G b r) {q : Nat} (hq : q < mn r) {v : Int32} (hv : 0 < v) (f : ∀ c, c ≠ 0 → c ≠ 8 → c ≠ 9 → c ≠ 10 → uG (b + c) = G (b + c)) (f5 : ∀ j, j ≠ 8 → uG b j = G b j) (f0 : uG b 8 = G b 8 + b2 (pk r q = 2)) (f8 : ∀ j, j ≠ 20 * (pc r q) + (pg r q) → uG (b + 8) j = G (b + 8) j) (f9 : ∀ j, j ≠ 20 * (pc r q) + (pg r q) → uG (b + 9) j = G (b + 9) j) (f10 : ∀ j, j ≠ 20 * (pc r q) + (pg r q) → uG (b + 10) j = G (b + 10) j)
    (hk : (pk r q = 2 ∧ uG (b + 9) (20 * (pc r q) + (pg r q)) = nI 0) ∨ (pk r q ≠ 2 ∧ uG (b + 8) (20 * (pc r q) + (pg r q)) = nI (pk r q) ∧ uG (b + 9) (20 * (pc r q) + (pg r q)) = v ∧ uG (b + 10) (20 * (pc r q) + (pg r q)) = r 3)) : Rep uG b (psr r q v) := by
  obtain ⟨hI, hS, hL, hP, hQ, hV, hBt⟩ := hR
  have hIy := psr_RI hI q v
  obtain ⟨⟨w1, w2⟩, ⟨w3, w4⟩, ⟨w5, w6⟩, w7, w8⟩ := hI.1
  obtain ⟨v1, v2, v3, v4, v5, v6, v7, v8⟩ := w7 q hq
  have hla := psr_law r q v
  have es : ∀ t, t < mn r → supp (psr r q v) t = supp r t := fun t ht => hla.supp hI.1 ht
  obtain ⟨y, hy⟩ : ∃ y, y = psr r q v := ⟨_, rfl⟩
  rw [← hy] at hIy hla es ⊢
  unfold psr at hy
  have hn : ∀ k, k ≠ 10 → k ≠ 60 * (pc r q) + 3 * (pg r q) + 192 → k ≠ 60 * (pc r q) + 3 * (pg r q) + 193 → k ≠ 60 * (pc r q) + 3 * (pg r q) + 194 → y k = r k := fun k a1 a2 a3 a4 => by rw [hy, upd_n a1, upd_n a4, upd_n a3, upd_n a2]
  have y10 : y 10 = r 10 + b2 (pk r q = 2) := by rw [hy, upd_s]
  have z0 : y (60 * (pc r q) + 3 * (pg r q) + 192) = if pk r q = 2 then (-5) else nI (pk r q) := by rw [hy, upd_n (by omega), upd_n (by omega), upd_n (by omega), upd_s]
  have z1 : y (60 * (pc r q) + 3 * (pg r q) + 193) = v := by rw [hy, upd_n (by omega), upd_n (by omega), upd_s]
  have z2 : y (60 * (pc r q) + 3 * (pg r q) + 194) = r 3 := by rw [hy, upd_n (by omega), upd_s]
  have e1 : kn y = kn r := by unfold kn; rw [hla 5 (by omega) (by omega)]
  have e2 : mn y = mn r := by unfold mn; rw [hla 6 (by omega) (by omega)]
  have e3 : on y = on r := by unfold on; rw [hla 11 (by omega) (by omega)]
  refine ⟨hIy, ⟨?_, fun d hd => ?_, fun d h1 h2 => ?_, ?_, ?_, ?_⟩, fun k hk1 => ?_, ⟨?_, fun t ht => ?_⟩, ⟨?_, fun k hk => ?_⟩, ⟨?_, ?_, ?_, ?_, ?_, ?_⟩, fun t ht d h1 h2 => ?_⟩
  · rw [f 1 (by omega) (by omega) (by omega) (by omega), hla 5 (by omega) (by omega)]; exact hS.1
  · rw [e1] at hd
    rw [f 2 (by omega) (by omega) (by omega) (by omega), f 3 (by omega) (by omega) (by omega) (by omega), f 4 (by omega) (by omega) (by omega) (by omega), f 5 (by omega) (by omega) (by omega) (by omega), f 6 (by omega) (by omega) (by omega) (by omega), hla _ (by omega) (by omega), hla _ (by omega) (by omega), hla _ (by omega) (by omega), hla _ (by omega) (by omega), hla _ (by omega) (by omega)]
    exact hS.2.1 d hd
  · rw [e1] at h1
    rw [f 4 (by omega) (by omega) (by omega) (by omega), f 5 (by omega) (by omega) (by omega) (by omega), f 6 (by omega) (by omega) (by omega) (by omega)]
    exact hS.2.2.1 d h1 h2
  · rw [f 4 (by omega) (by omega) (by omega) (by omega), hla 7 (by omega) (by omega)]; exact hS.2.2.2.1
  · rw [f 5 (by omega) (by omega) (by omega) (by omega), hla 8 (by omega) (by omega)]; exact hS.2.2.2.2.1
  · rw [f 6 (by omega) (by omega) (by omega) (by omega), hla 9 (by omega) (by omega)]; exact hS.2.2.2.2.2
  · by_cases e : k = 20 * (pc r q) + (pg r q)
    · rw [show 3 * k + 192 = 60 * (pc r q) + 3 * (pg r q) + 192 by omega, show 3 * k + 193 = 60 * (pc r q) + 3 * (pg r q) + 193 by omega, show 3 * k + 194 = 60 * (pc r q) + 3 * (pg r q) + 194 by omega, e, z0, z1, z2]
      rcases hk with ⟨a1, a2⟩ | ⟨a1, a2, a3, a4⟩
      · rw [if_pos a1]
        exact Or.inl ⟨rfl, a2⟩
      · rw [if_neg a1]
        refine Or.inr ⟨fun x => nI_n5 (by omega) x, a2, ?_, a3, hv, a4⟩
        rcases (show pk r q = 0 ∨ pk r q = 1 by omega) with g | g <;> rw [g]
        · exact Or.inl rfl
        · exact Or.inr rfl
    · rw [f8 k e, f9 k e, f10 k e, hn (3 * k + 192) (by omega) (by omega) (by omega) (by omega), hn (3 * k + 193) (by omega) (by omega) (by omega) (by omega), hn (3 * k + 194) (by omega) (by omega) (by omega) (by omega)]
      exact hL k hk1
  · rw [f 11 (by omega) (by omega) (by omega) (by omega), hla 6 (by omega) (by omega)]; exact hP.1
  · rw [e2] at ht
    rw [f 12 (by omega) (by omega) (by omega) (by omega), f 13 (by omega) (by omega) (by omega) (by omega), f 14 (by omega) (by omega) (by omega) (by omega), f 15 (by omega) (by omega) (by omega) (by omega), f 16 (by omega) (by omega) (by omega) (by omega), f 17 (by omega) (by omega) (by omega) (by omega), es t ht, hla _ (by omega) (by omega), hla _ (by omega) (by omega), hla _ (by omega) (by omega), hla _ (by omega) (by omega), hla _ (by omega) (by omega)]
    exact hP.2 t ht
  · rw [f 18 (by omega) (by omega) (by omega) (by omega), hla 11 (by omega) (by omega)]; exact hQ.1
  · rw [e3] at hk
    rw [f 19 (by omega) (by omega) (by omega) (by omega), f 20 (by omega) (by omega) (by omega) (by omega), f 21 (by omega) (by omega) (by omega) (by omega), f 22 (by omega) (by omega) (by omega) (by omega), hla _ (by omega) (by omega), hla _ (by omega) (by omega), hla _ (by omega) (by omega), hla _ (by omega) (by omega)]
    exact hQ.2 k hk
  · rw [f 23 (by omega) (by omega) (by omega) (by omega), hla 0 (by omega) (by omega)]; exact hV.1
  · rw [f 23 (by omega) (by omega) (by omega) (by omega), hla 1 (by omega) (by omega)]; exact hV.2.1
  · rw [f5 5 (by omega), hla 2 (by omega) (by omega)]; exact hV.2.2.1
  · rw [f5 6 (by omega), hla 3 (by omega) (by omega)]; exact hV.2.2.2.1
  · rw [f5 7 (by omega), hla 4 (by omega) (by omega)]; exact hV.2.2.2.2.1
  · rw [f0, y10, hV.2.2.2.2.2]
  · rw [e2] at ht
    rw [e1] at h1
    rw [hla _ (by omega) (by omega)]
    exact hBt t ht d h1 h2
set_option maxHeartbeats 4000000 in
set_option maxRecDepth 100000 in
theorem c_X5_grant (l : Launch) (J : JJ) (z : ZZ) (ad : Nat → Nat) (G : GG) (b : Nat) (hB : IsB b) (r : Nat → Int32) (hR : Rep G b r) (q : Nat) (hq : q < mn r) : MV l J z ad yX5_grant cX5_grant 3 0 [.ref (ad b), .int (nI q)] G (fun uG => frm G uG b ∧ uG (b + 24) = G (b + 24) ∧ Rep uG b (psr r q (supp r q))) := by
  refine MV.go (by decide) (Nat.le_of_ble_eq_true rfl) ?_
  intro pr e s m args below meth c ls Q X h hl hret
  have hx := X.1
  have hb := X.2.1
  have hown := X.2.2.2.1
  have hts := X.2.2.2.2
  have hl : lv_has ls 3 [(0, .ref (ad b)), (1, .int (nI q))] := hl
  have hR0 := hR
  obtain ⟨hI, hS, hL, hP, hQ, hV, hBt⟩ := hR
  have hW := hI.1
  obtain ⟨⟨w1, w2⟩, ⟨w3, w4⟩, ⟨w5, w6⟩, w7, w8⟩ := hI.1
  have k1 : G (b + 1) 0 = nI (kn r) := hS.1.trans w1
  have k2 : G (b + 11) 0 = nI (mn r) := hP.1.trans w3
  have k3 : G (b + 18) 0 = nI (on r) := hQ.1.trans w5
  obtain ⟨v1, v2, v3, v4, v5, v6, v7, v8⟩ := w7 q hq
  have hpq := hP.2 q hq
  refine lv_aload_n hx hb dX5_grant_0 rfl (lv_at hl 0 rfl) ?_
  refine fg_X5_28 hB X h dX5_grant_1 ?_
  refine fg_X5_149 hB X h dX5_grant_4 ?_
  refine lv_iload_n hx hb dX5_grant_7 rfl (lv_at hl 1 rfl) ?_
  refine rg_ild X h (b + 13) (hB.lt (by decide)) (sa_13 hB J ad) (q) rfl (by omega) (by decide) dX5_grant_8 ?_
  refine lv_as (y := nI ((pc r q))) (hpq.2.1.trans v3) ?_
  refine lv_bipush (v := nI 20) hx hb dX5_grant_9 (by decide) ?_
  refine lv_imul hx hb dX5_grant_11 ?_
  refine lv_as (y := nI (20 * (pc r q))) (nI_mulc (by omega)) ?_
  refine lv_aload_n hx hb dX5_grant_12 rfl (lv_at hl 0 rfl) ?_
  refine fg_X5_28 hB X h dX5_grant_13 ?_
  refine fg_X5_152 hB X h dX5_grant_16 ?_
  refine lv_iload_n hx hb dX5_grant_19 rfl (lv_at hl 1 rfl) ?_
  refine rg_ild X h (b + 14) (hB.lt (by decide)) (sa_14 hB J ad) (q) rfl (by omega) (by decide) dX5_grant_20 ?_
  refine lv_as (y := nI ((pg r q))) (hpq.2.2.1.trans v5) ?_
  refine lv_iadd hx hb dX5_grant_21 ?_
  refine lv_as (y := nI (20 * (pc r q) + (pg r q))) (nI_addc (by omega)) ?_
  refine lv_istore_n (lv' := [(2, .int (nI (20 * (pc r q) + (pg r q)))), (0, .ref (ad b)), (1, .int (nI q))]) hx hb dX5_grant_22 rfl hl (by decide) rfl (fun ls hl => ?_)
  refine lv_aload_n hx hb dX5_grant_23 rfl (lv_at hl 1 rfl) ?_
  refine fg_X5_28 hB X h dX5_grant_24 ?_
  refine fg_X5_155 hB X h dX5_grant_27 ?_
  refine lv_iload_n hx hb dX5_grant_30 rfl (lv_at hl 2 rfl) ?_
  refine rg_ild X h (b + 15) (hB.lt (by decide)) (sa_15 hB J ad) (q) rfl (by omega) (by decide) dX5_grant_31 ?_
  refine lv_as (y := nI ((pk r q))) (hpq.2.2.2.1.trans v7) ?_
  refine lv_iconst (v := nI 2) hx hb dX5_grant_32 (by decide) ?_
  refine lv_icmp_ne (tgt := 59) hx hb dX5_grant_33 (by decide) (fun c_33 => ?_) (fun c_33 => ?_)
  · rw [nI_eq (by omega) (by omega)] at c_33
    refine lv_aload_n hx hb dX5_grant_59 rfl (lv_at hl 1 rfl) ?_
    refine fg_X5_21 hB X h dX5_grant_60 ?_
    refine fg_X5_174 hB X h dX5_grant_63 ?_
    refine lv_iload_n hx hb dX5_grant_66 rfl (lv_at hl 0 rfl) ?_
    refine lv_aload_n hx hb dX5_grant_67 rfl (lv_at hl 1 rfl) ?_
    refine fg_X5_28 hB X h dX5_grant_68 ?_
    refine fg_X5_155 hB X h dX5_grant_71 ?_
    refine lv_iload_n hx hb dX5_grant_74 rfl (lv_at hl 2 rfl) ?_
    refine rg_ild X h (b + 15) (hB.lt (by decide)) (sa_15 hB J ad) (q) rfl (by omega) (by decide) dX5_grant_75 ?_
    refine lv_as (y := nI ((pk r q))) (hpq.2.2.2.1.trans v7) ?_
    refine rg_ist X h (b + 8) (hB.lt (by decide)) (sa_8 hB J ad) (20 * (pc r q) + (pg r q)) rfl (by omega) (by decide) dX5_grant_76 (fun H locs h => ?_)
    refine lv_aload_n hx hb dX5_grant_77 rfl (lv_at hl 1 rfl) ?_
    refine fg_X5_21 hB X h dX5_grant_78 ?_
    refine fg_X5_171 hB X h dX5_grant_81 ?_
    refine lv_iload_n hx hb dX5_grant_84 rfl (lv_at hl 0 rfl) ?_
    refine lv_aload_n hx hb dX5_grant_85 rfl (lv_at hl 1 rfl) ?_
    refine fg_X5_28 hB X h dX5_grant_86 ?_
    refine fg_X5_118 hB X h dX5_grant_89 ?_
    refine lv_iload_n hx hb dX5_grant_92 rfl (lv_at hl 2 rfl) ?_
    refine rg_ild X h (b + 16) (hB.lt (by decide)) (sa_16 hB J ad) (q) rfl (by omega) (by decide) dX5_grant_93 ?_
    refine lv_as (y := supp r q) (by rw [u1_n (show b + 16 ≠ b + 8 by omega)]; exact hpq.2.2.2.2.1) ?_
    refine rg_ist X h (b + 9) (hB.lt (by decide)) (sa_9 hB J ad) (20 * (pc r q) + (pg r q)) rfl (by omega) (by decide) dX5_grant_94 (fun H locs h => ?_)
    rw [u1_n (show b + 9 ≠ b + 8 by omega)] at h
    refine lv_aload_n hx hb dX5_grant_95 rfl (lv_at hl 1 rfl) ?_
    refine fg_X5_21 hB X h dX5_grant_96 ?_
    refine fg_X5_177 hB X h dX5_grant_99 ?_
    refine lv_iload_n hx hb dX5_grant_102 rfl (lv_at hl 0 rfl) ?_
    refine lv_aload_n hx hb dX5_grant_103 rfl (lv_at hl 1 rfl) ?_
    refine fg_X5_63 hB X h dX5_grant_104 ?_
    refine lv_as (y := r 3) (by rw [u1_n (show b ≠ b + 9 by omega), u1_n (show b ≠ b + 8 by omega)]; exact hV.2.2.2.1) ?_
    refine rg_ist X h (b + 10) (hB.lt (by decide)) (sa_10 hB J ad) (20 * (pc r q) + (pg r q)) rfl (by omega) (by decide) dX5_grant_107 (fun H locs h => ?_)
    rw [u1_n (show b + 10 ≠ b + 9 by omega), u1_n (show b + 10 ≠ b + 8 by omega)] at h
    exact hret (u1 (u1 (u1 G (b + 8) (upd (G (b + 8)) (20 * (pc r q) + (pg r q)) (nI ((pk r q))))) (b + 9) (upd (G (b + 9)) (20 * (pc r q) + (pg r q)) (supp r q))) (b + 10) (upd (G (b + 10)) (20 * (pc r q) + (pg r q)) (r 3))) _ _ 108 _ (⟨fun k hk => by rw [u1_n (by omega), u1_n (by omega), u1_n (by omega)], by rw [u1_n (by omega), u1_n (by omega), u1_n (by omega)], Rep_ps hR0 hq hpq.2.2.2.2.2.2 (fun k g1 g2 g3 g4 => by rw [u1_n (by omega), u1_n (by omega), u1_n (by omega)]) (fun j hj => by rw [u1_n (by omega), u1_n (by omega), u1_n (by omega)]) (by rw [u1_n (by omega), u1_n (by omega), u1_n (by omega), b2_f c_33]; exact (Int32.add_zero _).symm) (fun j hj => by rw [u1_n (by omega), u1_n (by omega), u1_s, upd_n hj]) (fun j hj => by rw [u1_n (by omega), u1_s, upd_n hj]) (fun j hj => by rw [u1_s, upd_n hj]) (Or.inr ⟨c_33, by rw [u1_n (by omega), u1_n (by omega), u1_s, upd_s], by rw [u1_n (by omega), u1_s, upd_s], by rw [u1_s, upd_s]⟩)⟩) h dX5_grant_108
  · rw [nI_eq (by omega) (by omega)] at c_33
    refine lv_aload_n hx hb dX5_grant_36 rfl (lv_at hl 1 rfl) ?_
    refine fg_X5_21 hB X h dX5_grant_37 ?_
    refine fg_X5_171 hB X h dX5_grant_40 ?_
    refine lv_iload_n hx hb dX5_grant_43 rfl (lv_at hl 0 rfl) ?_
    refine lv_iconst (v := nI 0) hx hb dX5_grant_44 (by decide) ?_
    refine rg_ist X h (b + 9) (hB.lt (by decide)) (sa_9 hB J ad) (20 * (pc r q) + (pg r q)) rfl (by omega) (by decide) dX5_grant_45 (fun H locs h => ?_)
    refine lv_aload_n hx hb dX5_grant_46 rfl (lv_at hl 1 rfl) ?_
    refine lv_dup hx hb dX5_grant_47 rfl ?_
    refine fg_X5_69 hB X h dX5_grant_48 ?_
    refine lv_as (y := G b 8) (by rw [u1_n (by omega)]) ?_
    refine lv_iconst (v := nI 1) hx hb dX5_grant_51 (by decide) ?_
    refine lv_iadd hx hb dX5_grant_52 ?_
    refine fp_X5_69 hB X h dX5_grant_53 (fun H locs h => ?_)
    rw [u1_n (show b ≠ b + 9 by omega)] at h
    refine lv_goto (tgt := 108) hx hb dX5_grant_56 (by decide) ?_
    exact hret (u1 (u1 G (b + 9) (upd (G (b + 9)) (20 * (pc r q) + (pg r q)) (nI 0))) b (upd (G b) 8 ((G b 8) + (nI 1)))) _ _ 108 _ (⟨fun k hk => by rw [u1_n (by omega), u1_n (by omega)], by rw [u1_n (by omega), u1_n (by omega)], Rep_ps hR0 hq hpq.2.2.2.2.2.2 (fun k g1 g2 g3 g4 => by rw [u1_n (by omega), u1_n (by omega)]) (fun j hj => by rw [u1_s, upd_n hj]) (by rw [u1_s, upd_s, b2_t c_33]; rfl) (fun j hj => by rw [u1_n (by omega), u1_n (by omega)]) (fun j hj => by rw [u1_n (by omega), u1_s, upd_n hj]) (fun j hj => by rw [u1_n (by omega), u1_n (by omega)]) (Or.inl ⟨c_33, by rw [u1_n (by omega), u1_s, upd_s]⟩)⟩) h dX5_grant_108
