/-! THE LOOPS: an end, a node -/
theorem v_all {N B : Nat} {z : Zt} {G : Gt} {x : Nat → Int32} {u k e p : Nat} (h : va N B z G x u k e p) : eW N B z G (rS G) := by
  have hkP := h.1.2.2.2.2.2.2.2.2.1
  rcases h.1.2.2.2.2.2.2.2.2.2.2.1 with rfl | rfl
  · have : k = 2 ∨ k = 3 ∨ k = 4 ∨ k = 5 ∨ k = 6 ∨ k = 7 ∨ k = 8 ∨ k = 9 ∨ k = 10 ∨ k = 11 ∨ k = 12 ∨ k = 13 ∨ k = 14 ∨ k = 17 ∨ k = 18 ∨ k = 19 ∨ k = 20 ∨ k = 21 ∨ k = 22 ∨ k = 24 ∨ k = 25 ∨ k = 26 ∨ k = 28 ∨ k = 29 ∨ k = 31 ∨ k = 35 ∨ k = 36 ∨ k = 37 := by
      unfold kP at hkP; omega
    clear hkP
    rcases this with rfl | rfl | rfl | rfl | rfl | rfl | rfl | rfl | rfl | rfl | rfl | rfl | rfl | rfl | rfl | rfl | rfl | rfl | rfl | rfl | rfl | rfl | rfl | rfl | rfl | rfl | rfl | rfl
    · exact v_2_1 h
    · exact v_3_1 h
    · exact v_4_1 h
    · exact v_5_1 h
    · exact v_6_1 h
    · exact v_7_1 h
    · exact v_8_1 h
    · exact v_9_1 h
    · exact v_10_1 h
    · exact v_11_1 h
    · exact v_12_1 h
    · exact v_13_1 h
    · exact v_14_1 h
    · exact v_17_1 h
    · exact v_18_1 h
    · exact v_19_1 h
    · exact v_20_1 h
    · exact v_21_1 h
    · exact v_22_1 h
    · exact v_24_1 h
    · exact v_25_1 h
    · exact v_26_1 h
    · exact v_28_1 h
    · exact v_29_1 h
    · exact v_31_1 h
    · exact v_35_1 h
    · exact v_36_1 h
    · exact v_37_1 h
  · have : k = 4 ∨ k = 5 ∨ k = 6 ∨ k = 7 ∨ k = 8 ∨ k = 9 ∨ k = 10 ∨ k = 11 ∨ k = 17 ∨ k = 18 ∨ k = 20 ∨ k = 21 ∨ k = 26 := by
      unfold kP at hkP; omega
    clear hkP
    rcases this with rfl | rfl | rfl | rfl | rfl | rfl | rfl | rfl | rfl | rfl | rfl | rfl | rfl
    · exact v_4_2 h
    · exact v_5_2 h
    · exact v_6_2 h
    · exact v_7_2 h
    · exact v_8_2 h
    · exact v_9_2 h
    · exact v_10_2 h
    · exact v_11_2 h
    · exact v_17_2 h
    · exact v_18_2 h
    · exact v_20_2 h
    · exact v_21_2 h
    · exact v_26_2 h
theorem n_all {N B : Nat} {z : Zt} {G : Gt} {x : Nat → Int32} {sp u k e p : Nat} (h : na N B z G x sp u k e p) : eW N B z G (rS G) := by
  have hkP := h.1.2.2.2.2.2.2.2.2.1
  have hp := h.1.2.2.2.2.2.2.2.2.2.2.1
  by_cases c13 : k = 13
  · have : p = 1 := by unfold kP at hkP; omega
    subst c13; subst this; exact n_13 h
  by_cases c20 : k = 20
  · subst c20
    rcases hp with rfl | rfl
    · exact n_20_1 h
    · exact n_20_2 h
  by_cases c21 : k = 21
  · subst c21
    rcases hp with rfl | rfl
    · exact n_21_1 h
    · exact n_21_2 h
  by_cases c26 : k = 26
  · subst c26
    rcases hp with rfl | rfl
    · exact n_26_1 h
    · exact n_26_2 h
  by_cases c36 : k = 36
  · have : p = 1 := by unfold kP at hkP; omega
    subst c36; subst this; exact n_36 h
  exact n_def h c13 c20 c21 c26 c36
/-- an end, one step up -/
theorem e_step {N B : Nat} {z : Zt} {G : Gt} (h : eST N B z G) : ∃ z' G' t, oST N B z' G' ∧ cT t G G' ∧ rS G G' ∧ kpo G G' ∧ rvk G G' ∧ mu z' + t ≤ mu z ∧ mu z' + 1 ≤ mu z := by
  have fin : (∃ z', mu z' + 10 ≤ mu z ∧ eXo N B z' G (rS G)) → ∃ z' G' t, oST N B z' G' ∧ cT t G G' ∧ rS G G' ∧ kpo G G' ∧ rvk G G' ∧ mu z' + t ≤ mu z ∧ mu z' + 1 ≤ mu z := by
    rintro ⟨z1, m1, z2, G2, t, b1, b2, b3, b4, b4r, b5⟩
    exact ⟨z2, G2, t, b1, b2, b3, b4, b4r, by omega, by omega⟩
  have fin' : (∃ z', mu z' + 10 ≤ mu z ∧ eW N B z' G (rS G)) → ∃ z' G' t, oST N B z' G' ∧ cT t G G' ∧ rS G G' ∧ kpo G G' ∧ rvk G G' ∧ mu z' + t ≤ mu z ∧ mu z' + 1 ≤ mu z := fun ⟨z', a, b⟩ => fin ⟨z', a, eXo_of b⟩
  by_cases hb : z 2 (z 0 7) = 0
  · by_cases h15 : G 84 15 = 0
    · obtain ⟨z1, G1, u, k, e, p, a1, a2, a3, a4, a5, a6, a7, a8, a9, a10, a11, a12⟩ := arr_val h hb h15
      obtain ⟨z2, G2, t, b1, b2, b3, b4, b5⟩ := v_all (⟨a5, a6, a7, a8, a9, a10, a11, a12⟩ : va N B z1 G1 _ u k e p)
      exact ⟨z2, G2, t + 1, b1, ⟨G1, a1, b2⟩, rS_r a2 b3, kp_o (kp_tr a3 b4), kp_r (kp_tr a3 b4), by omega, by omega⟩
    · obtain ⟨z1, G1, u, k, e, p, sp, a1, a2, a3, a4, a5, a6, a7, a8, a9, a10⟩ := arr_non h hb h15
      obtain ⟨z2, G2, t, b1, b2, b3, b4, b5⟩ := n_all (⟨a5, a6, a7, a8, a9, a10⟩ : na N B z1 G1 _ sp u k e p)
      exact ⟨z2, G2, t + 1, b1, ⟨G1, a1, b2⟩, rS_r a2 b3, kp_o (kp_tr a3 b4), kp_r (kp_tr a3 b4), by omega, by omega⟩
  · by_cases h4 : z 4 (z 0 7) = 0
    · exact fin (be_0 h hb h4)
    · obtain ⟨sp, hA, _⟩ := id h
      have hI := hA.1.2.2.2.2.2.2.2.2.2.1
      have hcn : z 0 7 < z 0 8 := hA.1.2.2.2.2.2.2.2.2.2.2.2.1.2.2.2.1
      have h6 := hA.2.2.1
      have h1 := (hI (z 0 7) hcn (by omega)).2.2.1
      by_cases c2 : z 2 (z 0 7) = 2
      · exact fin' (be_2 h c2 h4)
      · by_cases c3 : z 2 (z 0 7) = 3
        · exact fin' (be_3 h c3 h4)
        · by_cases c1 : z 2 (z 0 7) = 1
          · exact absurd (h1 c1) h4
          · exact fin' (be_g h (by omega) h4)
theorem eST_7 {N B : Nat} {z : Zt} {G : Gt} (h : eST N B z G) : G 84 7 = 1 := by
  obtain ⟨sp, hA, _⟩ := h
  exact hA.1.2.2.2.2.2.2.2.2.2.2.2.2.2.2.2.2.2.1.2.2.2.2.2.2.2.2.2.1
def rM (n : Nat) (G G' : Gt) : Prop := ∀ (C : Gt) (K : Int32 → Gt → Prop) (m : Nat), w_X11_beginsNext_h59 K m (mxw C G') → w_X11_beginsNext_h59 K (m + n) (mxw C G)
theorem rM_0 {G : Gt} : rM 0 G G := fun _ _ _ h => h
theorem rM_s {n : Nat} {G G1 G2 : Gt} (a : rS G G1) (b : rM n G1 G2) : rM (n + 1) G G2 := fun C K m h => a C K (m + n) (b C K m h)
theorem e_run {N B : Nat} : ∀ (M : Nat) (z : Zt) (G : Gt), mu z ≤ M → eST N B z G → ∃ z' G' t n, (wST N B z' G' ∨ fST N B z' G') ∧ cT t G G' ∧ rM n G G' ∧ kpo G G' ∧ rvk G G' ∧ mu z' + t ≤ mu z := by
  intro M
  induction M with
  | zero =>
    intro z G hm h
    obtain ⟨z', G', t, _, _, _, _, _, _, q⟩ := e_step h
    omega
  | succ M ih =>
    intro z G hm h
    obtain ⟨z1, G1, t1, o, c1, r1, k1, v1, m1, m2⟩ := e_step h
    rcases o with o | o | o
    · obtain ⟨z2, G2, t2, n, p1, p2, p3, p4, p4r, p5⟩ := ih z1 G1 (by omega) o
      exact ⟨z2, G2, t2 + t1, n + 1, p1, cT_tr c1 p2, rM_s r1 p3, kpo_tr k1 p4, rvk_tr v1 (eST_7 o) p4r, by omega⟩
    · exact ⟨z1, G1, t1, 1, Or.inl o, c1, rM_s r1 rM_0, k1, v1, m1⟩
    · exact ⟨z1, G1, t1, 1, Or.inr o, c1, rM_s r1 rM_0, k1, v1, m1⟩
theorem o_run {N B : Nat} {z : Zt} {G : Gt} (h : oST N B z G) : ∃ z' G' t n, (wST N B z' G' ∨ fST N B z' G') ∧ cT t G G' ∧ rM n G G' ∧ kpo G G' ∧ rvk G G' ∧ mu z' + t ≤ mu z := by
  rcases h with o | o | o
  · obtain ⟨z2, G2, t2, n, p1, p2, p3, p4, p4r, p5⟩ := e_run (mu z) z G (Nat.le_refl _) o
    exact ⟨z2, G2, t2, n, p1, p2, p3, p4, p4r, by omega⟩
  · exact ⟨z, G, 0, 0, Or.inl o, eqc_rfl, rM_0, kpo_rfl, rvk_eq rfl, Nat.le_refl _⟩
  · exact ⟨z, G, 0, 0, Or.inr o, eqc_rfl, rM_0, kpo_rfl, rvk_eq rfl, Nat.le_refl _⟩
theorem b_all {N B : Nat} {z : Zt} {G : Gt} (h : wST N B z G) (hB0 : z 0 0 < B) : ∃ pc pw, eW N B (zBg z pc pw) (oLy (z 0 0) (z 0 1) (G 46 54) (G 46 56) (G 46 55) (oLb (z 0 0) G)) (bS (gu G 46 58 (nI (z 0 0 + 1)))) ∧ mu (zBg z pc pw) + 10 ≤ mu z := by
  have hA := h.1.2.1 (z 0 0) (by have := h.2.1; omega)
  obtain ⟨k, e, hk, he, h47, h13⟩ := gP_k h.1.1 hA.2
  have pre := fun pc pw (h1 : pc ≤ 1) (h2 : pw ≤ 1) => b_pre h hB0 h1 h2 hk he h47 h13
  have p0 := pre 0 0 (by decide) (by decide)
  have p1 := pre 1 0 (by decide) (by decide)
  have p2 := pre 0 1 (by decide) (by decide)
  clear pre
  have : k = 0 ∨ k = 1 ∨ k = 2 ∨ k = 3 ∨ k = 4 ∨ k = 5 ∨ k = 6 ∨ k = 7 ∨ k = 8 ∨ k = 9 ∨ k = 10 ∨ k = 11 ∨ k = 12 ∨ k = 13 ∨ k = 14 ∨ k = 15 ∨ k = 16 ∨ k = 17 ∨ k = 18 ∨ k = 19 ∨ k = 20 ∨ k = 21 ∨ k = 22 ∨ k = 23 ∨ k = 24 ∨ k = 25 ∨ k = 26 ∨ k = 27 ∨ k = 28 ∨ k = 29 ∨ k = 30 ∨ k = 31 ∨ k = 32 ∨ k = 33 ∨ k = 34 ∨ k = 35 ∨ k = 36 ∨ k = 37 ∨ k = 38 ∨ k = 39 := by omega
  rcases this with rfl | rfl | rfl | rfl | rfl | rfl | rfl | rfl | rfl | rfl | rfl | rfl | rfl | rfl | rfl | rfl | rfl | rfl | rfl | rfl | rfl | rfl | rfl | rfl | rfl | rfl | rfl | rfl | rfl | rfl | rfl | rfl | rfl | rfl | rfl | rfl | rfl | rfl | rfl | rfl
  · exact ⟨0, 0, b_0 p0.1, p0.2.1⟩
  · exact ⟨0, 0, b_1 p0.1, p0.2.1⟩
  · exact ⟨0, 0, b_2 p0.1, p0.2.1⟩
  · exact ⟨0, 0, b_3 p0.1, p0.2.1⟩
  · exact ⟨0, 0, b_4 p0.1, p0.2.1⟩
  · exact ⟨0, 0, b_5 p0.1, p0.2.1⟩
  · exact ⟨0, 0, b_6 p0.1, p0.2.1⟩
  · exact ⟨0, 0, b_7 p0.1, p0.2.1⟩
  · exact ⟨0, 0, b_8 p0.1, p0.2.1⟩
  · exact ⟨0, 0, b_9 p0.1, p0.2.1⟩
  · exact ⟨0, 0, b_10 p0.1, p0.2.1⟩
  · exact ⟨0, 0, b_11 p0.1, p0.2.1⟩
  · exact ⟨0, 0, b_12 p0.1, p0.2.1⟩
  · exact ⟨0, 0, b_13 p0.1, p0.2.1⟩
  · exact ⟨0, 0, b_14 p0.1, p0.2.1⟩
  · exact ⟨0, 0, b_15 p0.1, p0.2.1⟩
  · exact ⟨0, 0, b_16 p0.1, p0.2.1⟩
  · exact ⟨1, 0, b_17 p1.1, p1.2.1⟩
  · by_cases c : (oLy (z 0 0) (z 0 1) (G 46 54) (G 46 56) (G 46 55) (oLb (z 0 0) G)) 49 ((zBg z 0 0) 1 (z 0 0)) = -1
    · exact ⟨0, 0, b_18_0 p0.1 c, p0.2.1⟩
    · exact ⟨1, 0, b_18_1 p1.1 c, p1.2.1⟩
  · exact ⟨0, 0, b_19 p0.1, p0.2.1⟩
  · exact ⟨1, 0, b_20 p1.1, p1.2.1⟩
  · exact ⟨0, 1, b_21 p2.1, p2.2.1⟩
  · exact ⟨0, 0, b_22 p0.1, p0.2.1⟩
  · exact ⟨0, 0, b_23 p0.1, p0.2.1⟩
  · exact ⟨0, 0, b_24 p0.1, p0.2.1⟩
  · exact ⟨1, 0, b_25 p1.1, p1.2.1⟩
  · exact ⟨0, 0, b_26 p0.1, p0.2.1⟩
  · exact ⟨0, 0, b_27 p0.1, p0.2.1⟩
  · exact ⟨0, 0, b_28 p0.1, p0.2.1⟩
  · exact ⟨1, 0, b_29 p1.1, p1.2.1⟩
  · exact ⟨0, 0, b_30 p0.1, p0.2.1⟩
  · exact ⟨0, 0, b_31 p0.1, p0.2.1⟩
  · exact ⟨0, 0, b_32 p0.1, p0.2.1⟩
  · exact ⟨0, 0, b_33 p0.1, p0.2.1⟩
  · exact ⟨0, 0, b_34 p0.1, p0.2.1⟩
  · exact ⟨0, 0, b_35 p0.1, p0.2.1⟩
  · exact ⟨0, 0, b_36 p0.1, p0.2.1⟩
  · exact ⟨0, 0, b_37 p0.1, p0.2.1⟩
  · exact ⟨0, 0, b_38 p0.1, p0.2.1⟩
  · exact ⟨0, 0, b_39 p0.1, p0.2.1⟩
theorem kpd_c {k j : Nat} (h : kpd k j) : kpc k j := Or.imp_right (Or.imp_right (Or.imp_right (Or.imp_right (Or.imp_right (Or.imp_right (Or.imp_right (Or.imp_right (Or.imp_right (Or.imp_right (Or.imp_right (Or.imp_right (Or.imp_right (Or.imp_right (Or.imp_right (Or.imp_right (Or.imp_right (Or.imp_right (Or.imp_right (Or.imp_right (Or.imp_right (Or.imp_right (Or.imp_right (Or.imp_right (Or.imp_right (fun h => ⟨h.1, by have := h.2; omega⟩))))))))))))))))))))))))) h
def kq (G G' : Gt) : Prop := ∀ k j, kpd k j → ¬ (k = 84 ∧ j = 10) → ¬ (k = 46 ∧ j = 58) → G' k j = G k j
theorem kq_rfl {G : Gt} : kq G G := fun _ _ _ _ _ => rfl
theorem kq_tr {G G' G'' : Gt} (h : kq G G') (h' : kq G' G'') : kq G G'' := fun k j a b c => (h' k j a b c).trans (h k j a b c)
theorem wf_n {N B : Nat} {z : Zt} {G : Gt} (hB6 : B ≤ 600) (h : wST N B z G ∨ fST N B z G) : G 84 10 = nI (z 0 0) ∧ G 46 58 = nI (z 0 0) ∧ z 0 0 ≤ 600 ∧ G 46 41 = 0 := by
  rcases h with h | h
  · have hQ := h.1.2.2.2.2.2.2.2.2.2.2.2.2.2.2.2.2.2.1
    exact ⟨hQ.2.2.2.2.2.2.1, hQ.2.2.2.2.2.2.2.1, by have := hQ.1; have := hQ.2.2.2.1; omega, h.2.2.2.2.2.2.2.2.2.2.2.2.1⟩
  · exact ⟨h.2.2.2.2.1, h.2.2.2.2.2.1, by have := h.2.2.2.1; omega, h.2.2.1⟩
/-- a node begins, and all ends that ends by that -/
theorem w_step {N B : Nat} {z : Zt} {G : Gt} (hB6 : B ≤ 600) (h : wST N B z G) (hB0 : z 0 0 < B) : ∃ z' G' t, (wST N B z' G' ∨ fST N B z' G') ∧ cT t (oLb (z 0 0) G) G' ∧ (∀ (C : Gt) (K : Int32 → Gt → Prop), K 1 (mxw C G') → w_X11_beginsNext K (mxw C G)) ∧ kq G G' ∧ rvk G G' ∧ mu z' + t + 1 ≤ mu z ∧ z' 0 0 = z 0 0 + 1 := by
  obtain ⟨pc, pw, ⟨z1, G1, t1, o1, c1, r1, k1, m1⟩, m0⟩ := b_all h hB0
  obtain ⟨z2, G2, t2, n, p1, p2, p3, p4, p4r, p5⟩ := o_run o1
  have hQ := h.1.2.2.2.2.2.2.2.2.2.2.2.2.2.2.2.2.2.1
  obtain ⟨w1, w2, w3, w4⟩ := wf_n hB6 p1
  have k10 : G2 84 10 = nI (z 0 0 + 1) := by
    rw [p4 84 10 (by unfold kpd; omega), k1 84 10 (by unfold kpc; omega)]; rfl
  have hz : z2 0 0 = z 0 0 + 1 := (nI_eq (by omega) (by omega)).mp (w1.symm.trans k10)
  refine ⟨z2, G2, t2 + t1, p1, ?_, fun C K hk => ?_, fun k j a b c => ?_, ?_, by omega, hz⟩
  · have e : eqc (oLb (z 0 0) G) (oLy (z 0 0) (z 0 1) (G 46 54) (G 46 56) (G 46 55) (oLb (z 0 0) G)) := by
      unfold oLy
      repeat (refine eqc_gu rfl ?_)
      exact eqc_rfl
    exact cT_c e (cT_tr c1 p2) (fun _ => trivial)
  · unfold w_X11_beginsNext
    have e58 : (mxw C G) 46 58 = nI (z 0 0) := hQ.2.2.2.2.2.2.2.1
    have e59 : (mxw C G) 46 59 = nI B := hQ.2.2.1
    rw [e58, e59]
    refine pif_n (fun q => by have := (nI_eq (by omega) (by omega)).mp q; omega) ?_
    rw [nI_1]
    refine ptr rfl (r1 C _ ⟨1 + n, p3 C K 1 ?_⟩)
    rw [w_X11_beginsNext_h59]
    exact pif_p w4 hk
  · rw [p4 k j a, k1 k j (kpd_c a)]
    unfold oLy oLb
    rw [gu_n (by unfold kpd at a; omega), gu_n (by unfold kpd at a; omega), gu_n (by unfold kpd at a; omega), gu_n (by unfold kpd at a; omega), gu_n (by unfold kpd at a; omega), gu_n (by unfold kpd at a; omega), gu_n (by unfold kpd at a; omega), gu_n (by unfold kpd at a; omega)]
  · have h7 : G1 84 7 = 1 ∨ (z2 = z1 ∧ G2 = G1) ∨ True := Or.inr (Or.inr trivial)
    intro v
    refine p4r ?_
    rw [k1 46 62 (by unfold kpc; omega)]
    unfold oLy oLb
    rw [gu_n (by omega), gu_n (by omega), gu_n (by omega), gu_n (by omega), gu_n (by omega), gu_n (by omega), gu_n (by omega), gu_n (by omega)]
    exact v
/-- no step is left -/
theorem chain2 {N : Nat} {z : Zt} {G C : Gt} (hA : qA N z G) (hE : qE z G) (hM : qM z G) (hm : z 0 0 ≤ z 0 8) (hn6 : z 0 0 ≤ 600) (hf : ∀ i, i < z 0 0 → z 6 i < 1220) (h108 : ∀ i, i < z 0 0 → C 108 i = G 108 i) (h120 : ∀ i, i < z 0 0 → C 120 i = G 120 i) : ∀ (t : Nat) (c r : Int32), cH z c r t → ∃ l, l.length = t ∧ cN C c l ∧ rN G r l ∧ ∀ x, x ∈ l → ∃ v, v < N ∧ x = nI v := by
  intro t
  induction t with
  | zero =>
    intro c r h
    rcases h with ⟨_, a, b⟩ | ⟨i, _, _, _, _, q⟩
    · exact ⟨[], rfl, a, b, fun x hx => by cases hx⟩
    · exact absurd rfl q
  | succ t ih =>
    intro c r h
    rcases h with ⟨q, _, _⟩ | ⟨i, hi, e1, e2, e3, _⟩
    · omega
    · obtain ⟨m1, m2⟩ := hM.1 i hi (by omega)
      rw [e3, Nat.add_sub_cancel] at m2
      obtain ⟨l, l1, l2, l3, l4⟩ := ih _ _ m2
      exact ⟨nI (z 1 i) :: l, by rw [List.length_cons, l1], ⟨i, by omega, e1, (h108 i hi).trans (hA i (by omega)).1, by rw [h120 i hi]; exact l2⟩, ⟨z 6 i, hf i hi, e2, (hE i hi).1, l3⟩, fun x hx => by
        rcases List.mem_cons.mp hx with q | q
        · exact ⟨z 1 i, (hA i (by omega)).2, q⟩
        · exact l4 x q⟩
theorem rN_eq : ∀ (l : List Int32) (G G' : Gt) (r : Int32), G' 64 = G 64 → G' 70 = G 70 → rN G r l → rN G' r l
  | [], _, _, _, _, _, h => h
  | _ :: l, G, G', _, h1, h2, ⟨i, a, b, d, e⟩ => ⟨i, a, b, by rw [h1]; exact d, by rw [h2]; exact rN_eq l G G' _ h1 h2 e⟩
theorem w_stop {N B : Nat} {z : Zt} {G : Gt} (h : wST N B z G) (hB0 : z 0 0 = B) : ∃ Gf, fST N B z Gf ∧ (∀ (R : Gt) (K : Gt → Prop), K (mxw Gf R) → w_X2_letBegin K (mxw G R)) ∧ (∀ (C : Gt) (K : Int32 → Gt → Prop), K 0 (mxw C Gf) → w_X11_beginsNext K (mxw C G)) ∧ kq G Gf ∧ Gf 84 15 = 1 ∧ Gf 46 62 = 49993 := by
  obtain ⟨hS, hm, hcur, h7, h12, h116, h118, h124, hnx, hna1, hna2, hns, hend, hRH, hFr, hDP, h15⟩ := h
  have hA := hS.2.1
  have hE := hS.2.2.2.2.2.1
  have hG := hS.2.2.2.2.2.2.2.1
  have hL := hS.2.2.2.2.2.2.2.2.2.2.2.2.1
  have hM := hS.2.2.2.2.2.2.2.2.2.2.2.2.2.1
  have hQ := hS.2.2.2.2.2.2.2.2.2.2.2.2.2.2.2.2.2.1
  have hU := hS.2.2.2.2.2.2.2.2.2.2.2.2.2.2.2.2.2.2.2.2.2
  have hB6 := hQ.1
  have h11 : G 84 11 = nI (z 0 0) := by have := hQ.2.2.2.2.2.2.2.2.1; rw [hcur] at this; exact this
  obtain ⟨d, d1, d2, d3, d4, d5⟩ := hL.2
  obtain ⟨l, l1, l2, l3, l4⟩ := chain2 (C := gu (oFl (z 0 0) (-7) G) 84 7 0) hA hE hM (by omega) (by omega) (fun i hi => by have := hG.2.2 i hi; omega) (fun i hi => rfl) (fun i hi => by
    rw [gu_oo _ (by decide)]
    unfold oFl
    rw [gu_oo _ (by decide), gu_oo _ (by decide), gu_ko _ (by omega), gu_oo _ (by decide), gu_oo _ (by decide), gu_oo _ (by decide), gu_oo _ (by decide)]) d _ _ d5
  have hrN : rN (gu (gu (gu (gu G 46 42 (-7)) 46 44 (-100000)) 46 45 (G 46 54)) 46 46 (G 46 49)) (G 46 49) l := rN_eq l G _ _ rfl rfl l3
  refine ⟨mxw (gu (oFl (z 0 0) (-7) G) 84 7 0) (oSt l (gu (gu (gu (gu G 46 42 (-7)) 46 44 (-100000)) 46 45 (G 46 54)) 46 46 (G 46 49))), ?_, fun R K hk => ?_, fun C K hk => ?_, fun k j a b c => ?_, ?_, ?_⟩
  · refine mk_fE (gu_kk _ _ _ _) rfl hQ.2.2.2.1 hQ.2.2.2.2.2.2.1 hQ.2.2.2.2.2.2.2.1 (fun k hk => hU.2.2.2.2.1 k hk) rfl ?_ (d := z 0 0) (by omega) rfl ?_ (by omega) ?_ (show isnum (-7) from ⟨by decide, by decide⟩) ⟨z 1 (z 0 0), (hA (z 0 0) (by omega)).2, (hA (z 0 0) (by omega)).1⟩ l4
    · rw [if_pos (by rw [gu_ko _ (by decide), gu_ko _ (by decide), gu_kk])]; rfl
    · have e : (gu (oFl (z 0 0) (-7) G) 84 7 0) 120 (z 0 0) = G 84 13 := by
        rw [gu_oo _ (by decide)]
        unfold oFl
        rw [gu_oo _ (by decide), gu_oo _ (by decide), gu_kk]
      rw [e]; exact l2
    · show G 46 54 = G 108 (z 0 0)
      rw [hnx]; exact (hA (z 0 0) (by omega)).1.symm
  · unfold w_X2_letBegin w_X2_letBegin_j40
    have e9 : (mxw G R) 84 9 = nI B := hQ.2.1
    have e10 : (mxw G R) 84 10 = nI (z 0 0) := hQ.2.2.2.2.2.2.1
    rw [e9, e10, hB0]
    refine pif_p (i_ler _) (k_fail h11 (by omega) (ptc rfl ?_))
    have : mxw (mxw (gu (oFl (z 0 0) (-7) G) 84 7 0) (oSt l (gu (gu (gu (gu G 46 42 (-7)) 46 44 (-100000)) 46 45 (G 46 54)) 46 46 (G 46 49)))) R = mxw (gu (oFl (z 0 0) (-7) G) 84 7 0) R := mxw_c eqc_mx
    rw [this, hB0] at hk
    rw [hB0]; exact hk
  · unfold w_X11_beginsNext
    have e58 : (mxw C G) 46 58 = nI (z 0 0) := hQ.2.2.2.2.2.2.2.1
    have e59 : (mxw C G) 46 59 = nI B := hQ.2.2.1
    rw [e58, e59, hB0]
    refine pif_p rfl (ptr rfl (ptr rfl (ptr rfl (ptr rfl ?_))))
    have : mxw C (mxw (gu (oFl (z 0 0) (-7) G) 84 7 0) (oSt l (gu (gu (gu (gu G 46 42 (-7)) 46 44 (-100000)) 46 45 (G 46 54)) 46 46 (G 46 49)))) = mxw C (oSt l (gu (gu (gu (gu G 46 42 (-7)) 46 44 (-100000)) 46 45 (G 46 54)) 46 46 (G 46 49))) := mxw_r eqr_mx
    rw [this] at hk
    exact r_stops hrN (by omega) hk
  · cases hik : isR k
    · rw [mx_C hik]
      unfold oFl
      rw [gu_n (by unfold kpd at a; omega), gu_n (by unfold kpd at a; omega), gu_n (by unfold kpd at a; omega), gu_n (by unfold kpd at a; omega), gu_n (by unfold kpd at a; omega), gu_n (by unfold kpd at a; omega), gu_n (by unfold kpd at a; omega), gu_n (by unfold kpd at a; omega)]
    · rw [mx_R hik]
      unfold oSt
      rw [gu_n (by unfold kpd at a; omega), gu_n (by unfold kpd at a; omega), rsW_n (by unfold kpd at a; omega) (by unfold kpd at a; omega), wr_n _ _ _ _ _ (by unfold kpd at a; omega) (by unfold kpd at a; omega), gu_n (by unfold kpd at a; omega), gu_n (by unfold kpd at a; omega), gu_n (by unfold kpd at a; omega), gu_n (by unfold kpd at a; omega), gu_n (by unfold kpd at a; omega), gu_n (by unfold kpd at a; omega), gu_n (by unfold kpd at a; omega), gu_n (by unfold kpd at a; omega)]
  · rfl
  · rw [mx_R rfl]
    unfold oSt
    rw [gu_ko _ (by decide), gu_ko _ (by decide), rsW_n (by decide) (by omega), wr_n _ _ _ _ _ (by decide) (by omega), gu_ko _ (by decide), gu_oo _ (by decide), gu_ko _ (by decide), gu_kk, gu_ko _ (by decide), gu_ko _ (by decide), gu_ko _ (by decide), gu_kk]
    rfl
