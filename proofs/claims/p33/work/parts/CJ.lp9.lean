/-! A CALL THAT RUNS: what class and reference come to -/
theorem mxw_mc {A B R : Gt} : mxw (mxw A B) R = mxw A R := mxw_c eqc_mx
theorem mxw_mr {C A B : Gt} : mxw C (mxw A B) = mxw C B := mxw_r eqr_mx
theorem run_core {N m q : Nat} {G : Gt} (hq : q = 40 ∨ q = 43) (hA : jA N G) (hm : m < N) : ∃ (z : Zt) (B : Nat) (Gf : Gt), fST N B z Gf ∧ fR N Gf ∧ rpt Gf = q ∧ (∀ k j, (k = 46 ∧ (j = 52 ∨ j = 71)) ∨ k = 63 ∨ k = 83 → Gf k j = G k j) ∧ (∀ j, j < 4 → Gf 99 j = G 33 j) ∧
    (∀ (R : Gt) (K : Int32 → Gt → Prop), w_X2_advance_j249 K 0 (mxw Gf R) → w_X2_open q (fun G6 => w_X2_advance K 601 0 G6) (nI m) (G 0 4) (mxw G R)) ∧ (∀ (C : Gt) (K : Gt → Prop), K (mxw C Gf) → w_X11_runsAll K (nI m) (mxw C G)) := by
  obtain ⟨hP, h0, h1, hS0, hS1, hRg, hOp, hL, hB, h52⟩ := hA
  obtain ⟨b0, B, bB1, bB2, bB⟩ := id hB
  have hm120 : m < 120 := by have := hP.1; omega
  have hw := open_w (B := B) (w := if q = 40 then 0 else 1) hP h0 h1 hS0 hS1 hRg hOp hm bB2
  have hwb := open_wb (B := B) (m := m) (w := if q = 40 then 0 else 1) h0 h1 hS0 hRg hOp
  have hO := oC_1 (w := if q = 40 then 0 else 1) (B := nI B) (m := m) (G := G)
  have eC : ∀ k j, k < 84 → isR k = false → (mxw (oC (if q = 40 then 0 else 1) (nI B) m G) (oR (nI B) m G)) k j = G k j := fun k j a b => by
    rw [mx_C b, oC_n (Or.inl a), ab_n (by unfold abk; omega)]
  have eR : ∀ k j, isR k = true → ¬ (k = 62 ∧ j < 104) → ¬ k = 71 ∧ ¬ k = 72 ∧ ¬ (64 ≤ k ∧ k ≤ 67) → (k = 46 → j = 0 ∨ j = 12 ∨ j = 13 ∨ j = 14 ∨ j = 52 ∨ (66 ≤ j ∧ j ≤ 69) ∨ j = 71) → (mxw (oC (if q = 40 then 0 else 1) (nI B) m G) (oR (nI B) m G)) k j = G k j := fun k j a b c d => by
    rw [mx_R a, oR_n b c d]
  obtain ⟨p1, p2, p3⟩ := pcl_all (W := mxw (oC (if q = 40 then 0 else 1) (nI B) m G) (oR (nI B) m G)) hP hS1 hB (fun k j h => by
    unfold pcl at h
    cases hk : isR k
    · have := isR_f hk
      exact eC k j (by omega) hk
    · have := isR_t hk
      exact eR k j hk (by omega) (by omega) (by omega))
  have pL : gL (mxw (oC (if q = 40 then 0 else 1) (nI B) m G) (oR (nI B) m G)) (mxw (oC (if q = 40 then 0 else 1) (nI B) m G) (oR (nI B) m G)) := gL_eq hL (fun k j h => by
    cases hk : isR k
    · have := isR_f hk
      exact eC k j (by omega) hk
    · have := isR_t hk
      exact eR k j hk (by omega) (by omega) (by omega))
  obtain ⟨zf, Gf, hf, hkq, hc, hr⟩ := run_all 12020 (zI m) _ (Nat.le_of_eq zI_mu) hw
  refine ⟨zf, B, Gf, hf, fR_kq ⟨p1, p2, p3, pL, hwb⟩ hkq, ?_, ?_, ?_, ?_, ?_⟩
  · unfold rpt
    rw [hkq 84 6 (by unfold kpc; omega) (by omega) (by omega), mx_C rfl, hO.2.2.2.2.2.2.2.2.2.2.1]
    rcases hq with rfl | rfl
    · rw [if_pos rfl, if_pos rfl]
    · exact if_neg (by decide)
  · intro k j h
    rw [hkq k j (by unfold kpc; omega) (by omega) (by omega)]
    cases hk : isR k
    · have := isR_f hk
      exact eC k j (by omega) hk
    · have := isR_t hk
      exact eR k j hk (by omega) (by omega) (by omega)
  · intro j hj
    rw [hkq 99 j (by unfold kpc; omega) (by omega) (by omega), mx_C rfl, oC_n (Or.inr (by omega))]
    exact ab_y (by unfold abk; omega)
  · intro R K hk
    rw [b0.trans bB]
    refine k_opn hm120 ?_
    have e := hc R K 0 (by rw [zI_mu]; omega) hk
    rw [mxw_mc] at e
    have e10 : (mxw (oC (if q = 40 then 0 else 1) (nI B) m G) R) 84 10 = nI 0 := by rw [mx_C rfl]; exact hO.2.2.2.1
    unfold w_X2_advance
    rw [e10]
    exact e
  · intro C K hk
    have e := hr C K hk
    rw [mxw_mr] at e
    unfold w_X11_runsAll
    exact r_prep bB e
/-- behind a run that is told of -/
theorem fin_jA {N B : Nat} {z : Zt} {Gf : Gt} (h : fST N B z Gf) (hR : fR N Gf) (hr : rpt Gf = 40) : ∃ Cf c, c ≤ 13 ∧ Gf 46 64 = nI c ∧ (∀ (R : Gt) (K : Gt → Prop), K (mxw Cf R) → w_X2_settle K (mxw Gf R)) ∧ Cf 40 0 = Gf 46 62 ∧ Cf 84 7 = 0 ∧ Cf 84 10 = Gf 84 10 ∧ ∀ v, jA N (mxw (gu Cf 83 0 v) (oLs c (gu Gf 46 52 0))) := by
  obtain ⟨hP, hS1, hB, hL, hwb⟩ := id hR
  obtain ⟨Cf, c, hc, h64, hset, c0, c1, c2, c3, ct, cn, cw⟩ := fin_set h (Or.inl rfl) hr hwb
  refine ⟨Cf, c, hc, h64, hset, c0, (cn 84 7 (by decide) (by decide) (by unfold bbk; omega)).trans h.1, cn 84 10 (by decide) (by decide) (by unfold bbk; omega), fun v => ?_⟩
  have eC : ∀ k j, isR k = false → ¬ k = 83 → (mxw (gu Cf 83 0 v) (oLs c (gu Gf 46 52 0))) k j = Cf k j := fun k j a b => by rw [mx_C a, gu_oo _ b]
  have eR : ∀ k j, isR k = true → ¬ k = 82 → ¬ (k = 46 ∧ (j = 52 ∨ (66 ≤ j ∧ j ≤ 69))) → (mxw (gu Cf 83 0 v) (oLs c (gu Gf 46 52 0))) k j = Gf k j := fun k j a b d => by
    rw [mx_R a, oLs_n b (by omega), gu_n (by omega)]
  obtain ⟨w1, w2, w3, w4⟩ := cw (oLs c (gu Gf 46 52 0)) (fun k j a b => by rw [oLs_n a (by omega), gu_n (by omega)]) (by rw [oLs_n (by decide) (by omega), gu_n (by omega)]) (by rw [oLs_n (by decide) (by omega), gu_n (by omega)])
  obtain ⟨x1, x2, x3, x4⟩ := wcl_all (W := mxw (gu Cf 83 0 v) (oLs c (gu Gf 46 52 0))) w1 w2 w3 w4 (fun k j q => by
    cases hk : isR k
    · rw [mx_C hk, mx_C hk, gu_oo _ (by unfold wcl tK at q; omega)]
    · rw [mx_R hk, mx_R hk])
  obtain ⟨p1, p2, p3⟩ := pcl_all (W := mxw (gu Cf 83 0 v) (oLs c (gu Gf 46 52 0))) hP hS1 hB (fun k j q => by
    unfold pcl at q
    cases hk : isR k
    · have := isR_f hk
      rw [eC k j hk (by omega)]
      exact cn k j (by omega) (by omega) (by unfold bbk; omega)
    · have := isR_t hk
      exact eR k j hk (by omega) (by omega))
  have o := oLs_46 (c := c) (G := gu Gf 46 52 0)
  refine ⟨p1, x1, x2, x3, p2, fun k hk => ?_, x4, ⟨?_, ?_, ?_, c, hc, ?_, ?_, fun p hp => ?_⟩, p3, ?_⟩
  · rw [eC 33 k rfl (by decide), cn 33 k (by decide) (by decide) (by unfold bbk; omega), eR 57 k rfl (by decide) (by omega)]
    exact h.2.2.2.2.2.2.1 k hk
  · rw [eC 40 0 rfl (by decide), c0, mx_R rfl, o.1, gu_ko _ (by decide)]
  · rw [eC 40 1 rfl (by decide), c1, mx_R rfl, o.2.1, gu_ko _ (by decide)]
  · rw [eC 40 2 rfl (by decide), c2, mx_R rfl, o.2.2.1, gu_ko _ (by decide)]
  · rw [eC 40 3 rfl (by decide)]; exact c3
  · rw [mx_R rfl, o.2.2.2, gu_ko _ (by decide)]; exact h64
  · rw [eC 42 p rfl (by decide), mx_R rfl, oLs_82 hp, gu_oo _ (by decide)]; exact ct p hp
  · rw [mx_R rfl, oLs_n (by decide) (by omega), gu_kk]
/-- behind what is undone -/
theorem undo_jA {N : Nat} {G X : Gt} (hR : fR N G) (hb : ∀ k j, bbk k j → X k j = G (k + 66) j) (hrs : rsd X) (h62 : ∀ k, k < 104 → X 62 k = G 62 k) (hrg : gRg X X) (hp : ∀ k j, pcl k j → X k j = G k j) (hl : ∀ k j, (k = 40 ∨ k = 42 ∨ k = 82 ∨ (k = 46 ∧ 66 ≤ j ∧ j ≤ 69)) → X k j = G k j) (h52 : X 46 52 = 0) : jA N X := by
  obtain ⟨hP, hS1, hB, hL, H, a1, a2, a3, a4, a5, a6, a7, a8⟩ := hR
  obtain ⟨p1, p2, p3⟩ := pcl_all hP hS1 hB hp
  obtain ⟨w1, w2, w3, w4⟩ := wcl_all (W := X) a1 a2 a3 a4 (fun k j w => by
    cases hk : isR k
    · have hkf := isR_f hk
      have hbk : bbk k j := by unfold wcl tK at w; unfold bbk; omega
      rw [hb k j hbk]; exact a6 k j hbk
    · exact rsd_H hrs (fun i hi => (h62 i hi).trans (a8 i hi)) w hk)
  exact ⟨p1, w1, w2, w3, p2, hrg, w4, gL_eq hL hl, p3, h52⟩
/-- cells that it does not hang on -/
def jfr (k j : Nat) : Prop := k = 83 ∨ (k = 46 ∧ j = 71) ∨ 84 ≤ k ∨ (k = 0 ∧ ¬ j = 4) ∨ k = 43 ∨ k = 45 ∨ k = 63
theorem jA_eq {N : Nat} {G X : Gt} (h : jA N G) (e : ∀ k j, ¬ jfr k j → X k j = G k j) : jA N X := by
  obtain ⟨hP, h0, h1, hS0, hS1, hRg, hOp, hL, hB, h52⟩ := h
  obtain ⟨p1, p2, p3⟩ := pcl_all hP hS1 hB (fun k j q => e k j (by unfold pcl at q; unfold jfr; omega))
  obtain ⟨w1, w2, w3, w4⟩ := wcl_all h0 h1 hS0 hOp (fun k j q => e k j (by unfold wcl tK at q; unfold jfr; omega))
  refine ⟨p1, w1, w2, w3, p2, fun k hk => ?_, w4, gL_eq hL (fun k j q => e k j (by unfold jfr; omega)), p3, ?_⟩
  · rw [e 33 k (by unfold jfr; omega), e 57 k (by unfold jfr; omega)]; exact hRg k hk
  · rw [e 46 52 (by unfold jfr; omega)]; exact h52
