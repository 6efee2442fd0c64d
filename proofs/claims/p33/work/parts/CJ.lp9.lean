/-! A CALL THAT RUNS: what class and reference come to -/
theorem mxw_mc {A B R : Gt} : mxw (mxw A B) R = mxw A R := mxw_c eqc_mx
theorem mxw_mr {C A B : Gt} : mxw C (mxw A B) = mxw C B := mxw_r eqr_mx
/-- where a run stands as it begins -/
noncomputable def st0 (w : Int32) (B m : Nat) (G : Gt) : Gt := mxw (oC w (nI B) m G) (oR (nI B) m G)
theorem st0_R {w : Int32} {B m k j : Nat} {G : Gt} (h : isR k = true) : st0 w B m G k j = oR (nI B) m G k j := mx_R h
theorem rl_59 {G G' : Gt} {a b : Int32} (h : rl G G') : rl (gu G 46 59 a) (gu G' 46 59 b) := fun k j hk hn => by
  rw [gu_n (by omega), gu_n (by omega)]; exact h k j hk hn
theorem st0_rl {w1 w2 : Int32} {B1 B2 m : Nat} {G1 G2 : Gt} (h : rl G1 G2) : rl (st0 w1 B1 m G1) (st0 w2 B2 m G2) := by
  have hk : rl (oKp 104 G1) (oKp 104 G2) := fun k j a b => by
    unfold oKp
    split
    · unfold kap
      simp only [h.c (k := 58) rfl (by decide), h.c (k := 59) rfl (by decide), h.c (k := 60) rfl (by decide), h.c (k := 61) rfl (by decide), h.c (k := 56) rfl (by decide), h.c (k := 54) rfl (by decide), h.s (j := 12) (by decide), h.s (j := 14) (by decide)]
    · exact h k j a b
  have h0 : rl (or0 (nI B1) (oKp 104 G1)) (or0 (nI B2) (oKp 104 G2)) := by
    unfold or0
    refine rl_gu (rl_gu (rl_gu (rl_59 (rl_gu (rl_gu (rl_gu (rl_gu (rl_gu (rl_gu (rl_gu (rl_gu (rl_gu (rl_gu hk rfl rfl) rfl rfl) rfl rfl) rfl rfl) rfl rfl) rfl rfl) rfl rfl) rfl rfl) rfl rfl) rfl rfl)) rfl rfl) rfl rfl) rfl rfl
  have h1 : rl (oOr 0 (-1) (or0 (nI B1) (oKp 104 G1))) (oOr 0 (-1) (or0 (nI B2) (oKp 104 G2))) := by
    have g := rl_gu (k := 46) (j := 29) (v := nI (0 + 1)) (rl_gu (k := 71) (j := 0) (v := (-1 : Int32)) h0 rfl rfl) rfl rfl
    intro k j a b
    unfold oOr
    split
    · split
      · rfl
      · exact h0 72 j rfl (by omega)
    · exact g k j a b
  have h2 : rl (oR (nI B1) m G1) (oR (nI B2) m G2) := by
    unfold oR oAk oLa
    exact rl_gu (rl_gu (rl_gu (rl_gu (rl_gu (rl_gu (rl_gu (rl_gu (rl_gu h1 rfl rfl) rfl rfl) rfl rfl) rfl rfl) rfl rfl) rfl rfl) rfl rfl) rfl rfl) rfl rfl
  intro k j a b
  rw [st0_R a, st0_R a]
  exact h2 k j a b
theorem st0_w {N m B : Nat} {w : Int32} {G : Gt} (hA : jA N G) (hm : m < N) (hB2 : B ≤ 600) : wST N B (zI m) (st0 w B m G) ∧ fR N (st0 w B m G) ∧ (st0 w B m G) 84 6 = w ∧ (∀ k j, k < 84 → isR k = false → (st0 w B m G) k j = G k j) := by
  obtain ⟨hP, h0, h1, hS0, hS1, hRg, hOp, hL, hB, h52⟩ := hA
  have hw := open_w (B := B) (w := w) hP h0 h1 hS0 hS1 hRg hOp hm hB2
  have hwb := open_wb (B := B) (m := m) (w := w) h0 h1 hS0 hRg hOp
  have hO := oC_1 (w := w) (B := nI B) (m := m) (G := G)
  have eC : ∀ k j, k < 84 → isR k = false → (mxw (oC w (nI B) m G) (oR (nI B) m G)) k j = G k j := fun k j a b => by
    rw [mx_C b, oC_n (Or.inl a), ab_n (by unfold abk; omega)]
  have eR : ∀ k j, isR k = true → ¬ (k = 62 ∧ j < 104) → ¬ k = 71 ∧ ¬ k = 72 ∧ ¬ (64 ≤ k ∧ k ≤ 67) → (k = 46 → j = 0 ∨ j = 12 ∨ j = 13 ∨ j = 14 ∨ j = 52 ∨ (66 ≤ j ∧ j ≤ 69) ∨ j = 71) → (mxw (oC w (nI B) m G) (oR (nI B) m G)) k j = G k j := fun k j a b c d => by
    rw [mx_R a, oR_n b c d]
  obtain ⟨p1, p2, p3⟩ := pcl_all (W := mxw (oC w (nI B) m G) (oR (nI B) m G)) hP hS1 hB (fun k j h => by
    unfold pcl at h
    cases hk : isR k
    · have := isR_f hk
      exact eC k j (by omega) hk
    · have := isR_t hk
      exact eR k j hk (by omega) (by omega) (by omega))
  have pL : gL (mxw (oC w (nI B) m G) (oR (nI B) m G)) (mxw (oC w (nI B) m G) (oR (nI B) m G)) := gL_eq hL (fun k j h => by
    cases hk : isR k
    · have := isR_f hk
      exact eC k j (by omega) hk
    · have := isR_t hk
      exact eR k j hk (by omega) (by omega) (by omega))
  exact ⟨hw, ⟨p1, p2, p3, pL, hwb⟩, by unfold st0; rw [mx_C rfl]; exact hO.2.2.2.2.2.2.2.2.2.2.1, eC⟩
theorem st0_46 {w : Int32} {B m : Nat} {G : Gt} : (st0 w B m G) 46 53 = 0 ∧ (st0 w B m G) 46 62 = 0 ∧ ((st0 w B m G) 46 52 = G 46 52) := by
  refine ⟨rfl, rfl, ?_⟩
  rw [st0_R rfl, oR_n (by omega) (by omega) (by omega)]
theorem st0_99 {w : Int32} {B m j : Nat} {G : Gt} (hj : j < 4) : (st0 w B m G) 99 j = G 33 j := by
  unfold st0
  rw [mx_C rfl, oC_n (Or.inr (by omega))]
  exact ab_y (by unfold abk; omega)
theorem st0_b {w : Int32} {B m k j : Nat} {G : Gt} (h : bbk k j) : (st0 w B m G) (k + 66) j = G k j := by
  have hk : isR (k + 66) = false := by
    cases q : isR (k + 66)
    · rfl
    · have := isR_t q
      unfold bbk at h
      omega
  unfold st0
  rw [mx_C hk, oC_n (Or.inr (by unfold bbk at h; omega)), ab_y (by unfold bbk at h; unfold abk; omega), Nat.add_sub_cancel]
/-- all of a run -/
theorem run_core {N m B q : Nat} {G : Gt} (hq : q = 40 ∨ q = 43) (hA : jA N G) (hm : m < N) (hB1 : 1 ≤ B) (hB2 : B ≤ 600) (hB : G 0 4 = nI B) : ∃ (z : Zt) (n : Nat) (Gf : Gt), fST N B z Gf ∧ fR N Gf ∧ rpt Gf = q ∧ z 0 0 = n ∧ 1 ≤ n ∧ n ≤ B ∧ RES B (st0 (if q = 40 then 0 else 1) B m G) n Gf ∧ (¬ Gf 84 15 = 1 → vrV (Gf 46 62)) ∧ kq (st0 (if q = 40 then 0 else 1) B m G) Gf ∧
    (∀ (R : Gt) (K : Int32 → Gt → Prop), w_X2_advance_j249 K 0 (mxw Gf R) → w_X2_open q (fun G6 => w_X2_advance K 601 0 G6) (nI m) (G 0 4) (mxw G R)) := by
  have hm120 : m < 120 := by have := hA.1.1; omega
  obtain ⟨hw, hf0, h6, eC⟩ := st0_w (B := B) (w := if q = 40 then 0 else 1) hA hm hB2
  obtain ⟨zf, Gf, n, hf, hkq, hrv, hz, hres, hc⟩ := run_all 12020 (zI m) _ (Nat.le_of_eq zI_mu) hw
  have hz0 : zf 0 0 = n := by rw [hz]; exact Nat.zero_add n
  have hnB : n ≤ B := by rw [← hz0]; exact hf.2.2.2.1
  have hR : RES B (st0 (if q = 40 then 0 else 1) B m G) n Gf := by
    rcases hres with ⟨a, b⟩ | ⟨Gw, a, b, c, d⟩
    · exact Or.inl ⟨a, b, hnB⟩
    · exact Or.inr ⟨Gw, a, b, by omega, d⟩
  have hn1 : 1 ≤ n := by
    rcases hR with ⟨a, b, _⟩ | ⟨Gw, a, b, c, d⟩
    · rcases Nat.eq_zero_or_pos n with e | e
      · subst e
        have a : eqr _ _ := a
        exact (no01 (st0_46 (w := if q = 40 then 0 else 1) (B := B) (m := m) (G := G)).1 (by rw [← a 46 rfl]; exact b)).elim
      · exact e
    · omega
  refine ⟨zf, n, Gf, hf, fR_kq hf0 hkq, ?_, hz0, hn1, hnB, hR, fun h15 => ?_, hkq, fun R K hk => ?_⟩
  · unfold rpt
    rw [hkq 84 6 (by unfold kpd; omega) (by omega) (by omega), h6]
    rcases hq with rfl | rfl
    · rw [if_pos rfl, if_pos rfl]
    · exact if_neg (by decide)
  · rcases hrv (Or.inl (by rw [st0_46.2.1]; unfold isnum; decide)) with v | v
    · exact v
    · exact absurd v.2 h15
  · rw [hB]
    refine k_opn hm120 ?_
    have e := hc R K 0 (by rw [zI_mu]; omega) hk
    unfold st0 at e
    rw [mxw_mc] at e
    have e10 : (mxw (oC (if q = 40 then 0 else 1) (nI B) m G) R) 84 10 = nI 0 := by rw [mx_C rfl]; exact oC_1.2.2.2.1
    unfold w_X2_advance
    rw [e10]
    exact e
/-- behind a run that is told of -/
theorem fin_jA {N B : Nat} {z : Zt} {Gf : Gt} (h : fST N B z Gf) (hR : fR N Gf) (hr : rpt Gf = 40) : ∃ Cf c, c ≤ 13 ∧ Gf 46 64 = nI c ∧ (∀ (R : Gt) (K : Gt → Prop), K (mxw Cf R) → w_X2_settle K (mxw Gf R)) ∧ Cf 40 0 = Gf 46 62 ∧ Cf 84 7 = 0 ∧ Cf 84 10 = Gf 84 10 ∧ Cf 40 1 = Gf 46 58 ∧ Cf 40 2 = Gf 46 63 ∧ Cf 40 3 = nI c ∧ (∀ p, p < c → Cf 42 p = Gf 81 p) ∧ (∀ k j, ¬ k = 40 → ¬ k = 42 → ¬ bbk k j → Cf k j = Gf k j) ∧ (Gf 84 15 = 1 → ∀ k j, bbk k j → Cf k j = Gf (k + 66) j) ∧ ∀ v, jA N (mxw (gu Cf 83 0 v) (oLs c (gu Gf 46 52 0))) := by
  obtain ⟨hP, hS1, hB, hL, hwb⟩ := id hR
  obtain ⟨Cf, c, hc, h64, hset, c0, c1, c2, c3, ct, cn, cb, cw⟩ := fin_set h (Or.inl rfl) hr hwb
  refine ⟨Cf, c, hc, h64, hset, c0, (cn 84 7 (by decide) (by decide) (by unfold bbk; omega)).trans h.1, cn 84 10 (by decide) (by decide) (by unfold bbk; omega), c1, c2, c3, ct, cn, cb, fun v => ?_⟩
  have eC : ∀ k j, isR k = false → ¬ k = 83 → (mxw (gu Cf 83 0 v) (oLs c (gu Gf 46 52 0))) k j = Cf k j := fun k j a b => by rw [mx_C a, gu_oo _ b]
  have eR : ∀ k j, isR k = true → ¬ k = 82 → ¬ (k = 46 ∧ (j = 52 ∨ (66 ≤ j ∧ j ≤ 69))) → (mxw (gu Cf 83 0 v) (oLs c (gu Gf 46 52 0))) k j = Gf k j := fun k j a b d => by
    rw [mx_R a, oLs_n b (by omega), gu_n (by omega)]
  obtain ⟨w1, w2, w3, w4⟩ := cw (oLs c (gu Gf 46 52 0)) (fun k j a b => by rw [oLs_n a (by omega), gu_n (by omega)]) (by rw [oLs_n (by decide) (by omega), gu_n (by omega)]) (by rw [oLs_n (by decide) (by omega), gu_n (by omega)])
  obtain ⟨x1, x2, x3, x4⟩ := wcl_all (W := mxw (gu Cf 83 0 v) (oLs c (gu Gf 46 52 0))) w1 w2 w3 w4 (fun k j q => by
    cases hk : isR k
    · rw [mx_C hk, mx_C hk, gu_oo _ (by unfold wcl tK at q; omega)]
    · rw [mx_R hk, mx_R hk])
  obtain ⟨p1, p2, p3⟩ := pcl_all (W := mxw (gu Cf 83 0 v) (oLs c (gu Gf 46 52 0))) hP hS1 hB (fun k j q => by
    unfold pcl at q
    cases hk : isR k
    · have := isR_f hk
      rw [eC k j hk (by omega)]
      exact cn k j (by omega) (by omega) (by unfold bbk; omega)
    · have := isR_t hk
      exact eR k j hk (by omega) (by omega))
  have o := oLs_46 (c := c) (G := gu Gf 46 52 0)
  refine ⟨p1, x1, x2, x3, p2, fun k hk => ?_, x4, ⟨?_, ?_, ?_, c, hc, ?_, ?_, fun p hp => ?_⟩, p3, ?_⟩
  · rw [eC 33 k rfl (by decide), cn 33 k (by decide) (by decide) (by unfold bbk; omega), eR 57 k rfl (by decide) (by omega)]
    exact h.2.2.2.2.2.2.1 k hk
  · rw [eC 40 0 rfl (by decide), c0, mx_R rfl, o.1, gu_ko _ (by decide)]
  · rw [eC 40 1 rfl (by decide), c1, mx_R rfl, o.2.1, gu_ko _ (by decide)]
  · rw [eC 40 2 rfl (by decide), c2, mx_R rfl, o.2.2.1, gu_ko _ (by decide)]
  · rw [eC 40 3 rfl (by decide)]; exact c3
  · rw [mx_R rfl, o.2.2.2, gu_ko _ (by decide)]; exact h64
  · rw [eC 42 p rfl (by decide), mx_R rfl, oLs_82 hp, gu_oo _ (by decide)]; exact ct p hp
  · rw [mx_R rfl, oLs_n (by decide) (by omega), gu_kk]
/-- behind what is undone -/
theorem undo_jA {N : Nat} {G X : Gt} (hR : fR N G) (hb : ∀ k j, bbk k j → X k j = G (k + 66) j) (hrs : rsd X) (h62 : ∀ k, k < 104 → X 62 k = G 62 k) (hrg : gRg X X) (hp : ∀ k j, pcl k j → X k j = G k j) (hl : ∀ k j, (k = 40 ∨ k = 42 ∨ k = 82 ∨ (k = 46 ∧ 66 ≤ j ∧ j ≤ 69)) → X k j = G k j) (h52 : X 46 52 = 0) : jA N X := by
  obtain ⟨hP, hS1, hB, hL, H, a1, a2, a3, a4, a5, a6, a7, a8⟩ := hR
  obtain ⟨p1, p2, p3⟩ := pcl_all hP hS1 hB hp
  obtain ⟨w1, w2, w3, w4⟩ := wcl_all (W := X) a1 a2 a3 a4 (fun k j w => by
    cases hk : isR k
    · have hkf := isR_f hk
      have hbk : bbk k j := by unfold wcl tK at w; unfold bbk; omega
      rw [hb k j hbk]; exact a6 k j hbk
    · exact rsd_H hrs (fun i hi => (h62 i hi).trans (a8 i hi)) w hk)
  exact ⟨p1, w1, w2, w3, p2, hrg, w4, gL_eq hL hl, p3, h52⟩
/-- cells that it does not hang on -/
def jfr (k j : Nat) : Prop := k = 83 ∨ (k = 46 ∧ j = 71) ∨ 84 ≤ k ∨ (k = 0 ∧ ¬ j = 4) ∨ k = 43 ∨ k = 45 ∨ k = 63
theorem jA_eq {N : Nat} {G X : Gt} (h : jA N G) (e : ∀ k j, ¬ jfr k j → X k j = G k j) : jA N X := by
  obtain ⟨hP, h0, h1, hS0, hS1, hRg, hOp, hL, hB, h52⟩ := h
  obtain ⟨p1, p2, p3⟩ := pcl_all hP hS1 hB (fun k j q => e k j (by unfold pcl at q; unfold jfr; omega))
  obtain ⟨w1, w2, w3, w4⟩ := wcl_all h0 h1 hS0 hOp (fun k j q => e k j (by unfold wcl tK at q; unfold jfr; omega))
  refine ⟨p1, w1, w2, w3, p2, fun k hk => ?_, w4, gL_eq hL (fun k j q => e k j (by unfold jfr; omega)), p3, ?_⟩
  · rw [e 33 k (by unfold jfr; omega), e 57 k (by unfold jfr; omega)]; exact hRg k hk
  · rw [e 46 52 (by unfold jfr; omega)]; exact h52
