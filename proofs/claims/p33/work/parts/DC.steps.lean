/-! P33: some steps; given up; places where steps stop; what is refused -/
theorem bb66 {k j : Nat} (h : bbk k j) : isR (k + 66) = false ∧ kpd (k + 66) j ∧ ¬ (k + 66 = 84 ∧ j = 10) ∧ ¬ (k + 66 = 46 ∧ j = 58) := by
  have hk : isR (k + 66) = false := by
    cases y : isR (k + 66)
    · rfl
    · have := isR_t y
      unfold bbk at h
      omega
  unfold bbk at h
  unfold kpd
  exact ⟨hk, by omega, by omega, by omega⟩
theorem r_step_B {N B m k s : Nat} {R G0 G : Gt} (hB1 : 1 ≤ B) (h : SS N B m R G0 k G) (hs1 : 1 ≤ s) (hs : s ≤ 600) : ∃ t, t ≤ s ∧ (k = 0 → 1 ≤ t) ∧ ((∃ o, SEM R B m (k + t) o ∧ isO o ∧ ∀ K : Int32 → Sh → Gt → Prop, (∀ G', lk6 G G' → fin9 N G0 (k + t) o G' → G' 11 = G 11 → K (nI t) shB G') → w_L_step_B K (nI s) G) ∨ (1 ≤ t ∧ ∀ K : Int32 → Sh → Gt → Prop, (∀ G', lk6 G G' → SS N B m R G0 (k + t) G' → G' 11 = G 11 → K (nI t) shB G') → w_L_step_B K (nI s) G)) := by
  obtain ⟨h7, hN1, hN, hkB⟩ := SV_7 (SS_V h)
  obtain ⟨z, Gs, S, ⟨hw, hf, h6, hz, hv, he, hp, hb⟩, hch, hrl⟩ := h
  subst hz
  have hx : (1 : Int32) ≤ nI s ∧ nI s ≤ 600 := ⟨(nI_leR (a := 1) rfl (by omega) (by omega)).mpr hs1, (nI_leL (a := 600) rfl (by omega) (by omega)).mpr hs⟩
  have e10 : G 84 10 = nI (z 0 0) := by rw [he 84 rfl]; exact (w_cells hw).2.2.2.1
  have hmu := mu_le hw
  have hG : mxw Gs G = G := eqc_self he
  obtain ⟨zf, Gf, n, hkq, hrv, hzf, hzS, hn1, hor⟩ := step_all (F0 := z 0 0) hs1 hs (mu z) z Gs (Nat.le_refl _) hw (Nat.le_refl _) (Or.inl rfl)
  have hfR := fR_kq hf hkq
  have f6 : Gf 84 6 = 0 := by rw [hkq 84 6 (by unfold kpd; omega) (by omega) (by omega)]; exact h6
  have eg : ∀ a b, kpd a b → a < 84 → isR a = false → Gf a b = G a b := fun a b q1 q2 q3 => by
    rw [hkq a b q1 (by omega) (by rintro ⟨rfl, _⟩; exact absurd q3 (by decide)), he a q3]
  have eb : ∀ a b, bbk a b → Gf (a + 66) b = G0 a b := fun a b q => by
    obtain ⟨u1, u2, u3, u4⟩ := bb66 q
    rw [hkq (a + 66) b u2 u3 u4, ← he (a + 66) u1]
    exact hb a b q
  refine ⟨n, by omega, fun q => hn1 (by omega), ?_⟩
  rcases hor with ⟨hfs, hres, hcl⟩ | ⟨hws, hn, hch', hcl⟩
  · left
    have hrp : rpt Gf = 40 := by unfold rpt; rw [f6]; rfl
    have hv' : ¬ Gf 84 15 = 1 → vrV (Gf 46 62) := fun q => by
      rcases hrv hv with y | y
      · exact y
      · exact absurd y.2 q
    obtain ⟨Cf, hset, c7, c10, c0, c1, ctv, cpl, cbk, ho, hJ⟩ := fin_all hfs hfR hrp hv'
    have hR : RES B S (z 0 0 + n) Gf := by
      rcases hres with ⟨a, b⟩ | ⟨Gw, a, b, c, d⟩
      · exact Or.inl ⟨chn_app _ n hch a, b, by have := hfs.2.2.2.1; omega⟩
      · exact Or.inr ⟨Gw, chn_app _ n hch a, b, by omega, d⟩
    refine ⟨Gf 46 62, ⟨S, Gf, hrl, hR, rfl⟩, ho, fun K hK => ?_⟩
    unfold w_L_step_B w_X10_step_B
    refine pif_n (iam_y hx) (pif_n (by rw [h7]; decide) ?_)
    unfold w_X2_advance
    rw [e10]
    have := hcl G (fun v G1 => K v shB G1) 0 (by omega) (by
      unfold w_X2_advance_j249
      refine pif_p ((mx_C rfl).trans hfs.1) (hset G _ ?_)
      unfold w_X2_advance_j260
      show K ((mxw Cf G) 84 10 - nI (z 0 0)) shB (mxw Cf G)
      have e : (mxw Cf G) 84 10 - nI (z 0 0) = nI n := by
        rw [mx_C rfl, c10, hfs.2.2.2.2.1, nI_sub (by omega)]
        congr 1
        omega
      rw [e]
      refine hK _ lk6_mx ⟨(mx_C rfl).trans c7, (mx_C rfl).trans c0, (mx_C rfl).trans (by rw [c1, hzf]), ctv G, fun k j q => ?_, fun q k j b => ?_, hJ G⟩ ?_
      · obtain ⟨a1, a2, a3, a4, a5, a6⟩ := pl0_b q
        rw [mx_C (pl0_f q), cpl k j (Or.inl q), eg k j a6 (by omega) (pl0_f q)]
        exact hp k j (Or.inl q)
      · rw [mx_C (bbk_f b), cbk q k j b]
        exact eb k j b
      · funext j
        rw [mx_C rfl, cpl 11 j (Or.inr rfl)]
        exact eg 11 j (by unfold kpd; omega) (by decide) rfl)
    rw [hG] at this
    exact this
  · right
    refine ⟨hn, fun K hK => ?_⟩
    unfold w_L_step_B w_X10_step_B
    refine pif_n (iam_y hx) (pif_n (by rw [h7]; decide) ?_)
    unfold w_X2_advance
    rw [e10]
    have := hcl G (fun v G1 => K v shB G1) 0 (by omega) (by
      show K (nI (zf 0 0 - z 0 0)) shB (mxw Gf G)
      rw [show zf 0 0 - z 0 0 = n by omega]
      refine hK _ lk6_mx ⟨zf, Gf, S, ⟨hws, hfR, f6, hzf, ?_, fun k q => mx_k q, fun k j q => ?_, fun k j q => ?_⟩, chn_app _ _ hch hch', hrl⟩ ?_
      · rcases hrv hv with y | y
        · exact y
        · have := (w_cells hws).1
          rw [y.1] at this
          exact absurd this (by decide)
      · have q2 : kpd k j ∧ k < 84 ∧ isR k = false := by
          rcases q with q | rfl | rfl
          · obtain ⟨a1, a2, a3, a4, a5, a6⟩ := pl0_b q
            exact ⟨a6, by omega, pl0_f q⟩
          · exact ⟨by unfold kpd; omega, by decide, rfl⟩
          · exact ⟨by unfold kpd; omega, by decide, rfl⟩
        rw [mx_C q2.2.2, eg k j q2.1 q2.2.1 q2.2.2]
        exact hp k j q
      · rw [mx_C (bb66 q).1]
        exact eb k j q
      · funext j
        rw [mx_C rfl]
        exact eg 11 j (by unfold kpd; omega) (by decide) rfl)
    rw [hG] at this
    exact this
/-- as long as it waits, no more steps are done than the run has -/
theorem SEM_wait {N B m k n : Nat} {o : Int32} {R G0 G : Gt} (h : SS N B m R G0 k G) (h2 : SEM R B m n o) : k ≤ n := by
  obtain ⟨_, _, _, hkB⟩ := SV_7 (SS_V h)
  obtain ⟨z, Gs, S, ⟨hw, _, _, _, _, _, _, _⟩, hch, hrl⟩ := h
  obtain ⟨S', Gf, a, hres, _⟩ := h2
  have h53 := w_53 hw
  have hr : rl S' S := rl_tr (rl_sy a) hrl
  rcases hres with ⟨c2, f2, l2⟩ | ⟨Gw, c2, f2, l2, _⟩
  · rcases Nat.lt_or_ge n k with q | q
    · obtain ⟨X, x1, x2⟩ := chn_cmp n k c2 hch hr (by omega)
      obtain ⟨p, hp⟩ : ∃ p, k - n = p + 1 := ⟨k - n - 1, by omega⟩
      rw [hp] at x1
      exact (no01 x1.1 (by rw [r53 x2]; exact f2)).elim
    · exact q
  · omega
/-- given up -/
theorem r_giveUp_B {N B k : Nat} {G0 G : Gt} (h : SV N B G0 k G) (K : Int32 → Sh → Gt → Prop) (hK : ∀ G', lk6 G G' → G' 84 7 = 0 → (∃ R, Jn N R G') → (∀ k j, pl0 k j ∨ k = 40 ∨ k = 42 → G' k j = G0 k j) → (∀ k j, bbk k j → G' k j = G0 k j) → G' 11 = G 11 → K (nI k) shB G') : w_L_giveUp_B K G := by
  obtain ⟨h7, hN1, hN, hkB⟩ := SV_7 h
  obtain ⟨z, Gs, hw, hf, h6, hz, hv, he, hp, hb⟩ := h
  subst hz
  have e10 : Gs 84 10 = nI (z 0 0) := (w_cells hw).2.2.2.1
  have hrg : gRg Gs Gs := by
    obtain ⟨hP, hA, hB, hC, hD, hE, hF, hG, hH, hI, hJ, hK, hL, hM, hNN, hO, hPg, hQ, hR, hS, hT, hU⟩ := hw.1
    exact hU.2.2.2.2.1
  unfold w_L_giveUp_B w_X10_giveUp_B
  refine pif_n (by rw [h7]; decide) ?_
  unfold w_X2_abandon
  have hk : pt (gu (mxw Gs G) 84 7 0) (fun G1 => w_X9_becomeButRegisters 19 85 (fun G2 => K (G2 84 10) shB G2) G1) := by
    refine ptc rfl (k_bb ?_)
    show K ((mxw (bb (gu Gs 84 7 0)) G) 84 10) shB (mxw (bb (gu Gs 84 7 0)) G)
    have e : (mxw (bb (gu Gs 84 7 0)) G) 84 10 = nI (z 0 0) := by rw [mx_C rfl, bb_n (by unfold bbk; omega), gu_ko _ (by decide), e10]
    rw [e]
    refine hK _ lk6_mx ?_ ⟨gu (rsW Gs) 46 52 0, ?_⟩ (fun k j q => ?_) (fun k j q => ?_) ?_
    · rw [mx_C rfl, bb_n (by unfold bbk; omega), gu_kk]
    · unfold Jn
      rw [mxw_mc]
      refine undo_jA hf (fun k j q => ?_) ?_ (fun k hk => ?_) (fun k hk => ?_) (fun k j q => ?_) (fun k j q => ?_) ?_
      · rw [mx_C (bbk_f q), bb_y q, gu_n (by unfold bbk at q; omega)]
      · refine rsd_eq (rsd_rsW (C := bb (gu Gs 84 7 0)) (G := Gs)) (fun k j q => ?_)
        cases hr : isR k
        · have := isR_f hr
          omega
        · rw [mx_R hr, mx_R hr, gu_n (by omega)]
      · rw [mx_R rfl, gu_oo _ (by decide), rsW_n (by decide) (by omega)]
      · have q := hrg k hk
        rw [mx_C rfl, bb_n (by unfold bbk; omega), gu_oo _ (by decide), mx_R rfl, gu_oo _ (by decide), rsW_n (by decide) (by omega)]
        exact q
      · unfold pcl at q
        cases hr : isR k
        · have := isR_f hr
          rw [mx_C hr, bb_n (by unfold bbk; omega), gu_n (by omega)]
        · have := isR_t hr
          rw [mx_R hr, gu_n (by omega), rsW_n (by omega) (by omega)]
      · cases hr : isR k
        · have := isR_f hr
          rw [mx_C hr, bb_n (by unfold bbk; omega), gu_n (by omega)]
        · have := isR_t hr
          rw [mx_R hr, gu_n (by omega), rsW_n (by omega) (by omega)]
      · rw [mx_R rfl, gu_kk]
    · have q2 : isR k = false ∧ ¬ bbk k j ∧ ¬ (k = 84 ∧ j = 7) := by
        rcases q with q | rfl | rfl
        · obtain ⟨a1, a2, a3, a4, a5, a6⟩ := pl0_b q
          exact ⟨pl0_f q, a5, by omega⟩
        · exact ⟨rfl, by unfold bbk; omega, by omega⟩
        · exact ⟨rfl, by unfold bbk; omega, by omega⟩
      rw [mx_C q2.1, bb_n q2.2.1, gu_n q2.2.2, ← he k q2.1]
      exact hp k j q
    · rw [mx_C (bbk_f q), bb_y q, gu_n (by unfold bbk at q; omega), ← he _ (bb66 q).1]
      exact hb k j q
    · funext j
      rw [mx_C rfl, bb_n (by unfold bbk; omega), gu_n (by omega), ← he 11 rfl]
  rw [eqc_self he] at hk
  exact hk
/-! places where steps stop -/
theorem r_brk_on {N m : Nat} {G : Gt} (h1 : G 1 7 = nI N) (hN : N ≤ 120) (hm : m < N) (h0 : G 11 m = 0) (K : Int32 → Sh → Gt → Prop) (hK : K 0 shB (gu G 11 m 1)) : w_L_breakAt_B K (nI m) 1 G := by
  unfold w_L_breakAt_B w_X10_breakAt_B
  refine has_y h1 hN hm (pif_n (by decide) ?_)
  rw [rat_n (by omega) (by decide)]
  refine pif_n (by rw [h0]; decide) ?_
  unfold w_X10_breakAt_B_j41 w_X10_breakAt_B_j59
  refine pif_n (by decide) ?_
  rw [rput_n (by omega) (by decide)]
  exact pt_of ⟨bz_0, pif_p rfl hK⟩
theorem r_brk_off {N m : Nat} {G : Gt} (h1 : G 1 7 = nI N) (hN : N ≤ 120) (hm : m < N) (h0 : G 11 m = 1) (K : Int32 → Sh → Gt → Prop) (hK : K 1 shB (gu G 11 m 0)) : w_L_breakAt_B K (nI m) 0 G := by
  unfold w_L_breakAt_B w_X10_breakAt_B
  refine has_y h1 hN hm (pif_n (by decide) ?_)
  rw [rat_n (by omega) (by decide)]
  refine pif_p h0 ?_
  unfold w_X10_breakAt_B_j41 w_X10_breakAt_B_j59
  refine pif_p rfl ?_
  rw [rput_n (by omega) (by decide)]
  exact pt_of ⟨bz_1, pif_n (by decide) hK⟩
theorem bk_w {N B m : Nat} {q : Int32} {z : Zt} {Gs : Gt} (hw : wST N B z Gs) (hf : fR N Gs) (hm : m < N) (hq : bz q) : wST N B z (gu (gu Gs 11 m q) 52 m q) ∧ fR N (gu (gu Gs 11 m q) 52 m q) := by
  have hP' : gP N (gu (gu Gs 11 m q) 52 m q) (gu (gu Gs 11 m q) 52 m q) := gP_bk hf.1 hm hq (by rw [gu_n (by omega), gu_kk]) (gu_kk _ _ _ _) (fun k j c => by rw [gu_n (by omega), gu_n (by omega)])
  have e : ∀ k j, ¬ frz N k j → (gu (gu Gs 11 m q) 52 m q) k j = Gs k j := fun k j c => by
    unfold frz at c
    rw [gu_n (by omega), gu_n (by omega)]
  exact ⟨wST_cg hw (Nat.le_refl _) hP' e, hP', gS1_eq hf.2.1 (fun k j c => by rw [gu_n (by omega), gu_n (by omega)]), gB_eq hf.2.2.1 (fun k j c => by rw [gu_n (by omega), gu_n (by omega)]), gL_eq hf.2.2.2.1 (fun k j c => by rw [gu_n (by omega), gu_n (by omega)]), wb_cg hf.2.2.2.2 (Nat.le_refl _) e⟩
theorem SW_bk {N B k m : Nat} {q : Int32} {z : Zt} {G0 Gs G : Gt} (h : SW N B G0 k z Gs G) (hm : m < N) (hq : bz q) : SW N B G0 k z (gu (gu Gs 11 m q) 52 m q) (gu G 11 m q) := by
  obtain ⟨hw, hf, h6, hz, hv, he, hp, hb⟩ := h
  obtain ⟨a, b⟩ := bk_w hw hf hm hq
  refine ⟨a, b, by rw [gu_n (by omega), gu_n (by omega)]; exact h6, hz, by rw [gu_n (by omega), gu_n (by omega)]; exact hv, fun k hk => ?_, fun k j c => ?_, fun k j c => ?_⟩
  · funext j
    have h52 : ¬ (k = 52 ∧ j = m) := by
      rintro ⟨rfl, _⟩
      exact absurd hk (by decide)
    rw [gu_n h52]
    by_cases c : k = 11 ∧ j = m
    · obtain ⟨rfl, rfl⟩ := c
      rw [gu_kk, gu_kk]
    · rw [gu_n c, gu_n c, he k hk]
  · have c11 : ¬ (k = 11 ∧ j = m) := by
      unfold pl0 at c
      omega
    rw [gu_n c11]
    exact hp k j c
  · rw [gu_n (by unfold bbk at c; omega)]
    exact hb k j c
theorem SS_on {N B m i : Nat} {R G0 G : Gt} (h : SS N B m R G0 0 G) (hi : i < N) : SS N B m R G0 0 (gu G 11 i 1) := by
  obtain ⟨z, Gs, S, hs, hch, hrl⟩ := h
  refine ⟨z, _, _, SW_bk hs hi bz_1, fun _ _ => rfl, rl_tr hrl (rl_tr (rl_e hch) ?_)⟩
  intro k j a b
  have := isR_t a
  rw [gu_n (by omega), gu_n (by omega)]
theorem SV_off {N B k i : Nat} {G0 G : Gt} (h : SV N B G0 k G) (hi : i < N) : SV N B G0 k (gu G 11 i 0) := by
  obtain ⟨z, Gs, hs⟩ := h
  exact ⟨z, _, SW_bk hs hi bz_0⟩
theorem Jn_off {N i : Nat} {R G : Gt} (h : Jn N R G) (hi : i < N) : Jn N (gu R 52 i 0) (gu G 11 i 0) := by
  unfold Jn at h ⊢
  have e : mxw (gu G 11 i 0) (gu R 52 i 0) = gu (gu (mxw G R) 11 i 0) 52 i 0 := by rw [mxw_gC rfl, mxw_gR rfl]
  rw [e]
  have hP' : gP N (gu (gu (mxw G R) 11 i 0) 52 i 0) (gu (gu (mxw G R) 11 i 0) 52 i 0) := gP_bk h.1 hi bz_0 (by rw [gu_n (by omega), gu_kk]) (gu_kk _ _ _ _) (fun k j c => by rw [gu_n (by omega), gu_n (by omega)])
  refine jA_cg h (Nat.le_refl _) hP' (gB_eq h.2.2.2.2.2.2.2.2.1 (fun k j c => by rw [gu_n (by omega), gu_n (by omega)])) (fun k j c => ?_) ?_
  · unfold frz at c
    rw [gu_n (by omega), gu_n (by omega)]
  · rw [gu_n (by omega), gu_n (by omega)]
    exact h.2.2.2.2.2.2.2.2.2
/-! refused while a run is stepped -/
theorem n70 {G : Gt} (h7 : G 84 7 = 1) : ¬ G 84 7 = 0 := by rw [h7]; decide
theorem rf_start {N m : Nat} {G : Gt} (h1 : G 1 7 = nI N) (hN : N ≤ 120) (hm : m < N) (h7 : G 84 7 = 1) (K : Int32 → Sh → Gt → Prop) (hK : K (-1000003) shB G) : w_L_start_B K (nI m) G := by
  unfold w_L_start_B w_X10_start_B
  exact has_y h1 hN hm (pif_n (by decide) (step_Bn (n70 h7) (pif_n (by decide) (Or.inr ⟨rfl, hK⟩))))
theorem rf_run {N m : Nat} {G : Gt} (h1 : G 1 7 = nI N) (hN : N ≤ 120) (hm : m < N) (h7 : G 84 7 = 1) (K : Int32 → Sh → Gt → Prop) (hK : K (-1000003) shB G) : w_L_run_B K (nI m) G := by
  unfold w_L_run_B w_X10_run_B
  exact has_y h1 hN hm (pif_n (by decide) (step_Bn (n70 h7) (pif_n (by decide) (Or.inr ⟨rfl, hK⟩))))
theorem rf_tried {N m : Nat} {G : Gt} (h1 : G 1 7 = nI N) (hN : N ≤ 120) (hm : m < N) (h7 : G 84 7 = 1) (K : Int32 → Sh → Gt → Prop) (hK : K (-1000003) shB G) : w_L_tried_B K (nI m) G := by
  unfold w_L_tried_B w_X10_tried_B
  exact has_y h1 hN hm (pif_n (by decide) (step_Bn (n70 h7) (pif_n (by decide) (Or.inr ⟨rfl, hK⟩))))
theorem rf_setOption {G : Gt} (h7 : G 84 7 = 1) (K : Int32 → Sh → Gt → Prop) (hK : K (-1000003) shB G) : w_L_setOption_B K 0 0 G := by
  unfold w_L_setOption_B w_X10_setOption_B
  exact pif_n (ibl_y (n := 4) rfl (by decide) (i := 0) (by decide) rfl) (pif_n (inm_y ⟨by decide, by decide⟩) (step_Bn (n70 h7) (pif_n (by decide) (Or.inr (Or.inr ⟨rfl, hK⟩)))))
theorem rf_write {G : Gt} (h7 : G 84 7 = 1) (K : Int32 → Sh → Gt → Prop) (hK : K (-1000003) shB G) : w_L_write_B K 0 0 G := by
  unfold w_L_write_B w_X10_write_B w_X10_write_B_j62
  exact pif_n (ibl_y (n := 2) rfl (by decide) (i := 0) (by decide) rfl) (pif_n (ibl_y (n := 26) rfl (by decide) (i := 0) (by decide) rfl) ⟨fun _ => Or.inr (Or.inr ⟨rfl, hK⟩), fun _ => step_Bn (n70 h7) (pif_n (by decide) (Or.inr (Or.inr ⟨rfl, hK⟩)))⟩)
theorem rf_define {N : Nat} {G : Gt} (h1 : G 1 7 = nI N) (hN : N ≤ 120) (h0 : 0 < N) (h7 : G 84 7 = 1) (K : Int32 → Sh → Gt → Prop) (hK : K (-1000003) shB G) : w_L_define_B K 0 0 0 (-1) G := by
  unfold w_L_define_B w_X10_define_B w_X10_define_B_j48 w_X10_define_B_j77
  exact pif_n (ibl_y (n := 6) rfl (by decide) (i := 0) (by decide) rfl) (has_y (i := 0) h1 hN h0 (pif_n (by decide) (pif_p rfl (pif_n (ibl_y (n := 3) rfl (by decide) (i := 0) (by decide) rfl) (pif_p rfl (step_Bn (n70 h7) (pif_n (by decide) (Or.inr (Or.inr ⟨rfl, hK⟩)))))))))
/-! refused where none is stepped -/
theorem rf_step {G : Gt} (h7 : G 84 7 = 0) (K : Int32 → Sh → Gt → Prop) (hK : K (-1000003) shB G) : w_L_step_B K 1 G := by
  unfold w_L_step_B w_X10_step_B
  exact pif_n (iam_y ⟨by decide, by decide⟩) (pif_p h7 (Or.inr ⟨rfl, hK⟩))
theorem rf_giveUp {G : Gt} (h7 : G 84 7 = 0) (K : Int32 → Sh → Gt → Prop) (hK : K (-1000003) shB G) : w_L_giveUp_B K G := by
  unfold w_L_giveUp_B w_X10_giveUp_B
  exact pif_p h7 ⟨rfl, hK⟩
theorem rf_look {G : Gt} (h7 : G 84 7 = 0) (K : Int32 → Sh → Gt → Prop) (hK : K (-1000003) shB G) : w_L_look_B K 0 G := by
  unfold w_L_look_B w_X10_look_B
  exact pif_n (ibl_y (n := 8) rfl (by decide) (i := 0) (by decide) rfl) (pif_p h7 (Or.inr ⟨rfl, hK⟩))
theorem n_0 {G : Gt} (h7 : G 84 7 = 0) (K : Int32 → Gt → Prop) (hK : K (-1) G) : w_X10_next_B K G := pif_p h7 hK
theorem a_0 {G : Gt} (h7 : G 84 7 = 0) (K : Int32 → Gt → Prop) (hK : K 0 G) : w_X10_active_B K G := pif_p h7 hK
