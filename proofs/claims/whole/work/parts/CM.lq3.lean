/-! THE CALLS THAT RUN, in the law -/
def cmps (I : Gt → Prop) (v1 : Int32) (G : Gt) : Prop := w_X11_thrown (fun v G5 => pif (v = v1) (I G5) False) G
theorem cmps_x {I : Gt → Prop} {v : Int32} {G : Gt} (h1 : G 46 71 = v) (h : I G) : cmps I v G := by
  unfold cmps w_X11_thrown
  exact pif_p h1 h
theorem c_tried_o {I : Gt → Prop} {N m : Nat} {G : Gt} (hA : jA N G) (hm : m < N) (hI : ∀ X, jA N X → X 84 7 = 0 → I X) : w_X2_open 43 (fun G2 => w_X2_advance (fun _ G3 => w_X9_become 19 85 (fun G5 => pt (gu G5 83 (0 : Int32).toNatClampNeg (G5 43 0)) fun G2 => (shB = shB ∧ w_X11_tried (fun v4 G3 => cmpt I 0 v4 G3) (nI m) G2)) G3) 601 0 G2) (nI m) (G 0 4) G := by
  obtain ⟨hN, h1, h2, h9, h11⟩ := gP_n hA.1
  obtain ⟨Cx, Rx, hc, hr, e0, e1, e71, c7, hj⟩ := try_core (jA_71 (t := 0) hA) hm
  have h := hc G (fun G5 => pt (gu G5 83 (0 : Int32).toNatClampNeg (G5 43 0)) fun G2 => (shB = shB ∧ w_X11_tried (fun v4 G3 => cmpt I 0 v4 G3) (nI m) G2)) (by
    show pt (gu (mxw Cx G) 83 0 ((mxw Cx G) 43 0)) _
    refine ptc rfl ⟨rfl, ?_⟩
    unfold w_X11_tried w_X11_tried_j16
    refine tries_y (N := N) ((mx_R rfl).trans h2) hN hm ((mx_R rfl).trans hA.2.2.2.2.2.2.2.2.2) ?_
    rw [mxw_gR rfl]
    refine hr _ _ (pif_n (by decide) ?_)
    refine cmpt_0 ?_ ?_ (hI _ (hj _) ?_)
    · rw [mx_R rfl, e71, gu_kk]
    · rw [mx_C rfl, gu_kk, mx_C rfl, e0, mx_R rfl]
    · rw [mx_C rfl, gu_oo _ (by decide)]; exact c7)
  rw [eq71, mxw_self, gu_oo _ (by decide)] at h
  exact h
theorem c_triedSteps_o {I : Gt → Prop} {N m : Nat} {G : Gt} (hA : jA N G) (hm : m < N) (hI : ∀ X, jA N X → X 84 7 = 0 → I X) : w_X2_open 43 (fun G2 => w_X2_advance (fun _ G3 => w_X9_become 19 85 (fun G5 => pt (gu G5 83 (0 : Int32).toNatClampNeg (G5 43 1)) fun G2 => (shB = shB ∧ w_X11_triedSteps (fun v4 G3 => cmpt I 0 v4 G3) (nI m) G2)) G3) 601 0 G2) (nI m) (G 0 4) G := by
  obtain ⟨hN, h1, h2, h9, h11⟩ := gP_n hA.1
  obtain ⟨Cx, Rx, hc, hr, e0, e1, e71, c7, hj⟩ := try_core (jA_71 (t := 0) hA) hm
  have h := hc G (fun G5 => pt (gu G5 83 (0 : Int32).toNatClampNeg (G5 43 1)) fun G2 => (shB = shB ∧ w_X11_triedSteps (fun v4 G3 => cmpt I 0 v4 G3) (nI m) G2)) (by
    show pt (gu (mxw Cx G) 83 0 ((mxw Cx G) 43 1)) _
    refine ptc rfl ⟨rfl, ?_⟩
    unfold w_X11_triedSteps w_X11_triedSteps_j16
    refine tries_y (N := N) ((mx_R rfl).trans h2) hN hm ((mx_R rfl).trans hA.2.2.2.2.2.2.2.2.2) ?_
    rw [mxw_gR rfl]
    refine hr _ _ (pif_n (by decide) ?_)
    refine cmpt_0 ?_ ?_ (hI _ (hj _) ?_)
    · rw [mx_R rfl, e71, gu_kk]
    · rw [mx_C rfl, gu_kk, mx_C rfl, e1, mx_R rfl]
    · rw [mx_C rfl, gu_oo _ (by decide)]; exact c7)
  rw [eq71, mxw_self, gu_oo _ (by decide)] at h
  exact h
theorem bk_fR {N m B : Nat} {w : Int32} {G : Gt} (hA : jA N G) (hm : m < N) (hB2 : B ≤ 600) : wST N B (zI m) (mxw (oC w (nI B) m G) (oR (nI B) m G)) ∧ fR N (mxw (oC w (nI B) m G) (oR (nI B) m G)) ∧ (mxw (oC w (nI B) m G) (oR (nI B) m G)) 84 6 = w ∧ (mxw (oC w (nI B) m G) (oR (nI B) m G)) 46 71 = G 46 71 := by
  obtain ⟨hP, h0, h1, hS0, hS1, hRg, hOp, hL, hB, h52⟩ := hA
  have hw := open_w (B := B) (w := w) hP h0 h1 hS0 hS1 hRg hOp hm hB2
  have hwb := open_wb (B := B) (m := m) (w := w) h0 h1 hS0 hRg hOp
  have hO := oC_1 (w := w) (B := nI B) (m := m) (G := G)
  have eC : ∀ k j, k < 84 → isR k = false → (mxw (oC w (nI B) m G) (oR (nI B) m G)) k j = G k j := fun k j a b => by
    rw [mx_C b, oC_n (Or.inl a), ab_n (by unfold abk; omega)]
  have eR : ∀ k j, isR k = true → ¬ (k = 62 ∧ j < 104) → ¬ k = 71 ∧ ¬ k = 72 ∧ ¬ (64 ≤ k ∧ k ≤ 67) → (k = 46 → j = 0 ∨ j = 12 ∨ j = 13 ∨ j = 14 ∨ j = 52 ∨ (66 ≤ j ∧ j ≤ 69) ∨ j = 71) → (mxw (oC w (nI B) m G) (oR (nI B) m G)) k j = G k j := fun k j a b c d => by
    rw [mx_R a, oR_n b c d]
  obtain ⟨p1, p2, p3⟩ := pcl_all (W := mxw (oC w (nI B) m G) (oR (nI B) m G)) hP hS1 hB (fun k j h => by
    unfold pcl at h
    cases hk : isR k
    · have := isR_f hk
      exact eC k j (by omega) hk
    · have := isR_t hk
      exact eR k j hk (by omega) (by omega) (by omega))
  have pL : gL (mxw (oC w (nI B) m G) (oR (nI B) m G)) (mxw (oC w (nI B) m G) (oR (nI B) m G)) := gL_eq hL (fun k j h => by
    cases hk : isR k
    · have := isR_f hk
      exact eC k j (by omega) hk
    · have := isR_t hk
      exact eR k j hk (by omega) (by omega) (by omega))
  refine ⟨hw, ⟨p1, p2, p3, pL, hwb⟩, ?_, eR 46 71 rfl (by omega) (by omega) (by omega)⟩
  rw [mx_C rfl]; exact hO.2.2.2.2.2.2.2.2.2.2.1
theorem c_start_o {I : Gt → Prop} {N m : Nat} {G : Gt} (hA : jA N G) (hm : m < N) (hI : ∀ X B z, wST N B z X → fR N X → X 84 6 = 0 → X 46 52 = 1 → I X) : w_X2_open 40 (fun G6 => (shB = shB ∧ w_X11_start (fun G3 => cmps I 0 G3) (nI m) G6)) (nI m) (G 0 4) G := by
  obtain ⟨hN, h1, h2, h9, h11⟩ := gP_n hA.1
  have hA' := jA_71 (t := 0) hA
  obtain ⟨b0, B, bB1, bB2, bB⟩ := hA'.2.2.2.2.2.2.2.2.1
  obtain ⟨hw, hf, w6, w71⟩ := bk_fR (w := 0) hA' hm bB2
  have hm120 : m < 120 := by omega
  have h : w_X2_open 40 (fun G6 => (shB = shB ∧ w_X11_start (fun G3 => cmps I 0 G3) (nI m) G6)) (nI m) (nI B) (mxw (gu G 46 71 0) G) := by
    refine k_opn hm120 ⟨rfl, ?_⟩
    rw [if_pos rfl]
    refine start_y (N := N) ((mx_R rfl).trans h2) hN hm ((mx_R rfl).trans hA.2.2.2.2.2.2.2.2.2) ?_
    rw [mxw_gR rfl]
    refine r_prep bB (ptr rfl ?_)
    rw [← mxw_gR rfl]
    have hX : wST N B (zI m) (gu (mxw (oC 0 (nI B) m (gu G 46 71 0)) (oR (nI B) m (gu G 46 71 0))) 46 52 1) := wST_cg hw (Nat.le_refl _) (gP_eq hf.1 (fun k j q => gu_n (by omega))) (fun k j q => gu_n (by unfold frz at q; omega))
    refine cmps_x ?_ (hI _ B (zI m) hX ⟨hX.1.1, gS1_eq hf.2.1 (fun k j q => gu_n (by omega)), gB_eq hf.2.2.1 (fun k j q => gu_n (by omega)), gL_eq hf.2.2.2.1 (fun k j q => gu_n (by omega)), wb_cg hf.2.2.2.2 (Nat.le_refl _) (fun k j q => gu_n (by unfold frz at q; omega))⟩ ?_ (gu_kk _ _ _ _))
    · rw [gu_ko _ (by decide), w71, gu_kk]
    · rw [gu_oo _ (by decide), w6]
  have e04 : G 0 4 = nI B := by
    have := b0.trans bB
    rw [gu_oo _ (by decide)] at this
    exact this
  rw [eq71, mxw_self] at h
  rw [e04]
  exact h
theorem sm_le1 {f : Nat → Nat} : ∀ {n : Nat}, (∀ i, i < n → f i ≤ 1) → sm f n ≤ n
  | 0, _ => Nat.le_refl _
  | n + 1, h => by
    have a := sm_le1 (n := n) (fun i hi => h i (by omega))
    have b := h n (by omega)
    show sm f n + f n ≤ n + 1
    omega
theorem mu_le {N B : Nat} {z : Zt} {G : Gt} (h : wST N B z G) : mu z ≤ 18020 := by
  obtain ⟨c1, c2, c3, c4, c5, c6, c7, c8, c9, c10, c11⟩ := w_cells h
  obtain ⟨hP, hA, hB, hC, hD, hE, hF, hG, hH, hI, hJ, hK, hL, hM, hNN, hO, hPg, hQ, hR, hS, hT, hU⟩ := h.1
  have := sm_le1 (f := z 21) (n := z 0 0) (fun i hi => (hR.2.2.2 i hi).2)
  unfold mu
  omega
theorem wR_eq {N B : Nat} {z : Zt} {G X : Gt} (hw : wST N B z G) (hf : fR N G) (e : ∀ k j, ¬ (k = 83 ∨ (k = 46 ∧ j = 71)) → X k j = G k j) : wST N B z X ∧ fR N X := by
  obtain ⟨p1, p2, p3⟩ := pcl_all hf.1 hf.2.1 hf.2.2.1 (fun k j q => e k j (by unfold pcl at q; omega))
  exact ⟨wST_cg hw (Nat.le_refl _) p1 (fun k j q => e k j (by unfold frz at q; omega)), p1, p2, p3, gL_eq hf.2.2.2.1 (fun k j q => e k j (by omega)), wb_cg hf.2.2.2.2 (Nat.le_refl _) (fun k j q => e k j (by unfold frz at q; omega))⟩
/-- some steps -/
theorem c_step_o {N B S : Nat} {z : Zt} {G : Gt} (hS1 : 1 ≤ S) (hS : S ≤ 600) (hw : wST N B z G) (hf : fR N G) (h6 : G 84 6 = 0) (h5 : G 46 52 = 1) : w_X2_advance (fun v G1 => pt (gu G1 83 (0 : Int32).toNatClampNeg v) fun G2 => (shB = shB ∧ w_X11_step (fun v4 G3 => cmpt IB 0 v4 G3) (nI S) G2)) (nI S) 1 G := by
  obtain ⟨hw', hf'⟩ := wR_eq (X := gu G 46 71 0) hw hf (fun k j q => gu_n (by omega))
  have hx : (1 : Int32) ≤ nI S ∧ nI S ≤ 600 := by
    exact ⟨(nI_leR (a := 1) rfl (by omega) (by omega)).mpr hS1, (nI_leL (a := 600) rfl (by omega) (by omega)).mpr hS⟩
  have e10 : G 84 10 = nI (z 0 0) := (w_cells hw).2.2.2.1
  have hmu := mu_le hw'
  obtain ⟨zf, Gf, hkq, hF, hor⟩ := step_all (F0 := z 0 0) hS1 hS (mu z) z (gu G 46 71 0) (Nat.le_refl _) hw' (Nat.le_refl _) (Or.inl rfl)
  have f71 : Gf 46 71 = 0 := by rw [hkq 46 71 (by unfold kpc; omega) (by omega) (by omega), gu_kk]
  have f6 : Gf 84 6 = 0 := by rw [hkq 84 6 (by unfold kpc; omega) (by omega) (by omega), gu_oo _ (by decide)]; exact h6
  have f52 : Gf 46 52 = 1 := by rw [hkq 46 52 (by unfold kpc; omega) (by omega) (by omega), gu_ko _ (by decide)]; exact h5
  have hfR := fR_kq hf' hkq
  have key : ∀ C : Gt, (∃ i, w_X11_step_h26 (fun v4 G3 => cmpt IB 0 v4 G3) i (nI S) 0 1 (mxw C (gu G 46 71 0))) → w_X11_step (fun v4 G3 => cmpt IB 0 v4 G3) (nI S) (mxw C G) := fun C h => by
    unfold w_X11_step
    refine in_y hx (goes_y (by decide) (by rw [mx_R rfl, h5]; decide) (by decide) (pif_n (by decide) ?_))
    rw [mxw_gR rfl]
    exact h
  unfold w_X2_advance
  rw [e10]
  rcases hor with ⟨hfs, hcl, hrf⟩ | ⟨hws, hcl, hrf⟩
  · have hrp : rpt Gf = 40 := by unfold rpt; rw [f6]; rfl
    obtain ⟨Cf, c, hc13, h64, hset, c0, c7, c10, hj⟩ := fin_jA hfs hfR hrp
    have h := hcl G (fun v G1 => pt (gu G1 83 (0 : Int32).toNatClampNeg v) fun G2 => (shB = shB ∧ w_X11_step (fun v4 G3 => cmpt IB 0 v4 G3) (nI S) G2)) 0 (by omega) (by
      unfold w_X2_advance_j249
      refine pif_p ((mx_C rfl).trans hfs.1) (hset G _ ?_)
      unfold w_X2_advance_j260
      show pt (gu (mxw Cf G) 83 0 ((mxw Cf G) 84 10 - nI (z 0 0))) _
      refine ptc rfl ⟨rfl, key _ ?_⟩
      have hr := hrf (gu Cf 83 0 ((mxw Cf G) 84 10 - nI (z 0 0))) (fun v4 G3 => cmpt IB 0 v4 G3) (ptr rfl (r_lasts ((gu_ko _ (by decide)).trans h64) hc13 (cmpt_0 ?_ ?_ ⟨N, Or.inl ⟨hj _, ?_⟩⟩)))
      · rw [Nat.sub_self] at hr
        exact hr
      · rw [mx_R rfl, oLs_n (by decide) (by omega), gu_ko _ (by decide)]; exact f71
      · rw [mx_C rfl, gu_kk, mx_C rfl, c10, hfs.2.2.2.2.1, nI_sub hF]
      · rw [mx_C rfl, gu_oo _ (by decide)]; exact c7)
    rw [eq71, mxw_self] at h
    exact h
  · have h := hcl G (fun v G1 => pt (gu G1 83 (0 : Int32).toNatClampNeg v) fun G2 => (shB = shB ∧ w_X11_step (fun v4 G3 => cmpt IB 0 v4 G3) (nI S) G2)) 0 (by omega) (by
      show pt (gu (mxw Gf G) 83 0 (nI (zf 0 0 - z 0 0))) _
      refine ptc rfl ⟨rfl, key _ ?_⟩
      have eX : ∀ k j, ¬ (k = 83 ∨ (k = 46 ∧ j = 71)) → (mxw (gu Gf 83 0 (nI (zf 0 0 - z 0 0))) Gf) k j = Gf k j := fun k j q => by
        cases hk : isR k
        · rw [mx_C hk, gu_n (by omega)]
        · rw [mx_R hk]
      obtain ⟨x1, x2⟩ := wR_eq hws hfR eX
      have hr := hrf (gu Gf 83 0 (nI (zf 0 0 - z 0 0))) (fun v4 G3 => cmpt IB 0 v4 G3) (cmpt_0 ((mx_R rfl).trans f71) ((mx_C rfl).trans (gu_kk _ _ _ _)) ⟨N, Or.inr ⟨B, zf, x1, x2, (eX 84 6 (by omega)).trans f6, (eX 46 52 (by omega)).trans f52⟩⟩)
      rw [Nat.sub_self] at hr
      exact hr)
    rw [eq71, mxw_self] at h
    exact h
/-- given up -/
theorem c_give_o {N B : Nat} {z : Zt} {G : Gt} (hw : wST N B z G) (hf : fR N G) (h5 : G 46 52 = 1) : w_X2_abandon (fun v G1 => pt (gu G1 83 (0 : Int32).toNatClampNeg v) fun G2 => (shB = shB ∧ w_X11_giveUp (fun v4 G3 => cmpt IB 0 v4 G3) G2)) G := by
  obtain ⟨hw', hf'⟩ := wR_eq (X := gu G 46 71 0) hw hf (fun k j q => gu_n (by omega))
  have e10 : (gu G 46 71 0) 84 10 = nI (z 0 0) := (w_cells hw').2.2.2.1
  have e58 : (gu G 46 71 0) 46 58 = nI (z 0 0) := by
    obtain ⟨hP, hA, hB, hC, hD, hE, hF, hG, hH, hI, hJ, hK, hL, hM, hNN, hO, hPg, hQ, hR, hS, hT, hU⟩ := hw'.1
    exact hQ.2.2.2.2.2.2.2.1
  have hrg : gRg (gu G 46 71 0) (gu G 46 71 0) := by
    obtain ⟨hP, hA, hB, hC, hD, hE, hF, hG, hH, hI, hJ, hK, hL, hM, hNN, hO, hPg, hQ, hR, hS, hT, hU⟩ := hw'.1
    exact hU.2.2.2.2.1
  have h52' : (gu G 46 71 0) 46 52 = 1 := by rw [gu_ko _ (by decide)]; exact h5
  unfold w_X2_abandon
  have h : pt (gu (mxw (gu G 46 71 0) G) 84 7 0) (fun G1 => w_X9_becomeButRegisters 19 85 (fun G2 => pt (gu G2 83 (0 : Int32).toNatClampNeg (G2 84 10)) fun G2 => (shB = shB ∧ w_X11_giveUp (fun v4 G3 => cmpt IB 0 v4 G3) G2)) G1) := by
    refine ptc rfl (k_bb ?_)
    show pt (gu (mxw (bb (gu (gu G 46 71 0) 84 7 0)) G) 83 0 ((mxw (bb (gu (gu G 46 71 0) 84 7 0)) G) 84 10)) _
    refine ptc rfl ⟨rfl, ?_⟩
    unfold w_X11_giveUp
    refine goes_y (by rw [mx_R rfl, h5]; decide) (by decide) (by decide) (pif_n (by decide) ?_)
    rw [mxw_gR rfl]
    refine r_rest (ptr rfl (cmpt_0 ?_ ?_ ⟨N, Or.inl ⟨undo_jA hf' (fun k j q => ?_) ?_ (fun k hk => ?_) (fun k hk => ?_) (fun k j q => ?_) (fun k j q => ?_) ?_, ?_⟩⟩))
    · rw [mx_R rfl, gu_ko _ (by decide), rsW_n (by decide) (by omega), gu_kk]
    · rw [mx_C rfl, gu_kk, mx_C rfl, bb_n (by unfold bbk; omega), gu_ko _ (by decide), e10, mx_R rfl, gu_ko _ (by decide), rsW_n (by decide) (by omega), e58]
    · rw [mx_C (bbk_f q), gu_oo _ (by unfold bbk at q; omega), bb_y q, gu_n (by unfold bbk at q; omega)]
    · refine rsd_eq (rsd_rsW (C := gu (bb (gu (gu G 46 71 0) 84 7 0)) 83 0 ((mxw (bb (gu (gu G 46 71 0) 84 7 0)) G) 84 10)) (G := gu G 46 71 0)) (fun k j q => ?_)
      cases hr : isR k
      · have := isR_f hr
        omega
      · rw [mx_R hr, mx_R hr, gu_n (by omega)]
    · rw [mx_R rfl, gu_oo _ (by decide), rsW_n (by decide) (by omega)]
    · have q := hrg k hk
      rw [gu_oo _ (by decide), gu_oo _ (by decide)] at q
      rw [mx_C rfl, gu_oo _ (by decide), bb_n (by unfold bbk; omega), gu_oo _ (by decide), gu_oo _ (by decide), mx_R rfl, gu_oo _ (by decide), rsW_n (by decide) (by omega), gu_oo _ (by decide)]
      exact q
    · unfold pcl at q
      cases hr : isR k
      · have := isR_f hr
        rw [mx_C hr, gu_oo _ (by omega), bb_n (by unfold bbk; omega), gu_n (by omega)]
      · have := isR_t hr
        rw [mx_R hr, gu_n (by omega), rsW_n (by omega) (by omega)]
    · cases hr : isR k
      · have := isR_f hr
        rw [mx_C hr, gu_oo _ (by omega), bb_n (by unfold bbk; omega), gu_n (by omega)]
      · have := isR_t hr
        rw [mx_R hr, gu_n (by omega), rsW_n (by omega) (by omega)]
    · rw [mx_R rfl, gu_kk]
    · rw [mx_C rfl, gu_oo _ (by decide), bb_n (by unfold bbk; omega), gu_kk]
  rw [eq71, mxw_self] at h
  exact h
