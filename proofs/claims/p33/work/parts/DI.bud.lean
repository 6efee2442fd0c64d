/-! P33: with just the steps that it costs; given up -/
theorem INV_tell {N : Nat} {R G : Gt} (hJ : Jn N R G) (h58 : N ≤ 58) (h9 : ∀ m, m < N → G 46 m = G 9 m) (h1 : G 47 1 = nI 300) (h4 : G 0 4 = nI 300) (h0 : G 47 0 = nI N) (hv : tvC N G) (hb : ∀ m, m < 120 → G 11 m = 0) : INV N 300 R (gu (gu (gu (gu G 47 2 (G 40 0)) 47 3 (G 40 1)) 47 4 (G 40 2)) 47 5 (G 40 3)) := by
  have e : ∀ k j, ¬ (k = 47 ∧ 2 ≤ j ∧ j ≤ 5) → (gu (gu (gu (gu G 47 2 (G 40 0)) 47 3 (G 40 1)) 47 4 (G 40 2)) 47 5 (G 40 3)) k j = G k j := fun k j q => by
    rw [gu_n (by omega), gu_n (by omega), gu_n (by omega), gu_n (by omega)]
  refine ⟨Jn_keq hJ (fun k j q => e k j (by have := kC_b q; omega)), h58, fun m hm => ?_, ?_, ?_, ⟨?_, ?_, ?_, ?_, ?_, ?_⟩, fun m hm => ?_⟩
  · rw [e 46 m (by omega), e 9 m (by omega)]; exact h9 m hm
  · rw [e 47 1 (by omega)]; exact h1
  · rw [e 0 4 (by omega)]; exact h4
  · rw [e 47 0 (by omega)]; exact h0
  · rw [e 40 0 (by omega), gu_n (by omega), gu_n (by omega), gu_n (by omega), gu_kk]
  · rw [e 40 1 (by omega), gu_n (by omega), gu_n (by omega), gu_kk]
  · rw [e 40 2 (by omega), gu_n (by omega), gu_kk]
  · rw [e 40 3 (by omega), gu_kk]
  · exact tvC_eq hv (fun k j q => e k j (by omega))
  · rw [e 11 m (by omega)]; exact hb m hm
theorem j145_A {K : Sh → Gt → Prop} {G : Gt} (hK : K shB G) : w_L_budgets_A_j145 K G := by
  unfold w_L_budgets_A_j145
  exact l_budx (by decide) _ ⟨rfl, pif_p rfl (l_budx (by decide) _ ⟨rfl, pif_p rfl hK⟩)⟩
theorem budgets_A {N m : Nat} {K : Sh → Gt → Prop} {R G : Gt} (hI : INV N 300 R G) (hm : m < N) (hK : ∀ G', IBx G' → K shB G') : w_L_budgets_A K (nI m) G := by
  unfold w_L_budgets_A
  obtain ⟨n, o, n1, n2, hsem, ho, hT⟩ := r_tried_A hI.1 hm (by decide) (by decide) hI.2.2.2.2.1
  refine hT _ (fun G2 hk2 hl2 h72 => ⟨rfl, ?_⟩)
  have hI2 : INV N 300 R G2 := INV_k hI hk2 (hl2 46 rfl) (hl2 47 rfl)
  obtain ⟨n', o', n1', n2', hsem', ho', hT'⟩ := r_triedSteps_B hI2.1 h72 hm (by decide) (by decide) hI2.2.2.2.2.1
  obtain ⟨en, eo⟩ := (SEM_cmp rl_rfl (Nat.le_refl _) hsem hsem').1 n2
  subst en eo
  refine hT' _ (fun G5 hk5 hl5 h75 => ⟨rfl, ?_⟩)
  have hI5 : INV N 300 R G5 := INV_k hI2 hk5 (hl5 46 rfl) (hl5 47 rfl)
  refine l_bud n1 (by omega) _ ⟨rfl, by unfold vp_in; decide, ?_⟩
  have hI8 := INV_bud hI5 (b := n') n1 (by omega)
  have h78 : (gu G5 0 4 (nI n')) 84 7 = 0 := by rw [gu_oo _ (by decide)]; exact h75
  refine pif_p (hI5.2.2.2.2.1.trans hI8.2.2.2.1.symm) ?_
  obtain ⟨a1, b1, _, _, hs1, _, hT1⟩ := r_tried_B hI8.1 h78 hm n1 (by omega) hI8.2.2.2.2.1
  obtain ⟨ea, eb⟩ := (SEM_cmp rl_bud n2 hsem hs1).1 (Nat.le_refl _)
  subst ea eb
  refine hT1 _ (fun G11 hk11 hl11 h711 => ⟨rfl, pif_p rfl ?_⟩)
  have hI11 := INV_k hI8 hk11 (hl11 46 rfl) (hl11 47 rfl)
  obtain ⟨a2, b2, _, _, hs2, _, hT2⟩ := r_triedSteps_B hI11.1 h711 hm n1 (by omega) hI11.2.2.2.2.1
  obtain ⟨ea, eb⟩ := (SEM_cmp rl_bud n2 hsem hs2).1 (Nat.le_refl _)
  subst ea eb
  refine hT2 _ (fun G14 hk14 hl14 h714 => ⟨rfl, pif_p rfl ?_⟩)
  have hI14 := INV_k hI11 hk14 (hl14 46 rfl) (hl14 47 rfl)
  by_cases q1 : a2 ≤ 1
  · refine pif_p ((nI_leL (a := 1) rfl (by omega) (by decide)).mpr q1) ⟨by unfold vp_in; decide, ?_⟩
    show w_L_setBudget_B _ (G14 47 1) G14
    rw [hI14.2.2.2.1]
    refine l_bud (by decide) (by decide) _ ⟨rfl, pif_p hI14.2.2.2.2.1 (j145_A (hK _ ⟨⟨N, _, INV_bud hI14 (by decide) (by decide)⟩, ?_⟩))⟩
    rw [gu_oo _ (by decide)]; exact h714
  · refine pif_n (fun q => q1 ((nI_leL (a := 1) rfl (by omega) (by decide)).mp q)) ?_
    obtain ⟨p, rfl⟩ : ∃ p, a2 = p + 1 := ⟨a2 - 1, by omega⟩
    rw [nI_pred]
    refine l_bud (by omega) (by omega) _ ⟨rfl, pif_p hI14.2.2.2.2.1 ?_⟩
    have hI26 := INV_bud hI14 (b := p) (by omega) (by omega)
    have h726 : (gu G14 0 4 (nI p)) 84 7 = 0 := by rw [gu_oo _ (by decide)]; exact h714
    obtain ⟨a3, b3, _, _, hs3, _, hT3⟩ := r_tried_B hI26.1 h726 hm (by omega) (by omega) hI26.2.2.2.2.1
    obtain ⟨ea, eb⟩ := (SEM_cmp (rl_tr rl_bud rl_bud) (by omega) hsem hs3).2 (by omega)
    subst eb
    refine hT3 _ (fun G29 hk29 hl29 h729 => ⟨rfl, pif_p rfl ?_⟩)
    have hI29 := INV_k hI26 hk29 (hl29 46 rfl) (hl29 47 rfl)
    obtain ⟨a4, b4, _, _, hs4, _, hT4⟩ := r_triedSteps_B hI29.1 h729 hm (by omega) (by omega) hI29.2.2.2.2.1
    obtain ⟨ec, ed⟩ := (SEM_cmp (rl_tr rl_bud rl_bud) (by omega) hsem hs4).2 (by omega)
    refine hT4 _ (fun G32 hk32 hl32 h732 => ⟨rfl, pif_p (by rw [ec]) ⟨by unfold vp_in; decide, ?_⟩⟩)
    have hI32 := INV_k hI29 hk32 (hl32 46 rfl) (hl32 47 rfl)
    show w_L_setBudget_B _ (G32 47 1) G32
    rw [hI32.2.2.2.1]
    refine l_bud (by decide) (by decide) _ ⟨rfl, pif_p hI32.2.2.2.2.1 (j145_A (hK _ ⟨⟨N, _, INV_bud hI32 (by decide) (by decide)⟩, ?_⟩))⟩
    rw [gu_oo _ (by decide)]; exact h732
theorem gives_A {N m : Nat} {p5 : Int32} {K : Sh → Gt → Prop} {R G : Gt} (hI : INV N 300 R G) (hm : m < N) (hK : ∀ G', IBx G' → K shB G') : w_L_gives_A K (nI m) p5 G := by
  have hN := (Jn_n hI.1).1
  unfold w_L_gives_A
  refine notes_A (Jn_w hI.1) (fun G2 h2 => ⟨rfl, ?_⟩)
  have hI2 : INV N 300 R G2 := INV_k hI (keq_cw (fun k hk => h2.1 k (by omega))) (h2.1 46 (by decide)) (h2.1 47 (by decide))
  refine letters1_A (Jn_w hI2.1) (fun G4 h4 => ⟨rfl, ?_⟩)
  have hI4 : INV N 300 R G4 := INV_k hI2 (keq_cw (fun k hk => h4.1 k (by omega))) (h4.1 46 (by decide)) (h4.1 47 (by decide))
  obtain ⟨n, o, n1, n2, hsem, ho, hT⟩ := r_triedSteps_A hI4.1 hm (by decide) (by decide) hI4.2.2.2.2.1
  refine hT _ (fun G6 hk6 hl6 h76 => ⟨rfl, ?_⟩)
  have hI6 : INV N 300 R G6 := INV_k hI4 hk6 (hl6 46 rfl) (hl6 47 rfl)
  have hS6 : SM G6 := SM_k (SM_of h2 h4) hk6 (hl6 48 rfl) (hl6 49 rfl)
  obtain ⟨v, hv, hlow⟩ := low_n (x := p5) (n := 12) (by decide) (by decide)
  refine hlow _ _ (r_start_B hI6.1 h76 hm (by decide) (by decide) hI6.2.2.2.2.1 _ (fun G11 hl11 hss e11 _ _ => ⟨rfl, pif_p rfl ?_⟩))
  obtain ⟨s7, s1, _, _⟩ := SV_7 (SS_V hss)
  have z11 : ∀ j, j < 120 → G11 11 j = 0 := fun j hj => by rw [e11]; exact hI6.2.2.2.2.2.2 j hj
  refine r_brk_on s1 hN hm (z11 m (by omega)) _ ⟨rfl, pif_p rfl ?_⟩
  have hon := SS_on hss hm
  have e1v : (1 : Int32) + nI v = nI (1 + v) := nI_add' rfl
  rw [e1v]
  obtain ⟨t, ht, ht0, hor⟩ := r_step_B (s := 1 + v) (by decide) hon (by omega) (by omega)
  simp only [Nat.zero_add] at hor
  have t1 := ht0 rfl
  rcases hor with ⟨o', hsem', ho', hstep⟩ | ⟨_, hstep⟩
  · obtain ⟨en, eo⟩ := (SEM_cmp rl_rfl (Nat.le_refl _) hsem hsem').1 n2
    refine hstep _ (fun G17 hl17 hf e17 => ⟨rfl, pif_n ?_ (pif_n (nI_nltx rfl ht (by omega)) ?_)⟩)
    · intro q
      have := (nI_leL (a := 0) rfl (by omega) (by decide)).mp q
      omega
    · obtain ⟨f7, f0, f1, fv, fp, fb, R', fJ⟩ := hf
      have h0 : G17 11 m = 1 := by rw [e17, gu_kk]
      refine r_brk_off (Jn_n fJ).2.1 hN hm h0 _ ⟨rfl, pif_p rfl (n_0 ?_ _ (pif_n (by decide) ?_))⟩
      · rw [gu_oo _ (by decide)]; exact f7
      have e20 : ∀ k j, ¬ (k = 11 ∧ j = m) → (gu G17 11 m 0) k j = G17 k j := fun k j q => gu_n q
      have l47 : G17 47 = G6 47 := by
        rw [hl17 47 rfl]
        funext j
        rw [gu_oo _ (by decide), hl11 47 rfl]
      have l46 : G17 46 = G6 46 := by
        rw [hl17 46 rfl]
        funext j
        rw [gu_oo _ (by decide), hl11 46 rfl]
      have hT := INV_tell (Jn_off fJ hm) hI6.2.1 (fun j hj => by
        rw [e20 46 j (by omega), e20 9 j (by omega), l46, fp 9 j (by unfold pl0; omega)]
        exact hI6.2.2.1 j hj) (by rw [e20 47 1 (by omega), l47]; exact hI6.2.2.2.1) (by rw [e20 0 4 (by omega), fp 0 4 (by unfold pl0; omega)]; exact hI6.2.2.2.2.1) (by rw [e20 47 0 (by omega), l47]; exact hI6.2.2.2.2.2.1.1) (tvC_eq fv (fun k j q => e20 k j (by omega))) (fun j hj => by
        by_cases q : j = m
        · subst q
          rw [gu_kk]
        · rw [gu_ko _ q, e17, gu_ko _ q]
          exact z11 j hj)
      unfold w_X10_outcome_B w_X10_steps_B w_X10_cause_B w_X10_traced_B
      refine ⟨by unfold vp_in; decide, pt_of ⟨by unfold vp_in; decide, pt_of ⟨by unfold vp_in; decide, pt_of ⟨by unfold vp_in; decide, pt_of (pif_p (by rw [en]) (told_B hN hT.2.2.2.2.2.1 ?_ ⟨rfl, hK _ ⟨⟨N, _, hT⟩, ?_⟩⟩))⟩⟩⟩⟩
      · show G17 84 7 = 0
        exact f7
      · show G17 84 7 = 0
        exact f7
  · refine hstep _ (fun G17 hl17 hss17 e17 => ⟨rfl, pif_n ?_ (pif_n (nI_nltx rfl ht (by omega)) ?_)⟩)
    · intro q
      have := (nI_leL (a := 0) rfl (by omega) (by decide)).mp q
      omega
    · obtain ⟨u7, u1, _, _⟩ := SV_7 (SS_V hss17)
      have h0 : G17 11 m = 1 := by rw [e17, gu_kk]
      have hoff := SV_off (SS_V hss17) hm
      obtain ⟨w, hw, hnx⟩ := SV_n hoff
      refine r_brk_off u1 hN hm h0 _ ⟨rfl, pif_p rfl (hnx _ (pif_p (nI_pos' (by omega)) (pif_n ?_ (r_giveUp_B hoff _ (fun G' hl' h7' hJ' hpl hbb e11' => ⟨rfl, pif_p rfl ?_⟩)))))⟩
      · exact nI_nltx rfl (SEM_wait hss17 hsem) (by omega)
      have lR : ∀ q, isR q = true → G' q = G6 q := fun q hq => by
        have hq' := isR_t hq
        rw [hl' q hq]
        funext j
        rw [gu_oo _ (by omega), hl17 q hq, gu_oo _ (by omega), hl11 q hq]
      obtain ⟨R', hJ'⟩ := hJ'
      have hI' : INV N 300 R' G' := INV_c hI6 hJ' (fun k j q => by
        rcases q with rfl | rfl | rfl | rfl | rfl | rfl | ⟨rfl, rfl⟩
        · exact hpl 9 j (Or.inl (by unfold pl0; omega))
        · rw [e11']
          by_cases z : j = m
          · subst z
            rw [gu_kk, hI6.2.2.2.2.2.2 j (by omega)]
          · rw [gu_ko _ z, e17, gu_ko _ z, e11]
        · exact hpl 40 j (Or.inr (Or.inl rfl))
        · exact hpl 42 j (Or.inr (Or.inr rfl))
        · rw [lR 46 rfl]
        · rw [lR 47 rfl]
        · exact hpl 0 4 (Or.inl (by unfold pl0; omega)))
      have hS' : SM G' := SM_eq hS6 hbb (lR 48 rfl) (lR 49 rfl)
      refine same_B (Jn_w hI'.1) hS' (fun G'' e => ⟨rfl, ?_⟩)
      have hI'' : INV N 300 R' G'' := INV_k hI' (keq_cw (fun k hk => e k (by omega))) (e 46 (by decide)) (e 47 (by decide))
      have h7'' : G'' 84 7 = 0 := by rw [e 84 (by decide)]; exact h7'
      exact told_B hN hI''.2.2.2.2.2.1 h7'' ⟨rfl, hK _ ⟨⟨N, R', hI''⟩, h7''⟩⟩
theorem j145_B {K : Sh → Gt → Prop} {G : Gt} (hK : K shB G) : w_L_budgets_B_j145 K G := by
  unfold w_L_budgets_B_j145
  exact l_budx (by decide) _ ⟨rfl, pif_p rfl (l_budx (by decide) _ ⟨rfl, pif_p rfl hK⟩)⟩
theorem budgets_B {N m : Nat} {K : Sh → Gt → Prop} {R G : Gt} (hI : INV N 300 R G) (h7 : G 84 7 = 0) (hm : m < N) (hK : ∀ G', IBx G' → K shB G') : w_L_budgets_B K (nI m) G := by
  unfold w_L_budgets_B
  obtain ⟨n, o, n1, n2, hsem, ho, hT⟩ := r_tried_B hI.1 h7 hm (by decide) (by decide) hI.2.2.2.2.1
  refine hT _ (fun G2 hk2 hl2 h72 => ⟨rfl, ?_⟩)
  have hI2 : INV N 300 R G2 := INV_k hI hk2 (hl2 46 rfl) (hl2 47 rfl)
  obtain ⟨n', o', n1', n2', hsem', ho', hT'⟩ := r_triedSteps_B hI2.1 h72 hm (by decide) (by decide) hI2.2.2.2.2.1
  obtain ⟨en, eo⟩ := (SEM_cmp rl_rfl (Nat.le_refl _) hsem hsem').1 n2
  subst en eo
  refine hT' _ (fun G5 hk5 hl5 h75 => ⟨rfl, ?_⟩)
  have hI5 : INV N 300 R G5 := INV_k hI2 hk5 (hl5 46 rfl) (hl5 47 rfl)
  refine l_bud n1 (by omega) _ ⟨rfl, by unfold vp_in; decide, ?_⟩
  have hI8 := INV_bud hI5 (b := n') n1 (by omega)
  have h78 : (gu G5 0 4 (nI n')) 84 7 = 0 := by rw [gu_oo _ (by decide)]; exact h75
  refine pif_p (hI5.2.2.2.2.1.trans hI8.2.2.2.1.symm) ?_
  obtain ⟨a1, b1, _, _, hs1, _, hT1⟩ := r_tried_B hI8.1 h78 hm n1 (by omega) hI8.2.2.2.2.1
  obtain ⟨ea, eb⟩ := (SEM_cmp rl_bud n2 hsem hs1).1 (Nat.le_refl _)
  subst ea eb
  refine hT1 _ (fun G11 hk11 hl11 h711 => ⟨rfl, pif_p rfl ?_⟩)
  have hI11 := INV_k hI8 hk11 (hl11 46 rfl) (hl11 47 rfl)
  obtain ⟨a2, b2, _, _, hs2, _, hT2⟩ := r_triedSteps_B hI11.1 h711 hm n1 (by omega) hI11.2.2.2.2.1
  obtain ⟨ea, eb⟩ := (SEM_cmp rl_bud n2 hsem hs2).1 (Nat.le_refl _)
  subst ea eb
  refine hT2 _ (fun G14 hk14 hl14 h714 => ⟨rfl, pif_p rfl ?_⟩)
  have hI14 := INV_k hI11 hk14 (hl14 46 rfl) (hl14 47 rfl)
  by_cases q1 : a2 ≤ 1
  · refine pif_p ((nI_leL (a := 1) rfl (by omega) (by decide)).mpr q1) ⟨by unfold vp_in; decide, ?_⟩
    show w_L_setBudget_B _ (G14 47 1) G14
    rw [hI14.2.2.2.1]
    refine l_bud (by decide) (by decide) _ ⟨rfl, pif_p hI14.2.2.2.2.1 (j145_B (hK _ ⟨⟨N, _, INV_bud hI14 (by decide) (by decide)⟩, ?_⟩))⟩
    rw [gu_oo _ (by decide)]; exact h714
  · refine pif_n (fun q => q1 ((nI_leL (a := 1) rfl (by omega) (by decide)).mp q)) ?_
    obtain ⟨p, rfl⟩ : ∃ p, a2 = p + 1 := ⟨a2 - 1, by omega⟩
    rw [nI_pred]
    refine l_bud (by omega) (by omega) _ ⟨rfl, pif_p hI14.2.2.2.2.1 ?_⟩
    have hI26 := INV_bud hI14 (b := p) (by omega) (by omega)
    have h726 : (gu G14 0 4 (nI p)) 84 7 = 0 := by rw [gu_oo _ (by decide)]; exact h714
    obtain ⟨a3, b3, _, _, hs3, _, hT3⟩ := r_tried_B hI26.1 h726 hm (by omega) (by omega) hI26.2.2.2.2.1
    obtain ⟨ea, eb⟩ := (SEM_cmp (rl_tr rl_bud rl_bud) (by omega) hsem hs3).2 (by omega)
    subst eb
    refine hT3 _ (fun G29 hk29 hl29 h729 => ⟨rfl, pif_p rfl ?_⟩)
    have hI29 := INV_k hI26 hk29 (hl29 46 rfl) (hl29 47 rfl)
    obtain ⟨a4, b4, _, _, hs4, _, hT4⟩ := r_triedSteps_B hI29.1 h729 hm (by omega) (by omega) hI29.2.2.2.2.1
    obtain ⟨ec, ed⟩ := (SEM_cmp (rl_tr rl_bud rl_bud) (by omega) hsem hs4).2 (by omega)
    refine hT4 _ (fun G32 hk32 hl32 h732 => ⟨rfl, pif_p (by rw [ec]) ⟨by unfold vp_in; decide, ?_⟩⟩)
    have hI32 := INV_k hI29 hk32 (hl32 46 rfl) (hl32 47 rfl)
    show w_L_setBudget_B _ (G32 47 1) G32
    rw [hI32.2.2.2.1]
    refine l_bud (by decide) (by decide) _ ⟨rfl, pif_p hI32.2.2.2.2.1 (j145_B (hK _ ⟨⟨N, _, INV_bud hI32 (by decide) (by decide)⟩, ?_⟩))⟩
    rw [gu_oo _ (by decide)]; exact h732
theorem gives_B {N m : Nat} {p5 : Int32} {K : Sh → Gt → Prop} {R G : Gt} (hI : INV N 300 R G) (h7 : G 84 7 = 0) (hm : m < N) (hK : ∀ G', IBx G' → K shB G') : w_L_gives_B K (nI m) p5 G := by
  have hN := (Jn_n hI.1).1
  unfold w_L_gives_B
  refine notes_B (Jn_w hI.1) (fun G2 h2 => ⟨rfl, ?_⟩)
  have hI2 : INV N 300 R G2 := INV_k hI (keq_cw (fun k hk => h2.1 k (by omega))) (h2.1 46 (by decide)) (h2.1 47 (by decide))
  refine letters1_B (Jn_w hI2.1) (fun G4 h4 => ⟨rfl, ?_⟩)
  have hI4 : INV N 300 R G4 := INV_k hI2 (keq_cw (fun k hk => h4.1 k (by omega))) (h4.1 46 (by decide)) (h4.1 47 (by decide))
  have h74 : G4 84 7 = 0 := by rw [h4.1 84 (by decide), h2.1 84 (by decide)]; exact h7
  obtain ⟨n, o, n1, n2, hsem, ho, hT⟩ := r_triedSteps_B hI4.1 h74 hm (by decide) (by decide) hI4.2.2.2.2.1
  refine hT _ (fun G6 hk6 hl6 h76 => ⟨rfl, ?_⟩)
  have hI6 : INV N 300 R G6 := INV_k hI4 hk6 (hl6 46 rfl) (hl6 47 rfl)
  have hS6 : SM G6 := SM_k (SM_of h2 h4) hk6 (hl6 48 rfl) (hl6 49 rfl)
  obtain ⟨v, hv, hlow⟩ := low_n (x := p5) (n := 12) (by decide) (by decide)
  refine hlow _ _ (r_start_B hI6.1 h76 hm (by decide) (by decide) hI6.2.2.2.2.1 _ (fun G11 hl11 hss e11 _ _ => ⟨rfl, pif_p rfl ?_⟩))
  obtain ⟨s7, s1, _, _⟩ := SV_7 (SS_V hss)
  have z11 : ∀ j, j < 120 → G11 11 j = 0 := fun j hj => by rw [e11]; exact hI6.2.2.2.2.2.2 j hj
  refine r_brk_on s1 hN hm (z11 m (by omega)) _ ⟨rfl, pif_p rfl ?_⟩
  have hon := SS_on hss hm
  have e1v : (1 : Int32) + nI v = nI (1 + v) := nI_add' rfl
  rw [e1v]
  obtain ⟨t, ht, ht0, hor⟩ := r_step_B (s := 1 + v) (by decide) hon (by omega) (by omega)
  simp only [Nat.zero_add] at hor
  have t1 := ht0 rfl
  rcases hor with ⟨o', hsem', ho', hstep⟩ | ⟨_, hstep⟩
  · obtain ⟨en, eo⟩ := (SEM_cmp rl_rfl (Nat.le_refl _) hsem hsem').1 n2
    refine hstep _ (fun G17 hl17 hf e17 => ⟨rfl, pif_n ?_ (pif_n (nI_nltx rfl ht (by omega)) ?_)⟩)
    · intro q
      have := (nI_leL (a := 0) rfl (by omega) (by decide)).mp q
      omega
    · obtain ⟨f7, f0, f1, fv, fp, fb, R', fJ⟩ := hf
      have h0 : G17 11 m = 1 := by rw [e17, gu_kk]
      refine r_brk_off (Jn_n fJ).2.1 hN hm h0 _ ⟨rfl, pif_p rfl (n_0 ?_ _ (pif_n (by decide) ?_))⟩
      · rw [gu_oo _ (by decide)]; exact f7
      have e20 : ∀ k j, ¬ (k = 11 ∧ j = m) → (gu G17 11 m 0) k j = G17 k j := fun k j q => gu_n q
      have l47 : G17 47 = G6 47 := by
        rw [hl17 47 rfl]
        funext j
        rw [gu_oo _ (by decide), hl11 47 rfl]
      have l46 : G17 46 = G6 46 := by
        rw [hl17 46 rfl]
        funext j
        rw [gu_oo _ (by decide), hl11 46 rfl]
      have hT := INV_tell (Jn_off fJ hm) hI6.2.1 (fun j hj => by
        rw [e20 46 j (by omega), e20 9 j (by omega), l46, fp 9 j (by unfold pl0; omega)]
        exact hI6.2.2.1 j hj) (by rw [e20 47 1 (by omega), l47]; exact hI6.2.2.2.1) (by rw [e20 0 4 (by omega), fp 0 4 (by unfold pl0; omega)]; exact hI6.2.2.2.2.1) (by rw [e20 47 0 (by omega), l47]; exact hI6.2.2.2.2.2.1.1) (tvC_eq fv (fun k j q => e20 k j (by omega))) (fun j hj => by
        by_cases q : j = m
        · subst q
          rw [gu_kk]
        · rw [gu_ko _ q, e17, gu_ko _ q]
          exact z11 j hj)
      unfold w_X10_outcome_B w_X10_steps_B w_X10_cause_B w_X10_traced_B
      refine ⟨by unfold vp_in; decide, pt_of ⟨by unfold vp_in; decide, pt_of ⟨by unfold vp_in; decide, pt_of ⟨by unfold vp_in; decide, pt_of (pif_p (by rw [en]) (told_B hN hT.2.2.2.2.2.1 ?_ ⟨rfl, hK _ ⟨⟨N, _, hT⟩, ?_⟩⟩))⟩⟩⟩⟩
      · show G17 84 7 = 0
        exact f7
      · show G17 84 7 = 0
        exact f7
  · refine hstep _ (fun G17 hl17 hss17 e17 => ⟨rfl, pif_n ?_ (pif_n (nI_nltx rfl ht (by omega)) ?_)⟩)
    · intro q
      have := (nI_leL (a := 0) rfl (by omega) (by decide)).mp q
      omega
    · obtain ⟨u7, u1, _, _⟩ := SV_7 (SS_V hss17)
      have h0 : G17 11 m = 1 := by rw [e17, gu_kk]
      have hoff := SV_off (SS_V hss17) hm
      obtain ⟨w, hw, hnx⟩ := SV_n hoff
      refine r_brk_off u1 hN hm h0 _ ⟨rfl, pif_p rfl (hnx _ (pif_p (nI_pos' (by omega)) (pif_n ?_ (r_giveUp_B hoff _ (fun G' hl' h7' hJ' hpl hbb e11' => ⟨rfl, pif_p rfl ?_⟩)))))⟩
      · exact nI_nltx rfl (SEM_wait hss17 hsem) (by omega)
      have lR : ∀ q, isR q = true → G' q = G6 q := fun q hq => by
        have hq' := isR_t hq
        rw [hl' q hq]
        funext j
        rw [gu_oo _ (by omega), hl17 q hq, gu_oo _ (by omega), hl11 q hq]
      obtain ⟨R', hJ'⟩ := hJ'
      have hI' : INV N 300 R' G' := INV_c hI6 hJ' (fun k j q => by
        rcases q with rfl | rfl | rfl | rfl | rfl | rfl | ⟨rfl, rfl⟩
        · exact hpl 9 j (Or.inl (by unfold pl0; omega))
        · rw [e11']
          by_cases z : j = m
          · subst z
            rw [gu_kk, hI6.2.2.2.2.2.2 j (by omega)]
          · rw [gu_ko _ z, e17, gu_ko _ z, e11]
        · exact hpl 40 j (Or.inr (Or.inl rfl))
        · exact hpl 42 j (Or.inr (Or.inr rfl))
        · rw [lR 46 rfl]
        · rw [lR 47 rfl]
        · exact hpl 0 4 (Or.inl (by unfold pl0; omega)))
      have hS' : SM G' := SM_eq hS6 hbb (lR 48 rfl) (lR 49 rfl)
      refine same_B (Jn_w hI'.1) hS' (fun G'' e => ⟨rfl, ?_⟩)
      have hI'' : INV N 300 R' G'' := INV_k hI' (keq_cw (fun k hk => e k (by omega))) (e 46 (by decide)) (e 47 (by decide))
      have h7'' : G'' 84 7 = 0 := by rw [e 84 (by decide)]; exact h7'
      exact told_B hN hI''.2.2.2.2.2.1 h7'' ⟨rfl, hK _ ⟨⟨N, R', hI''⟩, h7''⟩⟩
