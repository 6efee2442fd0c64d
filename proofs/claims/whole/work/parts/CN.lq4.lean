/-! a machine is made: cells below are kept -/
def mkL (G G' : Gt) : Prop := ∀ k j, k < 84 → G' k j = G k j
theorem mkL_rfl {G : Gt} : mkL G G := fun _ _ _ => rfl
theorem mkL_gu {G G' : Gt} {c i : Nat} {v : Int32} (hc : 84 ≤ c) (h : mkL G G') : mkL G (gu G' c i v) := fun k j hk => by
  rw [gu_n (by omega)]; exact h k j hk
theorem mkL_gz {G G' : Gt} {c : Nat} {v : Int32} (hc : 84 ≤ c) (h : mkL G G') : mkL G (gz G' c v) := fun k j hk => by
  unfold gz; rw [if_neg (by omega)]; exact h k j hk
theorem mkL_gf {G G' : Gt} {c n : Nat} {v : Int32} (hc : 84 ≤ c) (h : mkL G G') : mkL G (gf G' c n v) := fun k j hk => by
  unfold gf; rw [if_neg (by omega)]; exact h k j hk
theorem mkL_rp {G G' : Gt} {c n : Nat} {x v : Int32} (hc : 84 ≤ c) (h : mkL G G') : mkL G (rput G' c n x v) := fun k j hk => by
  unfold rput
  by_cases q : 0 ≤ x ∧ x < nI n
  · rw [if_pos q]; exact mkL_gu hc h k j hk
  · rw [if_neg q]; exact h k j hk
theorem mkL_X2 {G : Gt} : mkL G (g_X2 84 85 (gz G 84 0)) := by
  unfold g_X2 g_X3 g_X7 g_X1 g_X9 g_X8
  repeat (first | exact mkL_rfl | refine mkL_gu (by decide) ?_ | refine mkL_gf (by decide) ?_ | refine mkL_gz (by decide) ?_ | refine mkL_rp (by decide) ?_)
theorem jA_gM {N : Nat} {G : Gt} (h : jA N G) : jA N (gM G) := jA_eq h (fun k j q => by
  unfold jfr at q
  unfold gM
  rw [gu_n (by omega)]
  exact mkL_X2 k j (by omega))
theorem gM_04 {G : Gt} : gM G 0 4 = G 0 4 := by
  unfold gM
  rw [gu_n (by omega)]
  exact mkL_X2 0 4 (by decide)
/-! THE LAW'S CALLS -/
theorem c_run_B {G : Gt} {x : Int32} (h : IB G) : w_L_run_B (fun v1 s1 G2 => s1 = shB ∧ w_X11_run (fun v4 G3 => cmpt IB v1 v4 G3) x G2) x G := by
  obtain ⟨N, h⟩ := h
  obtain ⟨hN, h1, h2, h9, h11⟩ := gP_n (IBn_f h).1
  have hJ : ∀ t, IB (gu G 46 71 t) := fun t => ⟨N, IBn_eq h (fun k j q => gu_n (by omega))⟩
  unfold w_L_run_B w_X10_run_B
  by_cases hx : ∃ i, i < N ∧ x = nI i
  · obtain ⟨i, hi, rfl⟩ := hx
    refine has_y h1 hN hi (pif_n (by decide) ?_)
    by_cases h0 : G 46 52 = 0
    · obtain ⟨hj, h7⟩ := IBn_0 h h0
      refine step_By h7 (pif_p rfl ?_)
      unfold w_X10_readyMachine_B w_X10_readyMachine_B_j30
      exact c_run_o hj hi (fun X a b => ⟨N, Or.inl ⟨a, b⟩⟩)
    · refine step_Bn (fun q => h0 ((IBn_st h).mp q)) (pif_n (by decide) (Or.inr ⟨rfl, rfl, ?_⟩))
      exact run_n (Or.inr ⟨rfl, ⟨i, hi, rfl⟩, h0⟩) h2 hN (cmpt_x (by decide) (gu_kk _ _ _ _) (hJ 2))
  · refine has_n h1 hN hx (pif_p rfl (Or.inl ⟨rfl, rfl, ?_⟩))
    exact run_n (Or.inl ⟨rfl, hx⟩) h2 hN (cmpt_x (by decide) (gu_kk _ _ _ _) (hJ 1))
theorem c_run_A {G : Gt} {x : Int32} (h : IA G) : w_L_run_A (fun v1 s1 G2 => s1 = shB ∧ w_X11_run (fun v4 G3 => cmpt IB v1 v4 G3) x G2) x G ∨ w_L_runx_A (fun v1 s1 G2 => s1 = shA ∧ w_X11_run (fun v4 G3 => cmpt IA v1 v4 G3) x G2) x G := by
  obtain ⟨N, h⟩ := h
  obtain ⟨hN, h1, h2, h9, h11⟩ := gP_n h.1
  have hJ : ∀ t, IA (gu G 46 71 t) := fun t => ⟨N, jA_71 h⟩
  by_cases hx : ∃ i, i < N ∧ x = nI i
  · left
    unfold w_L_run_A w_X10_run_A
    obtain ⟨i, hi, rfl⟩ := hx
    refine has_y h1 hN hi (pif_n (by decide) ?_)
    refine step_A (pif_p rfl (pt_of ?_))
    exact c_run_o (jA_gM h) hi (fun X a b => ⟨N, Or.inl ⟨a, b⟩⟩)
  · right
    unfold w_L_runx_A w_X10_runx_A
    refine has_n h1 hN hx (pif_p rfl (Or.inl ⟨rfl, rfl, ?_⟩))
    exact run_n (Or.inl ⟨rfl, hx⟩) h2 hN (cmpt_x (by decide) (gu_kk _ _ _ _) (hJ 1))
theorem c_tried_B {G : Gt} {x : Int32} (h : IB G) : w_L_tried_B (fun v1 s1 G2 => s1 = shB ∧ w_X11_tried (fun v4 G3 => cmpt IB v1 v4 G3) x G2) x G := by
  obtain ⟨N, h⟩ := h
  obtain ⟨hN, h1, h2, h9, h11⟩ := gP_n (IBn_f h).1
  have hJ : ∀ t, IB (gu G 46 71 t) := fun t => ⟨N, IBn_eq h (fun k j q => gu_n (by omega))⟩
  unfold w_L_tried_B w_X10_tried_B w_X10_tryOut_B
  by_cases hx : ∃ i, i < N ∧ x = nI i
  · obtain ⟨i, hi, rfl⟩ := hx
    refine has_y h1 hN hi (pif_n (by decide) ?_)
    by_cases h0 : G 46 52 = 0
    · obtain ⟨hj, h7⟩ := IBn_0 h h0
      refine step_By h7 (pif_p rfl ?_)
      unfold w_X10_readyMachine_B w_X10_readyMachine_B_j30
      exact c_tried_o hj hi (fun X a b => ⟨N, Or.inl ⟨a, b⟩⟩)
    · refine step_Bn (fun q => h0 ((IBn_st h).mp q)) (pif_n (by decide) (Or.inr ⟨rfl, rfl, ?_⟩))
      unfold w_X11_tried w_X11_tried_j16
      exact tries_n (Or.inr ⟨rfl, ⟨i, hi, rfl⟩, h0⟩) h2 hN (pif_p rfl (cmpt_x (by decide) (gu_kk _ _ _ _) (hJ 2)))
  · refine has_n h1 hN hx (pif_p rfl (Or.inl ⟨rfl, rfl, ?_⟩))
    unfold w_X11_tried w_X11_tried_j16
    exact tries_n (Or.inl ⟨rfl, hx⟩) h2 hN (pif_p rfl (cmpt_x (by decide) (gu_kk _ _ _ _) (hJ 1)))
theorem c_tried_A {G : Gt} {x : Int32} (h : IA G) : w_L_tried_A (fun v1 s1 G2 => s1 = shB ∧ w_X11_tried (fun v4 G3 => cmpt IB v1 v4 G3) x G2) x G ∨ w_L_triedx_A (fun v1 s1 G2 => s1 = shA ∧ w_X11_tried (fun v4 G3 => cmpt IA v1 v4 G3) x G2) x G := by
  obtain ⟨N, h⟩ := h
  obtain ⟨hN, h1, h2, h9, h11⟩ := gP_n h.1
  have hJ : ∀ t, IA (gu G 46 71 t) := fun t => ⟨N, jA_71 h⟩
  by_cases hx : ∃ i, i < N ∧ x = nI i
  · left
    unfold w_L_tried_A w_X10_tried_A w_X10_tryOut_A
    obtain ⟨i, hi, rfl⟩ := hx
    refine has_y h1 hN hi (pif_n (by decide) ?_)
    refine step_A (pif_p rfl (pt_of ?_))
    exact c_tried_o (jA_gM h) hi (fun X a b => ⟨N, Or.inl ⟨a, b⟩⟩)
  · right
    unfold w_L_triedx_A w_X10_triedx_A
    refine has_n h1 hN hx (pif_p rfl (Or.inl ⟨rfl, rfl, ?_⟩))
    unfold w_X11_tried w_X11_tried_j16
    exact tries_n (Or.inl ⟨rfl, hx⟩) h2 hN (pif_p rfl (cmpt_x (by decide) (gu_kk _ _ _ _) (hJ 1)))
theorem c_triedSteps_B {G : Gt} {x : Int32} (h : IB G) : w_L_triedSteps_B (fun v1 s1 G2 => s1 = shB ∧ w_X11_triedSteps (fun v4 G3 => cmpt IB v1 v4 G3) x G2) x G := by
  obtain ⟨N, h⟩ := h
  obtain ⟨hN, h1, h2, h9, h11⟩ := gP_n (IBn_f h).1
  have hJ : ∀ t, IB (gu G 46 71 t) := fun t => ⟨N, IBn_eq h (fun k j q => gu_n (by omega))⟩
  unfold w_L_triedSteps_B w_X10_triedSteps_B w_X10_tryOut_B
  by_cases hx : ∃ i, i < N ∧ x = nI i
  · obtain ⟨i, hi, rfl⟩ := hx
    refine has_y h1 hN hi (pif_n (by decide) ?_)
    by_cases h0 : G 46 52 = 0
    · obtain ⟨hj, h7⟩ := IBn_0 h h0
      refine step_By h7 (pif_p rfl ?_)
      unfold w_X10_readyMachine_B w_X10_readyMachine_B_j30
      exact c_triedSteps_o hj hi (fun X a b => ⟨N, Or.inl ⟨a, b⟩⟩)
    · refine step_Bn (fun q => h0 ((IBn_st h).mp q)) (pif_n (by decide) (Or.inr ⟨rfl, rfl, ?_⟩))
      unfold w_X11_triedSteps w_X11_triedSteps_j16
      exact tries_n (Or.inr ⟨rfl, ⟨i, hi, rfl⟩, h0⟩) h2 hN (pif_p rfl (cmpt_x (by decide) (gu_kk _ _ _ _) (hJ 2)))
  · refine has_n h1 hN hx (pif_p rfl (Or.inl ⟨rfl, rfl, ?_⟩))
    unfold w_X11_triedSteps w_X11_triedSteps_j16
    exact tries_n (Or.inl ⟨rfl, hx⟩) h2 hN (pif_p rfl (cmpt_x (by decide) (gu_kk _ _ _ _) (hJ 1)))
theorem c_triedSteps_A {G : Gt} {x : Int32} (h : IA G) : w_L_triedSteps_A (fun v1 s1 G2 => s1 = shB ∧ w_X11_triedSteps (fun v4 G3 => cmpt IB v1 v4 G3) x G2) x G ∨ w_L_triedStepsx_A (fun v1 s1 G2 => s1 = shA ∧ w_X11_triedSteps (fun v4 G3 => cmpt IA v1 v4 G3) x G2) x G := by
  obtain ⟨N, h⟩ := h
  obtain ⟨hN, h1, h2, h9, h11⟩ := gP_n h.1
  have hJ : ∀ t, IA (gu G 46 71 t) := fun t => ⟨N, jA_71 h⟩
  by_cases hx : ∃ i, i < N ∧ x = nI i
  · left
    unfold w_L_triedSteps_A w_X10_triedSteps_A w_X10_tryOut_A
    obtain ⟨i, hi, rfl⟩ := hx
    refine has_y h1 hN hi (pif_n (by decide) ?_)
    refine step_A (pif_p rfl (pt_of ?_))
    exact c_triedSteps_o (jA_gM h) hi (fun X a b => ⟨N, Or.inl ⟨a, b⟩⟩)
  · right
    unfold w_L_triedStepsx_A w_X10_triedStepsx_A
    refine has_n h1 hN hx (pif_p rfl (Or.inl ⟨rfl, rfl, ?_⟩))
    unfold w_X11_triedSteps w_X11_triedSteps_j16
    exact tries_n (Or.inl ⟨rfl, hx⟩) h2 hN (pif_p rfl (cmpt_x (by decide) (gu_kk _ _ _ _) (hJ 1)))
theorem c_start_B {G : Gt} {x : Int32} (h : IB G) : w_L_start_B (fun v1 s1 G2 => s1 = shB ∧ w_X11_start (fun G3 => cmps IB v1 G3) x G2) x G := by
  obtain ⟨N, h⟩ := h
  obtain ⟨hN, h1, h2, h9, h11⟩ := gP_n (IBn_f h).1
  have hJ : ∀ t, IB (gu G 46 71 t) := fun t => ⟨N, IBn_eq h (fun k j q => gu_n (by omega))⟩
  unfold w_L_start_B w_X10_start_B
  by_cases hx : ∃ i, i < N ∧ x = nI i
  · obtain ⟨i, hi, rfl⟩ := hx
    refine has_y h1 hN hi (pif_n (by decide) ?_)
    by_cases h0 : G 46 52 = 0
    · obtain ⟨hj, h7⟩ := IBn_0 h h0
      refine step_By h7 (pif_p rfl ?_)
      unfold w_X10_readyMachine_B w_X10_readyMachine_B_j30
      exact c_start_o hj hi (fun X B z a b c d => ⟨N, Or.inr ⟨B, z, a, b, c, d⟩⟩)
    · refine step_Bn (fun q => h0 ((IBn_st h).mp q)) (pif_n (by decide) (Or.inr ⟨rfl, rfl, ?_⟩))
      exact start_n (Or.inr ⟨rfl, ⟨i, hi, rfl⟩, h0⟩) h2 hN (cmps_x (gu_kk _ _ _ _) (hJ 2))
  · refine has_n h1 hN hx (pif_p rfl (Or.inl ⟨rfl, rfl, ?_⟩))
    exact start_n (Or.inl ⟨rfl, hx⟩) h2 hN (cmps_x (gu_kk _ _ _ _) (hJ 1))
theorem c_start_A {G : Gt} {x : Int32} (h : IA G) : w_L_start_A (fun v1 s1 G2 => s1 = shB ∧ w_X11_start (fun G3 => cmps IB v1 G3) x G2) x G ∨ w_L_startx_A (fun v1 s1 G2 => s1 = shA ∧ w_X11_start (fun G3 => cmps IA v1 G3) x G2) x G := by
  obtain ⟨N, h⟩ := h
  obtain ⟨hN, h1, h2, h9, h11⟩ := gP_n h.1
  have hJ : ∀ t, IA (gu G 46 71 t) := fun t => ⟨N, jA_71 h⟩
  by_cases hx : ∃ i, i < N ∧ x = nI i
  · left
    unfold w_L_start_A w_X10_start_A
    obtain ⟨i, hi, rfl⟩ := hx
    refine has_y h1 hN hi (pif_n (by decide) ?_)
    refine step_A (pif_p rfl (pt_of ?_))
    exact c_start_o (jA_gM h) hi (fun X B z a b c d => ⟨N, Or.inr ⟨B, z, a, b, c, d⟩⟩)
  · right
    unfold w_L_startx_A w_X10_startx_A
    refine has_n h1 hN hx (pif_p rfl (Or.inl ⟨rfl, rfl, ?_⟩))
    exact start_n (Or.inl ⟨rfl, hx⟩) h2 hN (cmps_x (gu_kk _ _ _ _) (hJ 1))
theorem iam_S {x : Int32} (h : 1 ≤ x ∧ x ≤ 600) : ∃ S, 1 ≤ S ∧ S ≤ 600 ∧ x = nI S := by
  obtain ⟨i, hi, e⟩ := (lit_b1 (x := x) (b := 600) (N := 601) rfl (by decide)).mp ⟨Int32.le_trans (by decide) h.1, h.2⟩
  refine ⟨i, ?_, by omega, e⟩
  rcases Nat.eq_zero_or_pos i with z | z
  · subst z
    rw [e] at h
    exact absurd h.1 (by decide)
  · exact z
theorem step_n1 {K : Int32 → Gt → Prop} {G : Gt} {x : Int32} (hx : ¬ (1 ≤ x ∧ x ≤ 600)) (hk : K 0 (gu G 46 71 1)) : w_X11_step K x G := by
  unfold w_X11_step
  exact in_n hx (goes_n (thr_1 rfl) (by decide) (pif_p rfl hk))
theorem step_n2 {K : Int32 → Gt → Prop} {G : Gt} {x : Int32} (hx : 1 ≤ x ∧ x ≤ 600) (h0 : G 46 52 = 0) (hk : K 0 (gu G 46 71 2)) : w_X11_step K x G := by
  unfold w_X11_step
  exact in_y hx (goes_n (thr_2 (by decide) h0) (by decide) (pif_p rfl hk))
theorem c_step_B {G : Gt} {x : Int32} (h : IB G) : w_L_step_B (fun v1 s1 G2 => s1 = shB ∧ w_X11_step (fun v4 G3 => cmpt IB v1 v4 G3) x G2) x G := by
  obtain ⟨N, h⟩ := h
  have hJ : ∀ t, IB (gu G 46 71 t) := fun t => ⟨N, IBn_eq h (fun k j q => gu_n (by omega))⟩
  have hst := IBn_st h
  unfold w_L_step_B w_X10_step_B
  by_cases hx : 1 ≤ x ∧ x ≤ 600
  · refine pif_n (iam_y hx) ?_
    rcases h with ⟨hj, h7⟩ | ⟨B, z, hw, hf, h6, h5⟩
    · exact pif_p h7 (Or.inr ⟨rfl, rfl, step_n2 hx (hst.mp h7) (cmpt_x (by decide) (gu_kk _ _ _ _) (hJ 2))⟩)
    · obtain ⟨S, s1, s2, rfl⟩ := iam_S hx
      refine pif_n (fun q => ?_) (c_step_o s1 s2 hw hf h6 h5)
      rw [(w_cells hw).1] at q
      exact absurd q (by decide)
  · exact pif_p (iam_n hx) (Or.inl ⟨rfl, rfl, step_n1 hx (cmpt_x (by decide) (gu_kk _ _ _ _) (hJ 1))⟩)
theorem c_step_A {G : Gt} {x : Int32} (h : IA G) : w_L_step_A (fun v1 s1 G2 => s1 = shA ∧ w_X11_step (fun v4 G3 => cmpt IA v1 v4 G3) x G2) x G := by
  obtain ⟨N, h⟩ := h
  have hJ : ∀ t, IA (gu G 46 71 t) := fun t => ⟨N, jA_71 h⟩
  have h52 := h.2.2.2.2.2.2.2.2.2
  unfold w_L_step_A w_X10_step_A
  by_cases hx : 1 ≤ x ∧ x ≤ 600
  · exact pif_n (iam_y hx) (Or.inr ⟨rfl, rfl, step_n2 hx h52 (cmpt_x (by decide) (gu_kk _ _ _ _) (hJ 2))⟩)
  · exact pif_p (iam_n hx) (Or.inl ⟨rfl, rfl, step_n1 hx (cmpt_x (by decide) (gu_kk _ _ _ _) (hJ 1))⟩)
theorem give_n {K : Int32 → Gt → Prop} {G : Gt} (h0 : G 46 52 = 0) (hk : K 0 (gu G 46 71 1)) : w_X11_giveUp K G := by
  unfold w_X11_giveUp
  exact goes_n (thr_1 h0) (by decide) (pif_p rfl hk)
theorem c_giveUp_B {G : Gt} (h : IB G) : w_L_giveUp_B (fun v1 s1 G2 => s1 = shB ∧ w_X11_giveUp (fun v4 G3 => cmpt IB v1 v4 G3) G2) G := by
  obtain ⟨N, h⟩ := h
  have hJ : ∀ t, IB (gu G 46 71 t) := fun t => ⟨N, IBn_eq h (fun k j q => gu_n (by omega))⟩
  have hst := IBn_st h
  unfold w_L_giveUp_B w_X10_giveUp_B
  rcases h with ⟨hj, h7⟩ | ⟨B, z, hw, hf, h6, h5⟩
  · exact pif_p h7 ⟨rfl, rfl, give_n (hst.mp h7) (cmpt_x (by decide) (gu_kk _ _ _ _) (hJ 1))⟩
  · refine pif_n (fun q => ?_) (c_give_o hw hf h5)
    rw [(w_cells hw).1] at q
    exact absurd q (by decide)
theorem c_giveUp_A {G : Gt} (h : IA G) : w_L_giveUp_A (fun v1 s1 G2 => s1 = shA ∧ w_X11_giveUp (fun v4 G3 => cmpt IA v1 v4 G3) G2) G := by
  obtain ⟨N, h⟩ := h
  have hJ : ∀ t, IA (gu G 46 71 t) := fun t => ⟨N, jA_71 h⟩
  unfold w_L_giveUp_A w_X10_giveUp_A
  exact ⟨rfl, rfl, give_n h.2.2.2.2.2.2.2.2.2 (cmpt_x (by decide) (gu_kk _ _ _ _) (hJ 1))⟩
theorem c_next_B {G : Gt} (h : IB G) : w_X10_next_B (fun v G1 => w_X11_next (fun v2 G2 => pif (v = v2) (IB G2) False) G1) G := by
  obtain ⟨N, h⟩ := h
  have hJ : ∀ t, IB (gu G 46 71 t) := fun t => ⟨N, IBn_eq h (fun k j q => gu_n (by omega))⟩
  have hst := IBn_st h
  unfold w_X10_next_B w_X10_next_B_j17 w_X11_next w_X11_next_j16
  rcases h with ⟨hj, h7⟩ | ⟨B, z, hw, hf, h6, h5⟩
  · exact pif_p h7 (pif_p (hst.mp h7) (s11_tells (pif_p rfl (hJ 0))))
  · obtain ⟨c1, c2, c3, c4, c5, c6, c7, c8, c9, c10, c11, c12, c13, c14⟩ := w_cells hw
    refine pif_n (by rw [c1]; decide) ?_
    unfold w_X2_waitingNode
    refine pif_n (by rw [h5]; decide) (s11_tells (pif_p ?_ (hJ 0)))
    rw [c3, rat_n (by omega) (by decide), c5, c13]
theorem c_active_B {G : Gt} (h : IB G) : w_X10_active_B (fun v G1 => w_X11_active (fun v2 G2 => pif (v = v2) (IB G2) False) G1) G := by
  obtain ⟨N, h⟩ := h
  have hJ : ∀ t, IB (gu G 46 71 t) := fun t => ⟨N, IBn_eq h (fun k j q => gu_n (by omega))⟩
  have hst := IBn_st h
  unfold w_X10_active_B w_X10_active_B_j17 w_X11_active w_X11_active_j16
  rcases h with ⟨hj, h7⟩ | ⟨B, z, hw, hf, h6, h5⟩
  · exact pif_p h7 (pif_p (hst.mp h7) (s11_tells (pif_p rfl (hJ 0))))
  · have c1 := (w_cells hw).1
    refine pif_n (by rw [c1]; decide) ?_
    refine pif_n (by rw [h5]; decide) (s11_tells (pif_p ?_ (hJ 0)))
    obtain ⟨hP, hA, hB, hC, hD, hE, hF, hG, hH, hI, hJ, hK, hL, hM, hNN, hO, hPg, hQ, hR, hS, hT, hU⟩ := hw.1
    obtain ⟨d, d1, d2, d3, d4, d5⟩ := hL.2
    rw [d3, d4]
theorem look_n1 {K : Int32 → Gt → Prop} {G : Gt} {x : Int32} (hx : ¬ ∃ i, i < 8 ∧ x = nI i) (hk : K 0 (gu G 46 71 1)) : w_X11_look K x G := by
  unfold w_X11_look
  exact name_n hx (goes_n (thr_1 rfl) (by decide) (pif_p rfl hk))
theorem look_n2 {K : Int32 → Gt → Prop} {G : Gt} {i : Nat} (hi : i < 8) (h0 : G 46 52 = 0) (hk : K 0 (gu G 46 71 2)) : w_X11_look K (nI i) G := by
  unfold w_X11_look
  exact name_y hi (goes_n (thr_2 (by decide) h0) (by decide) (pif_p rfl hk))
theorem c_look_A {G : Gt} {x : Int32} (h : IA G) : w_L_look_A (fun v1 s1 G2 => s1 = shA ∧ w_X11_look (fun v4 G3 => cmpt IA v1 v4 G3) x G2) x G := by
  obtain ⟨N, h⟩ := h
  have hJ : ∀ t, IA (gu G 46 71 t) := fun t => ⟨N, jA_71 h⟩
  unfold w_L_look_A w_X10_look_A
  by_cases hx : ∃ i, i < 8 ∧ x = nI i
  · obtain ⟨i, hi, rfl⟩ := hx
    exact pif_n (ibl_y (n := 8) rfl (by decide) hi rfl) (Or.inr ⟨rfl, rfl, look_n2 hi h.2.2.2.2.2.2.2.2.2 (cmpt_x (by decide) (gu_kk _ _ _ _) (hJ 2))⟩)
  · exact pif_p (ibl_n (n := 8) rfl (by decide) hx) (Or.inl ⟨rfl, rfl, look_n1 hx (cmpt_x (by decide) (gu_kk _ _ _ _) (hJ 1))⟩)
theorem c_look_B {G : Gt} {x : Int32} (h : IB G) : w_L_look_B (fun v1 s1 G2 => s1 = shB ∧ w_X11_look (fun v4 G3 => cmpt IB v1 v4 G3) x G2) x G := by
  obtain ⟨N, h⟩ := h
  have hJ : ∀ t, IB (gu G 46 71 t) := fun t => ⟨N, IBn_eq h (fun k j q => gu_n (by omega))⟩
  have hV : ∀ v, IB (gu (gu G 83 0 v) 46 71 0) := fun v => ⟨N, IBn_eq h (fun k j q => by rw [gu_n (by omega), gu_n (by omega)])⟩
  have hst := IBn_st h
  unfold w_L_look_B w_X10_look_B
  by_cases hx : ∃ i, i < 8 ∧ x = nI i
  · obtain ⟨j, hj8, rfl⟩ := hx
    refine pif_n (ibl_y (n := 8) rfl (by decide) hj8 rfl) ?_
    rcases h with ⟨hj, h7⟩ | ⟨B, z, hw, hf, h6, h5⟩
    · exact pif_p h7 (Or.inr ⟨rfl, rfl, look_n2 hj8 (hst.mp h7) (cmpt_x (by decide) (gu_kk _ _ _ _) (hJ 2))⟩)
    · obtain ⟨c1, c2, c3, c4, c5, c6, c7, c8, c9, c10, c11, c12, c13, c14⟩ := w_cells hw
      refine pif_n (by rw [c1]; decide) ?_
      have h8 : z 0 8 = z 0 0 + 1 := hw.2.1
      have h55 : G 46 55 = nI (z 5 (z 0 0)) := hw.2.2.2.2.2.2.2.2.2.2.2.1
      obtain ⟨hP, hA, hB, hC, hD, hE, hF, hG, hH, hI, hJ', hK, hL, hM, hNN, hO, hPg, hQ, hR, hS, hT, hU⟩ := hw.1
      obtain ⟨Q1, Q2, Q3, Q4, Q5, Q6, Q7, Q8, Q9, Q10, Q11, Q12, Q13, Q14, Q15, Q16, Q17, Q18, Q19, Q20, Q21, Q22, Q23, Q24, Q25⟩ := hQ
      obtain ⟨b1, b2⟩ := hB (z 0 0) (by omega)
      have hR1 := hR.1
      have hR3 := hR.2.2.1
      -- what the reference does, from the answer of its search
      have ref : ∀ v, (∀ (K : Int32 → Gt → Prop), K v (mxw (gu G 83 0 v) (gu G 46 71 0)) → w_X11_cellOf (fun v6 G5 => pif (v6 = (-1)) (w_X11_look_j45 K 49999 G5) (vp_in v6 4960 ∧ w_X11_look_j45 K (G5 72 (v6 : Int32).toNatClampNeg) G5)) (nI (z 5 (z 0 0))) (nI j) (mxw (gu G 83 0 v) (gu G 46 71 0))) → w_X11_look (fun v4 G3 => cmpt IB 0 v4 G3) (nI j) (gu G 83 0 v) := by
        intro v hv
        unfold w_X11_look
        refine name_y hj8 (goes_y (by decide) (by rw [gu_oo _ (by decide), h5]; decide) (by decide) (pif_n (by decide) ?_))
        have eg : gu (gu G 83 0 v) 46 71 0 = mxw (gu G 83 0 v) (gu G 46 71 0) := by
          rw [← mxw_gR rfl, mxw_r (C := gu G 83 0 v) (G := gu G 83 0 v) (G' := G) (fun k hk => by
            have := isR_t hk
            exact (gu_ne (by omega)).symm), mxw_self]
        have e55 : (gu (gu G 83 0 v) 46 71 0) 46 55 = nI (z 5 (z 0 0)) := by rw [gu_ko _ (by decide), gu_oo _ (by decide)]; exact h55
        rw [e55, eg]
        refine hv _ (cmpt_0 ?_ ?_ ?_)
        · rw [mx_R rfl, gu_kk]
        · rw [mx_C rfl, gu_kk]
        · rw [← eg]; exact hV v
      unfold w_X2_seenByWaiting w_X7_valueOf w_X7_valueOf_j30 w_X7_holderOf
      rw [c3, rat_n (by omega) (by decide), b1]
      rcases lookV (Gc := G) (Gr := gu G 46 71 0) hNN (by omega) (by omega) (by omega) (by omega) hj8 rfl rfl (gu_ne (by decide)) (gu_ne (by decide)) (z 5 (z 0 0)) (z 5 (z 0 0)) (Nat.le_refl _) b2 with ⟨s', q1, q2, q3, q4, q5⟩ | ⟨q4, q5⟩
      · have hS' : z 13 s' < 1210 := by have := (hNN.2 s' q1).1; omega
        have e8 : nI (z 13 s') * 8 + nI j = nI (8 * z 13 s' + j) := by
          rw [show (8 : Int32) = nI 8 from rfl, nI_mulx, nI_add, Nat.mul_comm]
        refine ⟨z 5 (z 0 0) + 2, ?_⟩
        have := q4 G (fun v2 G1 => pif (v2 = (-1)) (pt (gu G1 83 (0 : Int32).toNatClampNeg 49999) fun G2 => (shB = shB ∧ w_X11_look (fun v4 G3 => cmpt IB 0 v4 G3) (nI j) G2)) (pt (gu G1 83 (0 : Int32).toNatClampNeg (rat G1 133 9680 ((v2 * 8) + nI j))) fun G2 => (shB = shB ∧ w_X11_look (fun v4 G3 => cmpt IB 0 v4 G3) (nI j) G2))) (z 5 (z 0 0) + 2) 0 (Nat.le_refl _) (by omega) (pif_n (nI_neg (by omega)) (pt_of ⟨rfl, by
          rw [e8, rat_n (by omega) (by decide), mxw_self]
          refine ref _ (fun K hk => ?_)
          unfold w_X11_cellOf
          refine ⟨z 5 (z 0 0) + 2, q5 _ _ (z 5 (z 0 0) + 2) (Nat.le_refl _) (pif_n (nI_neg (by omega)) ⟨vp_n (by omega) (by decide), ?_⟩)⟩
          unfold w_X11_look_j45
          rw [nI_clamp (by omega), mx_R rfl, gu_oo _ (by decide), q2]
          exact hk⟩))
        rw [mxw_self] at this
        exact this
      · refine ⟨z 5 (z 0 0) + 2, ?_⟩
        have := q4 G (fun v2 G1 => pif (v2 = (-1)) (pt (gu G1 83 (0 : Int32).toNatClampNeg 49999) fun G2 => (shB = shB ∧ w_X11_look (fun v4 G3 => cmpt IB 0 v4 G3) (nI j) G2)) (pt (gu G1 83 (0 : Int32).toNatClampNeg (rat G1 133 9680 ((v2 * 8) + nI j))) fun G2 => (shB = shB ∧ w_X11_look (fun v4 G3 => cmpt IB 0 v4 G3) (nI j) G2))) (z 5 (z 0 0) + 2) 0 (Nat.le_refl _) (by omega) (pif_p rfl (pt_of ⟨rfl, by
          rw [mxw_self]
          refine ref _ (fun K hk => ?_)
          unfold w_X11_cellOf
          refine ⟨z 5 (z 0 0) + 2, q5 _ _ (z 5 (z 0 0) + 2) (Nat.le_refl _) (pif_p rfl ?_)⟩
          unfold w_X11_look_j45
          exact hk⟩))
        rw [mxw_self] at this
        exact this
  · exact pif_p (ibl_n (n := 8) rfl (by decide) hx) (Or.inl ⟨rfl, rfl, look_n1 hx (cmpt_x (by decide) (gu_kk _ _ _ _) (hJ 1))⟩)
