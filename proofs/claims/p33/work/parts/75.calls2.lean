theorem step_A {K : Int32 → Gt → Prop} {G : Gt} (h : K 0 G) : w_X10_isStepped_A K G := ⟨bz_0, h⟩
theorem step_By {K : Int32 → Gt → Prop} {G : Gt} (h7 : G 84 7 = 0) (h : K 0 G) : w_X10_isStepped_B K G := pif_p h7 ⟨bz_0, h⟩
theorem step_Bn {K : Int32 → Gt → Prop} {G : Gt} (h7 : ¬ G 84 7 = 0) (h : K 1 G) : w_X10_isStepped_B K G := pif_n h7 ⟨bz_1, h⟩
theorem inm_y {x : Int32} (h : isnum x) : ¬ inm x = 0 := by rw [inm_bi, bi_T h]; decide
theorem inm_n {x : Int32} (h : ¬ isnum x) : inm x = 0 := by rw [inm_bi, bi_F h]
theorem iam_y {x : Int32} (h : 1 ≤ x ∧ x ≤ 600) : ¬ iam x = 0 := by rw [iam_bi, bi_T h]; decide
theorem iam_n {x : Int32} (h : ¬ (1 ≤ x ∧ x ≤ 600)) : iam x = 0 := by rw [iam_bi, bi_F h]
theorem rput_eq {G : Gt} {a N i : Nat} {v : Int32} (hi : i < N) (hN : N < 2 ^ 31) : rput G a N (nI i) v = gu G a i v := rput_n hi hN
theorem c_setOption_A {I : Gt → Prop} {G : Gt} {x y : Int32} (hst : G 46 52 = 0) (he : ∀ m, m < 4 → G 31 m = G 56 m) (hI : ∀ i, i < 4 → ∀ v, G 46 52 = 0 → isnum y → I (gu (gu (gu (gu G 31 i y) 83 0 v) 46 71 0) 56 i y)) (hJ : ∀ t, I (gu G 46 71 t)) :
    w_L_setOption_A (fun v1 s1 G2 => s1 = shA ∧ w_X11_setOption (fun v4 G3 => cmpt I v1 v4 G3) x y G2) x y G := by
  unfold w_L_setOption_A w_X10_setOption_A
  by_cases h : ∃ i, i < 4 ∧ x = nI i
  · by_cases h2 : isnum y
    have hs := hst
    obtain ⟨i, hi, rfl⟩ := h
    refine pif_n (ibl_y (n := 4) rfl (by decide) hi rfl) (pif_n (inm_y h2) (step_A (pif_p rfl ?_)))
    rw [rput_n hi (by decide)]
    refine pt_of (pt_of ⟨rfl, few_y hi (in_y h2 (pif_p hs (goes_y (by decide) (by decide) (by decide) (pif_n (by decide) ⟨vp_n hi (by decide), vp_n hi (by decide), pt_of (cmpt_0 rfl ?_ ?_)⟩))))⟩)
    · show rat G 31 4 (nI i) = G 56 (nI i).toNatClampNeg
      rw [rat_n hi (by decide), nI_clamp (by omega)]
      exact he i hi
    · have := hI i hi (rat G 31 4 (nI i)) hs h2
      rw [nI_clamp (by omega)]
      exact this
    · obtain ⟨i, hi, rfl⟩ := h
      exact pif_n (ibl_y (n := 4) rfl (by decide) hi rfl) (pif_p (inm_n h2) (Or.inr (Or.inl ⟨rfl, rfl, few_y hi (in_n h2 (pif_p hst (goes_n (thr_2 (by decide) rfl) (by decide) (pif_p rfl (cmpt_x (by decide) rfl (hJ _))))))⟩)))
  · refine pif_p (ibl_n (n := 4) rfl (by decide) h) (Or.inl ⟨rfl, rfl, few_n h (s11_in ?_)⟩)
    exact pif_p hst (goes_n (thr_1 rfl) (by decide) (pif_p rfl (cmpt_x (by decide) rfl (hJ _))))
theorem c_setBudget_A {I : Gt → Prop} {G : Gt} {x : Int32} (he : G 0 4 = G 46 13) (hI : ∀ v, 1 ≤ x ∧ x ≤ 600 → I (gu (gu (gu (gu G 0 4 x) 83 0 v) 46 71 0) 46 13 x)) (hJ : ∀ t, I (gu G 46 71 t)) :
    w_L_setBudget_A (fun v1 s1 G2 => s1 = shA ∧ w_X11_setBudget (fun v4 G3 => cmpt I v1 v4 G3) x G2) x G := by
  unfold w_L_setBudget_A w_X10_setBudget_A
  by_cases h : 1 ≤ x ∧ x ≤ 600
  · exact pif_n (iam_y h) (pt_of (pt_of ⟨rfl, in_y h (goes_y (by decide) (by decide) (by decide) (pif_n (by decide) (pt_of (cmpt_0 rfl he (hI _ h)))))⟩))
  · exact pif_p (iam_n h) ⟨rfl, rfl, in_n h (goes_n (thr_1 rfl) (by decide) (pif_p rfl (cmpt_x (by decide) rfl (hJ _))))⟩
theorem c_write_A {I : Gt → Prop} {G : Gt} {x y : Int32} {l0 l1 : Nat} (hst : G 46 52 = 0) (hl0 : l0 ≤ 40) (hl1 : l1 ≤ 40) (a0 : G 20 2 = nI l0) (b0 : G 59 0 = nI l0) (a1 : G 25 2 = nI l1) (b1 : G 59 1 = nI l1) (hJ : ∀ t, I (gu G 46 71 t))
    (hI0 : ∀ j, j < 26 → l0 < 40 → ∀ v, G 46 52 = 0 → y = nI j → I (gu (gu (gu (gu (gu (gu G 22 l0 y) 20 2 (nI (l0 + 1))) 83 0 v) 46 71 0) 58 l0 y) 59 0 (nI (l0 + 1))))
    (hI1 : ∀ j, j < 26 → l1 < 40 → ∀ v, G 46 52 = 0 → y = nI j → I (gu (gu (gu (gu (gu (gu G 27 l1 y) 25 2 (nI (l1 + 1))) 83 0 v) 46 71 0) 58 (40 + l1) y) 59 1 (nI (l1 + 1)))) :
    w_L_write_A (fun v1 s1 G2 => s1 = shA ∧ w_X11_write (fun v4 G3 => cmpt I v1 v4 G3) x y G2) x y G := by
  unfold w_L_write_A w_X10_write_A
  by_cases h : ∃ i, i < 2 ∧ x = nI i
  · obtain ⟨i, hi, rfl⟩ := h
    refine pif_n (ibl_y (n := 2) rfl (by decide) hi rfl) ?_
    by_cases h2 : ∃ j, j < 26 ∧ y = nI j
    · obtain ⟨j, hj, e⟩ := h2
      have hin : 0 ≤ y ∧ y ≤ 25 := (lit_b1 (N := 26) rfl (by decide)).mpr ⟨j, hj, e⟩
      refine pif_n (ibl_y (n := 26) rfl (by decide) hj e) ?_
      have : i = 0 ∨ i = 1 := by omega
      rcases this with rfl | rfl
      · rw [show txo 19 (nI 0) = 20 from rfl]
        by_cases h3 : 40 ≤ l0
        · refine pif_p (by show 40 ≤ G 20 2; rw [a0]; exact nI_le (a := 40) h3 (by omega)) (Or.inr (Or.inr ⟨rfl, rfl, buf_y (i := 0) (by decide) (in_y hin (pif_n (by decide) ⟨vp_n (i := 0) (by decide) (by decide), pif_p ?_ (goes_n (thr_3 (by decide) (by decide) rfl) (by decide) (pif_p rfl (cmpt_x (by decide) rfl (hJ _))))⟩))⟩))
          show 40 ≤ G 59 0
          rw [b0]; exact nI_le (a := 40) h3 (by omega)
        · have hn : ¬ (40 : Int32) ≤ nI l0 := fun z => h3 ((nI_leI (a := 40) (by decide) (by omega)).mp z)
          refine pif_n (by show ¬ 40 ≤ G 20 2; rw [a0]; exact hn) ?_
          have hs := hst
          refine step_A (pif_p rfl ?_)
          show pt (rput G 22 40 (G 20 2) y) _
          rw [a0, rput_n (by omega) (by decide)]
          refine pt_of (pt_of ?_)
          rw [show gu G 22 l0 y 20 2 = nI l0 from a0, nI_1]
          refine pt_of ⟨rfl, buf_y (i := 0) (by decide) (in_y hin (pif_n (by decide) ⟨vp_n (i := 0) (by decide) (by decide), pif_n ?_ (pif_p hs (goes_y (by decide) (by decide) (by decide) (pif_n (by decide) ⟨vp_n (i := 0) (by decide) (by decide), ?_, pt_of ⟨vp_n (i := 0) (by decide) (by decide), vp_n (i := 0) (by decide) (by decide), pt_of ⟨vp_n (i := 0) (by decide) (by decide), cmpt_0 rfl ?_ ?_⟩⟩⟩)))⟩))⟩
          · show ¬ 40 ≤ G 59 0
            rw [b0]; exact hn
          · show vp_in (nI 40 * nI 0 + G 59 0) 80
            rw [b0, show nI 40 * nI 0 = nI 0 from rfl, nI_add]; exact vp_n (by omega) (by decide)
          · show nI (l0 + 1) = G 59 0 + 1
            rw [b0, nI_1]
          · show I (gu (gu _ 58 (nI 40 * nI 0 + G 59 0).toNatClampNeg y) 59 0 (G 59 0 + 1))
            rw [b0, show nI 40 * nI 0 = nI 0 from rfl, nI_add, nI_clamp (by omega), nI_1, Nat.zero_add]
            exact hI0 j hj (by omega) _ hs e
      · rw [show txo 19 (nI 1) = 25 from rfl]
        by_cases h3 : 40 ≤ l1
        · refine pif_p (by show 40 ≤ G 25 2; rw [a1]; exact nI_le (a := 40) h3 (by omega)) (Or.inr (Or.inr ⟨rfl, rfl, buf_y (i := 1) (by decide) (in_y hin (pif_n (by decide) ⟨vp_n (i := 1) (by decide) (by decide), pif_p ?_ (goes_n (thr_3 (by decide) (by decide) rfl) (by decide) (pif_p rfl (cmpt_x (by decide) rfl (hJ _))))⟩))⟩))
          show 40 ≤ G 59 1
          rw [b1]; exact nI_le (a := 40) h3 (by omega)
        · have hn : ¬ (40 : Int32) ≤ nI l1 := fun z => h3 ((nI_leI (a := 40) (by decide) (by omega)).mp z)
          refine pif_n (by show ¬ 40 ≤ G 25 2; rw [a1]; exact hn) ?_
          have hs := hst
          refine step_A (pif_p rfl ?_)
          show pt (rput G 27 40 (G 25 2) y) _
          rw [a1, rput_n (by omega) (by decide)]
          refine pt_of (pt_of ?_)
          rw [show gu G 27 l1 y 25 2 = nI l1 from a1, nI_1]
          refine pt_of ⟨rfl, buf_y (i := 1) (by decide) (in_y hin (pif_n (by decide) ⟨vp_n (i := 1) (by decide) (by decide), pif_n ?_ (pif_p hs (goes_y (by decide) (by decide) (by decide) (pif_n (by decide) ⟨vp_n (i := 1) (by decide) (by decide), ?_, pt_of ⟨vp_n (i := 1) (by decide) (by decide), vp_n (i := 1) (by decide) (by decide), pt_of ⟨vp_n (i := 1) (by decide) (by decide), cmpt_0 rfl ?_ ?_⟩⟩⟩)))⟩))⟩
          · show ¬ 40 ≤ G 59 1
            rw [b1]; exact hn
          · show vp_in (nI 40 * nI 1 + G 59 1) 80
            rw [b1, show nI 40 * nI 1 = nI 40 from rfl, nI_add]; exact vp_n (by omega) (by decide)
          · show nI (l1 + 1) = G 59 1 + 1
            rw [b1, nI_1]
          · show I (gu (gu _ 58 (nI 40 * nI 1 + G 59 1).toNatClampNeg y) 59 1 (G 59 1 + 1))
            rw [b1, show nI 40 * nI 1 = nI 40 from rfl, nI_add, nI_clamp (by omega), nI_1]
            exact hI1 j hj (by omega) _ hs e
    · have hin : ¬ (0 ≤ y ∧ y ≤ 25) := fun z => h2 ((lit_b1 (N := 26) rfl (by decide)).mp z)
      refine pif_p (ibl_n (n := 26) rfl (by decide) h2) (Or.inr (Or.inl ⟨rfl, rfl, buf_y hi (in_n hin (pif_n (by decide) ⟨vp_n hi (by decide), ?_⟩))⟩))
      exact ⟨fun _ => goes_n (thr_2 (by decide) rfl) (by decide) (pif_p rfl (cmpt_x (by decide) rfl (hJ _))), fun _ => ⟨fun _ => goes_n (thr_2 (by decide) rfl) (by decide) (pif_p rfl (cmpt_x (by decide) rfl (hJ _))), fun _ => goes_n (thr_2 (by decide) rfl) (by decide) (pif_p rfl (cmpt_x (by decide) rfl (hJ _)))⟩⟩
  · refine pif_p (ibl_n (n := 2) rfl (by decide) h) (Or.inl ⟨rfl, rfl, buf_n h (s11_in (pif_p rfl ?_))⟩)
    exact goes_n (thr_1 rfl) (by decide) (pif_p rfl (cmpt_x (by decide) rfl (hJ _)))
theorem c_setOption_B {I : Gt → Prop} {G : Gt} {x y : Int32} (hst : G 84 7 = 0 ↔ G 46 52 = 0) (he : ∀ m, m < 4 → G 31 m = G 56 m) (hI : ∀ i, i < 4 → ∀ v, G 46 52 = 0 → isnum y → I (gu (gu (gu (gu G 31 i y) 83 0 v) 46 71 0) 56 i y)) (hJ : ∀ t, I (gu G 46 71 t)) :
    w_L_setOption_B (fun v1 s1 G2 => s1 = shB ∧ w_X11_setOption (fun v4 G3 => cmpt I v1 v4 G3) x y G2) x y G := by
  unfold w_L_setOption_B w_X10_setOption_B
  by_cases h : ∃ i, i < 4 ∧ x = nI i
  · by_cases h2 : isnum y
    by_cases hs : G 46 52 = 0
    · obtain ⟨i, hi, rfl⟩ := h
      refine pif_n (ibl_y (n := 4) rfl (by decide) hi rfl) (pif_n (inm_y h2) (step_By (hst.mpr hs) (pif_p rfl ?_)))
      rw [rput_n hi (by decide)]
      refine pt_of (pt_of ⟨rfl, few_y hi (in_y h2 (pif_p hs (goes_y (by decide) (by decide) (by decide) (pif_n (by decide) ⟨vp_n hi (by decide), vp_n hi (by decide), pt_of (cmpt_0 rfl ?_ ?_)⟩))))⟩)
      · show rat G 31 4 (nI i) = G 56 (nI i).toNatClampNeg
        rw [rat_n hi (by decide), nI_clamp (by omega)]
        exact he i hi
      · have := hI i hi (rat G 31 4 (nI i)) hs h2
        rw [nI_clamp (by omega)]
        exact this
    · obtain ⟨i, hi, rfl⟩ := h
      exact pif_n (ibl_y (n := 4) rfl (by decide) hi rfl) (pif_n (inm_y h2) (step_Bn (fun z => hs (hst.mp z)) (pif_n (by decide) (Or.inr (Or.inr ⟨rfl, rfl, few_y hi (in_y h2 (pif_n hs (goes_n (thr_3 (by decide) (by decide) rfl) (by decide) (pif_p rfl (cmpt_x (by decide) rfl (hJ _))))))⟩)))))
    · obtain ⟨i, hi, rfl⟩ := h
      refine pif_n (ibl_y (n := 4) rfl (by decide) hi rfl) (pif_p (inm_n h2) (Or.inr (Or.inl ⟨rfl, rfl, few_y hi (in_n h2 ?_)⟩)))
      exact ⟨fun _ => goes_n (thr_2 (by decide) rfl) (by decide) (pif_p rfl (cmpt_x (by decide) rfl (hJ _))), fun _ => goes_n (thr_2 (by decide) rfl) (by decide) (pif_p rfl (cmpt_x (by decide) rfl (hJ _)))⟩
  · refine pif_p (ibl_n (n := 4) rfl (by decide) h) (Or.inl ⟨rfl, rfl, few_n h (s11_in ?_)⟩)
    exact ⟨fun _ => goes_n (thr_1 rfl) (by decide) (pif_p rfl (cmpt_x (by decide) rfl (hJ _))), fun _ => goes_n (thr_1 rfl) (by decide) (pif_p rfl (cmpt_x (by decide) rfl (hJ _)))⟩
theorem c_setBudget_B {I : Gt → Prop} {G : Gt} {x : Int32} (he : G 0 4 = G 46 13) (hI : ∀ v, 1 ≤ x ∧ x ≤ 600 → I (gu (gu (gu (gu G 0 4 x) 83 0 v) 46 71 0) 46 13 x)) (hJ : ∀ t, I (gu G 46 71 t)) :
    w_L_setBudget_B (fun v1 s1 G2 => s1 = shB ∧ w_X11_setBudget (fun v4 G3 => cmpt I v1 v4 G3) x G2) x G := by
  unfold w_L_setBudget_B w_X10_setBudget_B
  by_cases h : 1 ≤ x ∧ x ≤ 600
  · exact pif_n (iam_y h) (pt_of (pt_of ⟨rfl, in_y h (goes_y (by decide) (by decide) (by decide) (pif_n (by decide) (pt_of (cmpt_0 rfl he (hI _ h)))))⟩))
  · exact pif_p (iam_n h) ⟨rfl, rfl, in_n h (goes_n (thr_1 rfl) (by decide) (pif_p rfl (cmpt_x (by decide) rfl (hJ _))))⟩
theorem c_write_B {I : Gt → Prop} {G : Gt} {x y : Int32} {l0 l1 : Nat} (hst : G 84 7 = 0 ↔ G 46 52 = 0) (hl0 : l0 ≤ 40) (hl1 : l1 ≤ 40) (a0 : G 20 2 = nI l0) (b0 : G 59 0 = nI l0) (a1 : G 25 2 = nI l1) (b1 : G 59 1 = nI l1) (hJ : ∀ t, I (gu G 46 71 t))
    (hI0 : ∀ j, j < 26 → l0 < 40 → ∀ v, G 46 52 = 0 → y = nI j → I (gu (gu (gu (gu (gu (gu G 22 l0 y) 20 2 (nI (l0 + 1))) 83 0 v) 46 71 0) 58 l0 y) 59 0 (nI (l0 + 1))))
    (hI1 : ∀ j, j < 26 → l1 < 40 → ∀ v, G 46 52 = 0 → y = nI j → I (gu (gu (gu (gu (gu (gu G 27 l1 y) 25 2 (nI (l1 + 1))) 83 0 v) 46 71 0) 58 (40 + l1) y) 59 1 (nI (l1 + 1)))) :
    w_L_write_B (fun v1 s1 G2 => s1 = shB ∧ w_X11_write (fun v4 G3 => cmpt I v1 v4 G3) x y G2) x y G := by
  unfold w_L_write_B w_X10_write_B
  by_cases h : ∃ i, i < 2 ∧ x = nI i
  · obtain ⟨i, hi, rfl⟩ := h
    refine pif_n (ibl_y (n := 2) rfl (by decide) hi rfl) ?_
    by_cases h2 : ∃ j, j < 26 ∧ y = nI j
    · obtain ⟨j, hj, e⟩ := h2
      have hin : 0 ≤ y ∧ y ≤ 25 := (lit_b1 (N := 26) rfl (by decide)).mpr ⟨j, hj, e⟩
      refine pif_n (ibl_y (n := 26) rfl (by decide) hj e) ?_
      have : i = 0 ∨ i = 1 := by omega
      rcases this with rfl | rfl
      · rw [show txo 19 (nI 0) = 20 from rfl]
        by_cases h3 : 40 ≤ l0
        · refine pif_p (by show 40 ≤ G 20 2; rw [a0]; exact nI_le (a := 40) h3 (by omega)) (Or.inr (Or.inr ⟨rfl, rfl, buf_y (i := 0) (by decide) (in_y hin (pif_n (by decide) ⟨vp_n (i := 0) (by decide) (by decide), pif_p ?_ (goes_n (thr_3 (by decide) (by decide) rfl) (by decide) (pif_p rfl (cmpt_x (by decide) rfl (hJ _))))⟩))⟩))
          show 40 ≤ G 59 0
          rw [b0]; exact nI_le (a := 40) h3 (by omega)
        · have hn : ¬ (40 : Int32) ≤ nI l0 := fun z => h3 ((nI_leI (a := 40) (by decide) (by omega)).mp z)
          refine pif_n (by show ¬ 40 ≤ G 20 2; rw [a0]; exact hn) ?_
          by_cases hs : G 46 52 = 0
          · refine step_By (hst.mpr hs) (pif_p rfl ?_)
            show pt (rput G 22 40 (G 20 2) y) _
            rw [a0, rput_n (by omega) (by decide)]
            refine pt_of (pt_of ?_)
            rw [show gu G 22 l0 y 20 2 = nI l0 from a0, nI_1]
            refine pt_of ⟨rfl, buf_y (i := 0) (by decide) (in_y hin (pif_n (by decide) ⟨vp_n (i := 0) (by decide) (by decide), pif_n ?_ (pif_p hs (goes_y (by decide) (by decide) (by decide) (pif_n (by decide) ⟨vp_n (i := 0) (by decide) (by decide), ?_, pt_of ⟨vp_n (i := 0) (by decide) (by decide), vp_n (i := 0) (by decide) (by decide), pt_of ⟨vp_n (i := 0) (by decide) (by decide), cmpt_0 rfl ?_ ?_⟩⟩⟩)))⟩))⟩
            · show ¬ 40 ≤ G 59 0
              rw [b0]; exact hn
            · show vp_in (nI 40 * nI 0 + G 59 0) 80
              rw [b0, show nI 40 * nI 0 = nI 0 from rfl, nI_add]; exact vp_n (by omega) (by decide)
            · show nI (l0 + 1) = G 59 0 + 1
              rw [b0, nI_1]
            · show I (gu (gu _ 58 (nI 40 * nI 0 + G 59 0).toNatClampNeg y) 59 0 (G 59 0 + 1))
              rw [b0, show nI 40 * nI 0 = nI 0 from rfl, nI_add, nI_clamp (by omega), nI_1, Nat.zero_add]
              exact hI0 j hj (by omega) _ hs e
          · refine step_Bn (fun z => hs (hst.mp z)) (pif_n (by decide) (Or.inr (Or.inr ⟨rfl, rfl, buf_y (i := 0) (by decide) (in_y hin (pif_n (by decide) ⟨vp_n (i := 0) (by decide) (by decide), pif_n ?_ (pif_n hs (goes_n (thr_3 (by decide) (by decide) rfl) (by decide) (pif_p rfl (cmpt_x (by decide) rfl (hJ _)))))⟩))⟩)))
            show ¬ 40 ≤ G 59 0
            rw [b0]; exact hn
      · rw [show txo 19 (nI 1) = 25 from rfl]
        by_cases h3 : 40 ≤ l1
        · refine pif_p (by show 40 ≤ G 25 2; rw [a1]; exact nI_le (a := 40) h3 (by omega)) (Or.inr (Or.inr ⟨rfl, rfl, buf_y (i := 1) (by decide) (in_y hin (pif_n (by decide) ⟨vp_n (i := 1) (by decide) (by decide), pif_p ?_ (goes_n (thr_3 (by decide) (by decide) rfl) (by decide) (pif_p rfl (cmpt_x (by decide) rfl (hJ _))))⟩))⟩))
          show 40 ≤ G 59 1
          rw [b1]; exact nI_le (a := 40) h3 (by omega)
        · have hn : ¬ (40 : Int32) ≤ nI l1 := fun z => h3 ((nI_leI (a := 40) (by decide) (by omega)).mp z)
          refine pif_n (by show ¬ 40 ≤ G 25 2; rw [a1]; exact hn) ?_
          by_cases hs : G 46 52 = 0
          · refine step_By (hst.mpr hs) (pif_p rfl ?_)
            show pt (rput G 27 40 (G 25 2) y) _
            rw [a1, rput_n (by omega) (by decide)]
            refine pt_of (pt_of ?_)
            rw [show gu G 27 l1 y 25 2 = nI l1 from a1, nI_1]
            refine pt_of ⟨rfl, buf_y (i := 1) (by decide) (in_y hin (pif_n (by decide) ⟨vp_n (i := 1) (by decide) (by decide), pif_n ?_ (pif_p hs (goes_y (by decide) (by decide) (by decide) (pif_n (by decide) ⟨vp_n (i := 1) (by decide) (by decide), ?_, pt_of ⟨vp_n (i := 1) (by decide) (by decide), vp_n (i := 1) (by decide) (by decide), pt_of ⟨vp_n (i := 1) (by decide) (by decide), cmpt_0 rfl ?_ ?_⟩⟩⟩)))⟩))⟩
            · show ¬ 40 ≤ G 59 1
              rw [b1]; exact hn
            · show vp_in (nI 40 * nI 1 + G 59 1) 80
              rw [b1, show nI 40 * nI 1 = nI 40 from rfl, nI_add]; exact vp_n (by omega) (by decide)
            · show nI (l1 + 1) = G 59 1 + 1
              rw [b1, nI_1]
            · show I (gu (gu _ 58 (nI 40 * nI 1 + G 59 1).toNatClampNeg y) 59 1 (G 59 1 + 1))
              rw [b1, show nI 40 * nI 1 = nI 40 from rfl, nI_add, nI_clamp (by omega), nI_1]
              exact hI1 j hj (by omega) _ hs e
          · refine step_Bn (fun z => hs (hst.mp z)) (pif_n (by decide) (Or.inr (Or.inr ⟨rfl, rfl, buf_y (i := 1) (by decide) (in_y hin (pif_n (by decide) ⟨vp_n (i := 1) (by decide) (by decide), pif_n ?_ (pif_n hs (goes_n (thr_3 (by decide) (by decide) rfl) (by decide) (pif_p rfl (cmpt_x (by decide) rfl (hJ _)))))⟩))⟩)))
            show ¬ 40 ≤ G 59 1
            rw [b1]; exact hn
    · have hin : ¬ (0 ≤ y ∧ y ≤ 25) := fun z => h2 ((lit_b1 (N := 26) rfl (by decide)).mp z)
      refine pif_p (ibl_n (n := 26) rfl (by decide) h2) (Or.inr (Or.inl ⟨rfl, rfl, buf_y hi (in_n hin (pif_n (by decide) ⟨vp_n hi (by decide), ?_⟩))⟩))
      exact ⟨fun _ => goes_n (thr_2 (by decide) rfl) (by decide) (pif_p rfl (cmpt_x (by decide) rfl (hJ _))), fun _ => ⟨fun _ => goes_n (thr_2 (by decide) rfl) (by decide) (pif_p rfl (cmpt_x (by decide) rfl (hJ _))), fun _ => goes_n (thr_2 (by decide) rfl) (by decide) (pif_p rfl (cmpt_x (by decide) rfl (hJ _)))⟩⟩
  · refine pif_p (ibl_n (n := 2) rfl (by decide) h) (Or.inl ⟨rfl, rfl, buf_n h (s11_in (pif_p rfl ?_))⟩)
    exact goes_n (thr_1 rfl) (by decide) (pif_p rfl (cmpt_x (by decide) rfl (hJ _)))
