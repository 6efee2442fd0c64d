/-! small questions, by their answers -/
theorem has_y {K : Int32 → Gt → Prop} {G : Gt} {N i : Nat} (e : G 1 7 = nI N) (hN : N ≤ 120) (hi : i < N) (h : K 1 G) : w_X4_has K (nI i) G := s4_has (by rw [e, bi_T ((nI_b (by omega)).mpr ⟨i, hi, rfl⟩)]; exact h)
theorem has_n {K : Int32 → Gt → Prop} {G : Gt} {N : Nat} {x : Int32} (e : G 1 7 = nI N) (hN : N ≤ 120) (hx : ¬ ∃ i, i < N ∧ x = nI i) (h : K 0 G) : w_X4_has K x G := s4_has (by rw [e, bi_F (fun z => hx ((nI_b (by omega)).mp z))]; exact h)
theorem node_y {K : Int32 → Gt → Prop} {G : Gt} {N i : Nat} (e : G 46 0 = nI N) (hN : N ≤ 120) (hi : i < N) (h : K 1 G) : w_X11_isNode K (nI i) G := s11_isNode (by rw [e, bi_T ((nI_b1 (by omega)).mpr ⟨i, hi, rfl⟩)]; exact h)
theorem node_n {K : Int32 → Gt → Prop} {G : Gt} {N : Nat} {x : Int32} (e : G 46 0 = nI N) (hN : N ≤ 120) (hx : ¬ ∃ i, i < N ∧ x = nI i) (h : K 0 G) : w_X11_isNode K x G := s11_isNode (by rw [e, bi_F (fun z => hx ((nI_b1 (by omega)).mp z))]; exact h)
theorem in_y {K : Int32 → Gt → Prop} {G : Gt} {x lo hi : Int32} (hx : lo ≤ x ∧ x ≤ hi) (h : K 1 G) : w_X11_in K x lo hi G := s11_in (by rw [bi_T hx]; exact h)
theorem in_n {K : Int32 → Gt → Prop} {G : Gt} {x lo hi : Int32} (hx : ¬ (lo ≤ x ∧ x ≤ hi)) (h : K 0 G) : w_X11_in K x lo hi G := s11_in (by rw [bi_F hx]; exact h)
theorem ibl_y {x : Int32} {n : Nat} {b : Int32} (e : b = nI n) (hn : n < 2 ^ 31) {i : Nat} (hi : i < n) (hx : x = nI i) : ¬ ibl x b = 0 := by
  rw [ibl_bi, bi_T ((lit_b e hn).mpr ⟨i, hi, hx⟩)]; decide
theorem ibl_n {x : Int32} {n : Nat} {b : Int32} (e : b = nI n) (hn : n < 2 ^ 31) (hx : ¬ ∃ i, i < n ∧ x = nI i) : ibl x b = 0 := by
  rw [ibl_bi, bi_F (fun z => hx ((lit_b e hn).mp z))]
theorem buf_y {K : Int32 → Gt → Prop} {G : Gt} {i : Nat} (hi : i < 2) (h : K 1 G) : w_X11_isBuffer K (nI i) G := s11_isBuffer (by
  have : i = 0 ∨ i = 1 := by omega
  rcases this with rfl | rfl <;> exact h)
theorem buf_n {K : Int32 → Gt → Prop} {G : Gt} {x : Int32} (hx : ¬ ∃ i, i < 2 ∧ x = nI i) (h : K 0 G) : w_X11_isBuffer K x G := s11_isBuffer (by
  rw [bi_F (fun z => hx (z.elim (fun e => ⟨0, by omega, e⟩) (fun e => ⟨1, by omega, e⟩)))]; exact h)
theorem slot_y {K : Int32 → Gt → Prop} {G : Gt} {i : Nat} (hi : i < 6) (h : K 1 G) : w_X11_isSlot K (nI i) G := s11_isSlot (by rw [bi_T ((lit_b1 (N := 6) rfl (by decide)).mpr ⟨i, hi, rfl⟩)]; exact h)
theorem slot_n {K : Int32 → Gt → Prop} {G : Gt} {x : Int32} (hx : ¬ ∃ i, i < 6 ∧ x = nI i) (h : K 0 G) : w_X11_isSlot K x G := s11_isSlot (by rw [bi_F (fun z => hx ((lit_b1 (N := 6) rfl (by decide)).mp z))]; exact h)
theorem few_y {K : Int32 → Gt → Prop} {G : Gt} {i : Nat} (hi : i < 4) (h : K 1 G) : w_X11_isFew K (nI i) G := s11_isFew (by rw [bi_T ((lit_b1 (N := 4) rfl (by decide)).mpr ⟨i, hi, rfl⟩)]; exact h)
theorem few_n {K : Int32 → Gt → Prop} {G : Gt} {x : Int32} (hx : ¬ ∃ i, i < 4 ∧ x = nI i) (h : K 0 G) : w_X11_isFew K x G := s11_isFew (by rw [bi_F (fun z => hx ((lit_b1 (N := 4) rfl (by decide)).mp z))]; exact h)
theorem name_y {K : Int32 → Gt → Prop} {G : Gt} {i : Nat} (hi : i < 8) (h : K 1 G) : w_X11_isName K (nI i) G := s11_isName (by rw [bi_T ((lit_b1 (N := 8) rfl (by decide)).mpr ⟨i, hi, rfl⟩)]; exact h)
theorem name_n {K : Int32 → Gt → Prop} {G : Gt} {x : Int32} (hx : ¬ ∃ i, i < 8 ∧ x = nI i) (h : K 0 G) : w_X11_isName K x G := s11_isName (by rw [bi_F (fun z => hx ((lit_b1 (N := 8) rfl (by decide)).mp z))]; exact h)
theorem c_size_A {I : Gt → Prop} {G : Gt} {x : Int32} {N : Nat} (hN : N ≤ 120) (h1 : G 1 7 = nI N) (h2 : G 46 0 = nI N) (he : ∀ m, m < N → G 9 m = G 51 m) (hI : ∀ v t, I (gu (gu G 83 0 v) 46 71 t)) (hJ : ∀ t, I (gu G 46 71 t)) :
    w_L_size_A (fun v1 s1 G2 => s1 = shA ∧ w_X11_size (fun v4 G3 => cmpt I v1 v4 G3) x G2) x G := by
  unfold w_L_size_A w_X10_size_A
  by_cases h : ∃ i, i < N ∧ x = nI i
  · obtain ⟨i, hi, rfl⟩ := h
    refine has_y h1 hN hi (pif_n (by decide) (pt_of ⟨rfl, node_y (N := N) h2 hN hi (goes_y (by decide) (by decide) (by decide) (pif_n (by decide) ⟨vp_n (by omega) (by decide), cmpt_0 rfl ?_ (hI _ _)⟩))⟩))
    show rat G 9 120 (nI i) = G 51 (nI i).toNatClampNeg
    rw [rat_n (by omega) (by decide), nI_clamp (by omega)]
    exact he i hi
  · exact has_n h1 hN h (pif_p rfl ⟨rfl, rfl, node_n h2 hN h (goes_n (thr_1 rfl) (by decide) (pif_p rfl (cmpt_x (by decide) rfl (hJ _))))⟩)
theorem c_option_A {I : Gt → Prop} {G : Gt} {x : Int32} (he : ∀ m, m < 4 → G 31 m = G 56 m) (hI : ∀ v t, I (gu (gu G 83 0 v) 46 71 t)) (hJ : ∀ t, I (gu G 46 71 t)) :
    w_L_option_A (fun v1 s1 G2 => s1 = shA ∧ w_X11_option (fun v4 G3 => cmpt I v1 v4 G3) x G2) x G := by
  by_cases h : ∃ i, i < 4 ∧ x = nI i
  · obtain ⟨i, hi, rfl⟩ := h
    refine pif_n (ibl_y (n := 4) rfl (by decide) hi rfl) (pt_of ⟨rfl, few_y hi (goes_y (by decide) (by decide) (by decide) (pif_n (by decide) ⟨vp_n hi (by decide), cmpt_0 rfl ?_ (hI _ _)⟩))⟩)
    show rat G 31 4 (nI i) = G 56 (nI i).toNatClampNeg
    rw [rat_n (by omega) (by decide), nI_clamp (by omega)]
    exact he i hi
  · exact pif_p (ibl_n (n := 4) rfl (by decide) h) ⟨rfl, rfl, few_n h (goes_n (thr_1 rfl) (by decide) (pif_p rfl (cmpt_x (by decide) rfl (hJ _))))⟩
theorem c_register_A {I : Gt → Prop} {G : Gt} {x : Int32} (he : ∀ m, m < 4 → G 33 m = G 57 m) (hI : ∀ v t, I (gu (gu G 83 0 v) 46 71 t)) (hJ : ∀ t, I (gu G 46 71 t)) :
    w_L_register_A (fun v1 s1 G2 => s1 = shA ∧ w_X11_register (fun v4 G3 => cmpt I v1 v4 G3) x G2) x G := by
  by_cases h : ∃ i, i < 4 ∧ x = nI i
  · obtain ⟨i, hi, rfl⟩ := h
    refine pif_n (ibl_y (n := 4) rfl (by decide) hi rfl) (pt_of ⟨rfl, few_y hi (goes_y (by decide) (by decide) (by decide) (pif_n (by decide) ⟨vp_n hi (by decide), cmpt_0 rfl ?_ (hI _ _)⟩))⟩)
    show rat G 33 4 (nI i) = G 57 (nI i).toNatClampNeg
    rw [rat_n (by omega) (by decide), nI_clamp (by omega)]
    exact he i hi
  · exact pif_p (ibl_n (n := 4) rfl (by decide) h) ⟨rfl, rfl, few_n h (goes_n (thr_1 rfl) (by decide) (pif_p rfl (cmpt_x (by decide) rfl (hJ _))))⟩
theorem c_body_A {I : Gt → Prop} {G : Gt} {x : Int32} (he : ∀ m, m < 6 → G 35 m = G 54 m) (hI : ∀ v t, I (gu (gu G 83 0 v) 46 71 t)) (hJ : ∀ t, I (gu G 46 71 t)) :
    w_L_body_A (fun v1 s1 G2 => s1 = shA ∧ w_X11_body (fun v4 G3 => cmpt I v1 v4 G3) x G2) x G := by
  by_cases h : ∃ i, i < 6 ∧ x = nI i
  · obtain ⟨i, hi, rfl⟩ := h
    refine pif_n (ibl_y (n := 6) rfl (by decide) hi rfl) (pt_of ⟨rfl, slot_y hi (goes_y (by decide) (by decide) (by decide) (pif_n (by decide) ⟨vp_n hi (by decide), cmpt_0 rfl ?_ (hI _ _)⟩))⟩)
    show rat G 35 6 (nI i) = G 54 (nI i).toNatClampNeg
    rw [rat_n (by omega) (by decide), nI_clamp (by omega)]
    exact he i hi
  · exact pif_p (ibl_n (n := 6) rfl (by decide) h) ⟨rfl, rfl, slot_n h (goes_n (thr_1 rfl) (by decide) (pif_p rfl (cmpt_x (by decide) rfl (hJ _))))⟩
theorem c_length_A {I : Gt → Prop} {G : Gt} {x : Int32} (h0 : G 20 2 = G 59 0) (h1 : G 25 2 = G 59 1) (hI : ∀ v t, I (gu (gu G 83 0 v) 46 71 t)) (hJ : ∀ t, I (gu G 46 71 t)) :
    w_L_length_A (fun v1 s1 G2 => s1 = shA ∧ w_X11_length (fun v4 G3 => cmpt I v1 v4 G3) x G2) x G := by
  by_cases h : ∃ i, i < 2 ∧ x = nI i
  · obtain ⟨i, hi, rfl⟩ := h
    refine pif_n (ibl_y (n := 2) rfl (by decide) hi rfl) (pt_of ⟨rfl, buf_y hi (goes_y (by decide) (by decide) (by decide) (pif_n (by decide) ⟨vp_n hi (by decide), cmpt_0 rfl ?_ (hI _ _)⟩))⟩)
    have : i = 0 ∨ i = 1 := by omega
    rcases this with rfl | rfl
    · exact h0
    · exact h1
  · exact pif_p (ibl_n (n := 2) rfl (by decide) h) ⟨rfl, rfl, buf_n h (goes_n (thr_1 rfl) (by decide) (pif_p rfl (cmpt_x (by decide) rfl (hJ _))))⟩
theorem c_activeCursor_A {I : Gt → Prop} {G : Gt} {x : Int32} (h0 : G 20 3 = G 61 0) (h1 : G 25 3 = G 61 1) (hI : ∀ v t, I (gu (gu G 83 0 v) 46 71 t)) (hJ : ∀ t, I (gu G 46 71 t)) :
    w_L_activeCursor_A (fun v1 s1 G2 => s1 = shA ∧ w_X11_activeCursor (fun v4 G3 => cmpt I v1 v4 G3) x G2) x G := by
  by_cases h : ∃ i, i < 2 ∧ x = nI i
  · obtain ⟨i, hi, rfl⟩ := h
    refine pif_n (ibl_y (n := 2) rfl (by decide) hi rfl) (pt_of ⟨rfl, buf_y hi (goes_y (by decide) (by decide) (by decide) (pif_n (by decide) ⟨vp_n hi (by decide), cmpt_0 rfl ?_ (hI _ _)⟩))⟩)
    have : i = 0 ∨ i = 1 := by omega
    rcases this with rfl | rfl
    · exact h0
    · exact h1
  · exact pif_p (ibl_n (n := 2) rfl (by decide) h) ⟨rfl, rfl, buf_n h (goes_n (thr_1 rfl) (by decide) (pif_p rfl (cmpt_x (by decide) rfl (hJ _))))⟩
theorem c_traceAt_A {I : Gt → Prop} {G : Gt} {x : Int32} {c : Nat} (hc : c ≤ 13) (h1 : G 40 3 = nI c) (h2 : G 46 69 = nI c) (he : ∀ m, m < c → G 42 m = G 82 m) (hI : ∀ v t, I (gu (gu G 83 0 v) 46 71 t)) (hJ : ∀ t, I (gu G 46 71 t)) :
    w_L_traceAt_A (fun v1 s1 G2 => s1 = shA ∧ w_X11_traceAt (fun v4 G3 => cmpt I v1 v4 G3) x G2) x G := by
  by_cases h : ∃ i, i < c ∧ x = nI i
  · obtain ⟨i, hi, rfl⟩ := h
    have hb : 0 ≤ nI i ∧ nI i ≤ G 46 69 - 1 := by rw [h2]; exact (nI_b1 (by omega)).mpr ⟨i, hi, rfl⟩
    refine pif_n (ibl_y (n := c) h1 (by omega) hi rfl) (pt_of ⟨rfl, in_y hb (goes_y (by decide) (by decide) (by decide) (pif_n (by decide) ⟨vp_n (by omega) (by decide), cmpt_0 rfl ?_ (hI _ _)⟩))⟩)
    show rat G 42 13 (nI i) = G 82 (nI i).toNatClampNeg
    rw [rat_n (by omega) (by decide), nI_clamp (by omega)]
    exact he i hi
  · have hb : ¬ (0 ≤ x ∧ x ≤ G 46 69 - 1) := by rw [h2]; exact fun z => h ((nI_b1 (by omega)).mp z)
    exact pif_p (ibl_n (n := c) h1 (by omega) h) ⟨rfl, rfl, in_n hb (goes_n (thr_1 rfl) (by decide) (pif_p rfl (cmpt_x (by decide) rfl (hJ _))))⟩
theorem c_letter_A {I : Gt → Prop} {G : Gt} {x y : Int32} {l0 l1 : Nat} (hl0 : l0 ≤ 40) (hl1 : l1 ≤ 40) (a0 : G 20 2 = nI l0) (b0 : G 59 0 = nI l0) (a1 : G 25 2 = nI l1) (b1 : G 59 1 = nI l1) (he0 : ∀ p, p < 40 → G 22 p = G 58 p) (he1 : ∀ p, p < 40 → G 27 p = G 58 (40 + p)) (hI : ∀ v t, I (gu (gu G 83 0 v) 46 71 t)) (hJ : ∀ t, I (gu G 46 71 t)) :
    w_L_letter_A (fun v1 s1 G2 => s1 = shA ∧ w_X11_letter (fun v4 G3 => cmpt I v1 v4 G3) x y G2) x y G := by
  by_cases h : ∃ i, i < 2 ∧ x = nI i
  · obtain ⟨i, hi, rfl⟩ := h
    have : i = 0 ∨ i = 1 := by omega
    rcases this with rfl | rfl
    · by_cases h' : ∃ j, j < l0 ∧ y = nI j
      · obtain ⟨j, hj, rfl⟩ := h'
        refine pif_n (ibl_y (n := 2) rfl (by decide) (i := 0) (by decide) rfl) (pif_n (ibl_y (n := l0) a0 (by omega) hj rfl) (pt_of ⟨rfl, buf_y (i := 0) (by decide) (pif_n (by decide) (pif_n (by decide) ⟨vp_n (i := 0) (by decide) (by decide), in_y (by show 0 ≤ nI j ∧ nI j ≤ G 59 0 - 1; rw [b0]; exact (nI_b1 (by omega)).mpr ⟨j, hj, rfl⟩) (pif_n (by decide) (goes_y (by decide) (by decide) (by decide) (pif_n (by decide) ⟨?_, cmpt_0 rfl ?_ (hI _ _)⟩)))⟩))⟩))
        · show vp_in (nI 40 * nI 0 + nI j) 80
          rw [show nI 40 * nI 0 = nI 0 from rfl, nI_add]; exact vp_n (by omega) (by decide)
        · show rat G 22 40 (nI j) = G 58 (nI 40 * nI 0 + nI j).toNatClampNeg
          rw [show nI 40 * nI 0 = nI 0 from rfl, nI_add, rat_n (by omega) (by decide), nI_clamp (by omega), Nat.zero_add]
          exact he0 j (by omega)
      · refine pif_n (ibl_y (n := 2) rfl (by decide) (i := 0) (by decide) rfl) (pif_p (ibl_n (n := l0) a0 (by omega) h') ⟨rfl, rfl, buf_y (i := 0) (by decide) (pif_n (by decide) (pif_n (by decide) ⟨vp_n (i := 0) (by decide) (by decide), in_n (by show ¬ (0 ≤ y ∧ y ≤ G 59 0 - 1); rw [b0]; exact fun z => h' ((nI_b1 (by omega)).mp z)) (pif_p rfl (goes_n (thr_1 rfl) (by decide) (pif_p rfl (cmpt_x (by decide) rfl (hJ _)))))⟩))⟩)
    · by_cases h' : ∃ j, j < l1 ∧ y = nI j
      · obtain ⟨j, hj, rfl⟩ := h'
        refine pif_n (ibl_y (n := 2) rfl (by decide) (i := 1) (by decide) rfl) (pif_n (ibl_y (n := l1) a1 (by omega) hj rfl) (pt_of ⟨rfl, buf_y (i := 1) (by decide) (pif_n (by decide) (pif_p rfl ⟨vp_n (i := 1) (by decide) (by decide), in_y (by show 0 ≤ nI j ∧ nI j ≤ G 59 1 - 1; rw [b1]; exact (nI_b1 (by omega)).mpr ⟨j, hj, rfl⟩) (pif_n (by decide) (goes_y (by decide) (by decide) (by decide) (pif_n (by decide) ⟨?_, cmpt_0 rfl ?_ (hI _ _)⟩)))⟩))⟩))
        · show vp_in (nI 40 * nI 1 + nI j) 80
          rw [show nI 40 * nI 1 = nI 40 from rfl, nI_add]; exact vp_n (by omega) (by decide)
        · show rat G 27 40 (nI j) = G 58 (nI 40 * nI 1 + nI j).toNatClampNeg
          rw [show nI 40 * nI 1 = nI 40 from rfl, nI_add, rat_n (by omega) (by decide), nI_clamp (by omega)]
          exact he1 j (by omega)
      · refine pif_n (ibl_y (n := 2) rfl (by decide) (i := 1) (by decide) rfl) (pif_p (ibl_n (n := l1) a1 (by omega) h') ⟨rfl, rfl, buf_y (i := 1) (by decide) (pif_n (by decide) (pif_p rfl ⟨vp_n (i := 1) (by decide) (by decide), in_n (by show ¬ (0 ≤ y ∧ y ≤ G 59 1 - 1); rw [b1]; exact fun z => h' ((nI_b1 (by omega)).mp z)) (pif_p rfl (goes_n (thr_1 rfl) (by decide) (pif_p rfl (cmpt_x (by decide) rfl (hJ _)))))⟩))⟩)
  · exact pif_p (ibl_n (n := 2) rfl (by decide) h) ⟨rfl, rfl, buf_n h (pif_p rfl (goes_n (thr_1 rfl) (by decide) (pif_p rfl (cmpt_x (by decide) rfl (hJ _)))))⟩
theorem c_cursor_A {I : Gt → Prop} {G : Gt} {x y : Int32} (he0 : ∀ p, p < 4 → G 24 p = G 60 p) (he1 : ∀ p, p < 4 → G 29 p = G 60 (4 + p)) (hI : ∀ v t, I (gu (gu G 83 0 v) 46 71 t)) (hJ : ∀ t, I (gu G 46 71 t)) :
    w_L_cursor_A (fun v1 s1 G2 => s1 = shA ∧ w_X11_cursor (fun v4 G3 => cmpt I v1 v4 G3) x y G2) x y G := by
  by_cases h : ∃ i, i < 2 ∧ x = nI i
  · obtain ⟨i, hi, rfl⟩ := h
    by_cases h' : ∃ j, j < 4 ∧ y = nI j
    · obtain ⟨j, hj, rfl⟩ := h'
      have : i = 0 ∨ i = 1 := by omega
      refine pif_n (ibl_y (n := 2) rfl (by decide) hi rfl) (pif_n (ibl_y (n := 4) rfl (by decide) hj rfl) (pt_of ⟨rfl, buf_y hi (pif_n (by decide) (few_y hj (pif_n (by decide) (goes_y (by decide) (by decide) (by decide) (pif_n (by decide) ⟨?_, cmpt_0 rfl ?_ (hI _ _)⟩)))))⟩))
      · show vp_in (nI 4 * nI i + nI j) 8
        rcases this with rfl | rfl
        · rw [show nI 4 * nI 0 = nI 0 from rfl, nI_add]; exact vp_n (by omega) (by decide)
        · rw [show nI 4 * nI 1 = nI 4 from rfl, nI_add]; exact vp_n (by omega) (by decide)
      · rcases this with rfl | rfl
        · show rat G 24 4 (nI j) = G 60 (nI 4 * nI 0 + nI j).toNatClampNeg
          rw [show nI 4 * nI 0 = nI 0 from rfl, nI_add, rat_n (by omega) (by decide), nI_clamp (by omega), Nat.zero_add]
          exact he0 j (by omega)
        · show rat G 29 4 (nI j) = G 60 (nI 4 * nI 1 + nI j).toNatClampNeg
          rw [show nI 4 * nI 1 = nI 4 from rfl, nI_add, rat_n (by omega) (by decide), nI_clamp (by omega)]
          exact he1 j (by omega)
    · exact pif_n (ibl_y (n := 2) rfl (by decide) hi rfl) (pif_p (ibl_n (n := 4) rfl (by decide) h') ⟨rfl, rfl, buf_y hi (pif_n (by decide) (few_n h' (pif_p rfl (goes_n (thr_1 rfl) (by decide) (pif_p rfl (cmpt_x (by decide) rfl (hJ _)))))))⟩)
  · exact pif_p (ibl_n (n := 2) rfl (by decide) h) ⟨rfl, rfl, buf_n h (pif_p rfl (goes_n (thr_1 rfl) (by decide) (pif_p rfl (cmpt_x (by decide) rfl (hJ _)))))⟩
theorem c_outcome_A {I : Gt → Prop} {G : Gt} (he : G 40 0 = G 46 66) (hJ : ∀ t, I (gu G 46 71 t)) : w_X10_outcome_A (fun v G1 => w_X11_outcome (fun v2 G2 => pif (v = v2) (I G2) False) G1) G := by
  unfold w_X10_outcome_A w_X11_outcome
  exact s11_tells (pif_p he (hJ 0))
theorem c_steps_A {I : Gt → Prop} {G : Gt} (he : G 40 1 = G 46 67) (hJ : ∀ t, I (gu G 46 71 t)) : w_X10_steps_A (fun v G1 => w_X11_steps (fun v2 G2 => pif (v = v2) (I G2) False) G1) G := by
  unfold w_X10_steps_A w_X11_steps
  exact s11_tells (pif_p he (hJ 0))
theorem c_cause_A {I : Gt → Prop} {G : Gt} (he : G 40 2 = G 46 68) (hJ : ∀ t, I (gu G 46 71 t)) : w_X10_cause_A (fun v G1 => w_X11_cause (fun v2 G2 => pif (v = v2) (I G2) False) G1) G := by
  unfold w_X10_cause_A w_X11_cause
  exact s11_tells (pif_p he (hJ 0))
theorem c_traced_A {I : Gt → Prop} {G : Gt} (he : G 40 3 = G 46 69) (hJ : ∀ t, I (gu G 46 71 t)) : w_X10_traced_A (fun v G1 => w_X11_traced (fun v2 G2 => pif (v = v2) (I G2) False) G1) G := by
  unfold w_X10_traced_A w_X11_traced
  exact s11_tells (pif_p he (hJ 0))
theorem c_buffer_A {I : Gt → Prop} {G : Gt} (he : G 19 7 = G 46 14) (hJ : ∀ t, I (gu G 46 71 t)) : w_X10_buffer_A (fun v G1 => w_X11_buffer (fun v2 G2 => pif (v = v2) (I G2) False) G1) G := by
  unfold w_X10_buffer_A w_X11_buffer
  exact s11_tells (pif_p he (hJ 0))
theorem c_hook_A {I : Gt → Prop} {G : Gt} (he : G 19 8 = G 46 12) (hJ : ∀ t, I (gu G 46 71 t)) : w_X10_hook_A (fun v G1 => w_X11_hook (fun v2 G2 => pif (v = v2) (I G2) False) G1) G := by
  unfold w_X10_hook_A w_X11_hook
  exact s11_tells (pif_p he (hJ 0))
theorem c_size_B {I : Gt → Prop} {G : Gt} {x : Int32} {N : Nat} (hN : N ≤ 120) (h1 : G 1 7 = nI N) (h2 : G 46 0 = nI N) (he : ∀ m, m < N → G 9 m = G 51 m) (hI : ∀ v t, I (gu (gu G 83 0 v) 46 71 t)) (hJ : ∀ t, I (gu G 46 71 t)) :
    w_L_size_B (fun v1 s1 G2 => s1 = shB ∧ w_X11_size (fun v4 G3 => cmpt I v1 v4 G3) x G2) x G := by
  unfold w_L_size_B w_X10_size_B
  by_cases h : ∃ i, i < N ∧ x = nI i
  · obtain ⟨i, hi, rfl⟩ := h
    refine has_y h1 hN hi (pif_n (by decide) (pt_of ⟨rfl, node_y (N := N) h2 hN hi (goes_y (by decide) (by decide) (by decide) (pif_n (by decide) ⟨vp_n (by omega) (by decide), cmpt_0 rfl ?_ (hI _ _)⟩))⟩))
    show rat G 9 120 (nI i) = G 51 (nI i).toNatClampNeg
    rw [rat_n (by omega) (by decide), nI_clamp (by omega)]
    exact he i hi
  · exact has_n h1 hN h (pif_p rfl ⟨rfl, rfl, node_n h2 hN h (goes_n (thr_1 rfl) (by decide) (pif_p rfl (cmpt_x (by decide) rfl (hJ _))))⟩)
theorem c_option_B {I : Gt → Prop} {G : Gt} {x : Int32} (he : ∀ m, m < 4 → G 31 m = G 56 m) (hI : ∀ v t, I (gu (gu G 83 0 v) 46 71 t)) (hJ : ∀ t, I (gu G 46 71 t)) :
    w_L_option_B (fun v1 s1 G2 => s1 = shB ∧ w_X11_option (fun v4 G3 => cmpt I v1 v4 G3) x G2) x G := by
  by_cases h : ∃ i, i < 4 ∧ x = nI i
  · obtain ⟨i, hi, rfl⟩ := h
    refine pif_n (ibl_y (n := 4) rfl (by decide) hi rfl) (pt_of ⟨rfl, few_y hi (goes_y (by decide) (by decide) (by decide) (pif_n (by decide) ⟨vp_n hi (by decide), cmpt_0 rfl ?_ (hI _ _)⟩))⟩)
    show rat G 31 4 (nI i) = G 56 (nI i).toNatClampNeg
    rw [rat_n (by omega) (by decide), nI_clamp (by omega)]
    exact he i hi
  · exact pif_p (ibl_n (n := 4) rfl (by decide) h) ⟨rfl, rfl, few_n h (goes_n (thr_1 rfl) (by decide) (pif_p rfl (cmpt_x (by decide) rfl (hJ _))))⟩
theorem c_register_B {I : Gt → Prop} {G : Gt} {x : Int32} (he : ∀ m, m < 4 → G 33 m = G 57 m) (hI : ∀ v t, I (gu (gu G 83 0 v) 46 71 t)) (hJ : ∀ t, I (gu G 46 71 t)) :
    w_L_register_B (fun v1 s1 G2 => s1 = shB ∧ w_X11_register (fun v4 G3 => cmpt I v1 v4 G3) x G2) x G := by
  by_cases h : ∃ i, i < 4 ∧ x = nI i
  · obtain ⟨i, hi, rfl⟩ := h
    refine pif_n (ibl_y (n := 4) rfl (by decide) hi rfl) (pt_of ⟨rfl, few_y hi (goes_y (by decide) (by decide) (by decide) (pif_n (by decide) ⟨vp_n hi (by decide), cmpt_0 rfl ?_ (hI _ _)⟩))⟩)
    show rat G 33 4 (nI i) = G 57 (nI i).toNatClampNeg
    rw [rat_n (by omega) (by decide), nI_clamp (by omega)]
    exact he i hi
  · exact pif_p (ibl_n (n := 4) rfl (by decide) h) ⟨rfl, rfl, few_n h (goes_n (thr_1 rfl) (by decide) (pif_p rfl (cmpt_x (by decide) rfl (hJ _))))⟩
theorem c_body_B {I : Gt → Prop} {G : Gt} {x : Int32} (he : ∀ m, m < 6 → G 35 m = G 54 m) (hI : ∀ v t, I (gu (gu G 83 0 v) 46 71 t)) (hJ : ∀ t, I (gu G 46 71 t)) :
    w_L_body_B (fun v1 s1 G2 => s1 = shB ∧ w_X11_body (fun v4 G3 => cmpt I v1 v4 G3) x G2) x G := by
  by_cases h : ∃ i, i < 6 ∧ x = nI i
  · obtain ⟨i, hi, rfl⟩ := h
    refine pif_n (ibl_y (n := 6) rfl (by decide) hi rfl) (pt_of ⟨rfl, slot_y hi (goes_y (by decide) (by decide) (by decide) (pif_n (by decide) ⟨vp_n hi (by decide), cmpt_0 rfl ?_ (hI _ _)⟩))⟩)
    show rat G 35 6 (nI i) = G 54 (nI i).toNatClampNeg
    rw [rat_n (by omega) (by decide), nI_clamp (by omega)]
    exact he i hi
  · exact pif_p (ibl_n (n := 6) rfl (by decide) h) ⟨rfl, rfl, slot_n h (goes_n (thr_1 rfl) (by decide) (pif_p rfl (cmpt_x (by decide) rfl (hJ _))))⟩
theorem c_length_B {I : Gt → Prop} {G : Gt} {x : Int32} (h0 : G 20 2 = G 59 0) (h1 : G 25 2 = G 59 1) (hI : ∀ v t, I (gu (gu G 83 0 v) 46 71 t)) (hJ : ∀ t, I (gu G 46 71 t)) :
    w_L_length_B (fun v1 s1 G2 => s1 = shB ∧ w_X11_length (fun v4 G3 => cmpt I v1 v4 G3) x G2) x G := by
  by_cases h : ∃ i, i < 2 ∧ x = nI i
  · obtain ⟨i, hi, rfl⟩ := h
    refine pif_n (ibl_y (n := 2) rfl (by decide) hi rfl) (pt_of ⟨rfl, buf_y hi (goes_y (by decide) (by decide) (by decide) (pif_n (by decide) ⟨vp_n hi (by decide), cmpt_0 rfl ?_ (hI _ _)⟩))⟩)
    have : i = 0 ∨ i = 1 := by omega
    rcases this with rfl | rfl
    · exact h0
    · exact h1
  · exact pif_p (ibl_n (n := 2) rfl (by decide) h) ⟨rfl, rfl, buf_n h (goes_n (thr_1 rfl) (by decide) (pif_p rfl (cmpt_x (by decide) rfl (hJ _))))⟩
theorem c_activeCursor_B {I : Gt → Prop} {G : Gt} {x : Int32} (h0 : G 20 3 = G 61 0) (h1 : G 25 3 = G 61 1) (hI : ∀ v t, I (gu (gu G 83 0 v) 46 71 t)) (hJ : ∀ t, I (gu G 46 71 t)) :
    w_L_activeCursor_B (fun v1 s1 G2 => s1 = shB ∧ w_X11_activeCursor (fun v4 G3 => cmpt I v1 v4 G3) x G2) x G := by
  by_cases h : ∃ i, i < 2 ∧ x = nI i
  · obtain ⟨i, hi, rfl⟩ := h
    refine pif_n (ibl_y (n := 2) rfl (by decide) hi rfl) (pt_of ⟨rfl, buf_y hi (goes_y (by decide) (by decide) (by decide) (pif_n (by decide) ⟨vp_n hi (by decide), cmpt_0 rfl ?_ (hI _ _)⟩))⟩)
    have : i = 0 ∨ i = 1 := by omega
    rcases this with rfl | rfl
    · exact h0
    · exact h1
  · exact pif_p (ibl_n (n := 2) rfl (by decide) h) ⟨rfl, rfl, buf_n h (goes_n (thr_1 rfl) (by decide) (pif_p rfl (cmpt_x (by decide) rfl (hJ _))))⟩
theorem c_traceAt_B {I : Gt → Prop} {G : Gt} {x : Int32} {c : Nat} (hc : c ≤ 13) (h1 : G 40 3 = nI c) (h2 : G 46 69 = nI c) (he : ∀ m, m < c → G 42 m = G 82 m) (hI : ∀ v t, I (gu (gu G 83 0 v) 46 71 t)) (hJ : ∀ t, I (gu G 46 71 t)) :
    w_L_traceAt_B (fun v1 s1 G2 => s1 = shB ∧ w_X11_traceAt (fun v4 G3 => cmpt I v1 v4 G3) x G2) x G := by
  by_cases h : ∃ i, i < c ∧ x = nI i
  · obtain ⟨i, hi, rfl⟩ := h
    have hb : 0 ≤ nI i ∧ nI i ≤ G 46 69 - 1 := by rw [h2]; exact (nI_b1 (by omega)).mpr ⟨i, hi, rfl⟩
    refine pif_n (ibl_y (n := c) h1 (by omega) hi rfl) (pt_of ⟨rfl, in_y hb (goes_y (by decide) (by decide) (by decide) (pif_n (by decide) ⟨vp_n (by omega) (by decide), cmpt_0 rfl ?_ (hI _ _)⟩))⟩)
    show rat G 42 13 (nI i) = G 82 (nI i).toNatClampNeg
    rw [rat_n (by omega) (by decide), nI_clamp (by omega)]
    exact he i hi
  · have hb : ¬ (0 ≤ x ∧ x ≤ G 46 69 - 1) := by rw [h2]; exact fun z => h ((nI_b1 (by omega)).mp z)
    exact pif_p (ibl_n (n := c) h1 (by omega) h) ⟨rfl, rfl, in_n hb (goes_n (thr_1 rfl) (by decide) (pif_p rfl (cmpt_x (by decide) rfl (hJ _))))⟩
theorem c_letter_B {I : Gt → Prop} {G : Gt} {x y : Int32} {l0 l1 : Nat} (hl0 : l0 ≤ 40) (hl1 : l1 ≤ 40) (a0 : G 20 2 = nI l0) (b0 : G 59 0 = nI l0) (a1 : G 25 2 = nI l1) (b1 : G 59 1 = nI l1) (he0 : ∀ p, p < 40 → G 22 p = G 58 p) (he1 : ∀ p, p < 40 → G 27 p = G 58 (40 + p)) (hI : ∀ v t, I (gu (gu G 83 0 v) 46 71 t)) (hJ : ∀ t, I (gu G 46 71 t)) :
    w_L_letter_B (fun v1 s1 G2 => s1 = shB ∧ w_X11_letter (fun v4 G3 => cmpt I v1 v4 G3) x y G2) x y G := by
  by_cases h : ∃ i, i < 2 ∧ x = nI i
  · obtain ⟨i, hi, rfl⟩ := h
    have : i = 0 ∨ i = 1 := by omega
    rcases this with rfl | rfl
    · by_cases h' : ∃ j, j < l0 ∧ y = nI j
      · obtain ⟨j, hj, rfl⟩ := h'
        refine pif_n (ibl_y (n := 2) rfl (by decide) (i := 0) (by decide) rfl) (pif_n (ibl_y (n := l0) a0 (by omega) hj rfl) (pt_of ⟨rfl, buf_y (i := 0) (by decide) (pif_n (by decide) (pif_n (by decide) ⟨vp_n (i := 0) (by decide) (by decide), in_y (by show 0 ≤ nI j ∧ nI j ≤ G 59 0 - 1; rw [b0]; exact (nI_b1 (by omega)).mpr ⟨j, hj, rfl⟩) (pif_n (by decide) (goes_y (by decide) (by decide) (by decide) (pif_n (by decide) ⟨?_, cmpt_0 rfl ?_ (hI _ _)⟩)))⟩))⟩))
        · show vp_in (nI 40 * nI 0 + nI j) 80
          rw [show nI 40 * nI 0 = nI 0 from rfl, nI_add]; exact vp_n (by omega) (by decide)
        · show rat G 22 40 (nI j) = G 58 (nI 40 * nI 0 + nI j).toNatClampNeg
          rw [show nI 40 * nI 0 = nI 0 from rfl, nI_add, rat_n (by omega) (by decide), nI_clamp (by omega), Nat.zero_add]
          exact he0 j (by omega)
      · refine pif_n (ibl_y (n := 2) rfl (by decide) (i := 0) (by decide) rfl) (pif_p (ibl_n (n := l0) a0 (by omega) h') ⟨rfl, rfl, buf_y (i := 0) (by decide) (pif_n (by decide) (pif_n (by decide) ⟨vp_n (i := 0) (by decide) (by decide), in_n (by show ¬ (0 ≤ y ∧ y ≤ G 59 0 - 1); rw [b0]; exact fun z => h' ((nI_b1 (by omega)).mp z)) (pif_p rfl (goes_n (thr_1 rfl) (by decide) (pif_p rfl (cmpt_x (by decide) rfl (hJ _)))))⟩))⟩)
    · by_cases h' : ∃ j, j < l1 ∧ y = nI j
      · obtain ⟨j, hj, rfl⟩ := h'
        refine pif_n (ibl_y (n := 2) rfl (by decide) (i := 1) (by decide) rfl) (pif_n (ibl_y (n := l1) a1 (by omega) hj rfl) (pt_of ⟨rfl, buf_y (i := 1) (by decide) (pif_n (by decide) (pif_p rfl ⟨vp_n (i := 1) (by decide) (by decide), in_y (by show 0 ≤ nI j ∧ nI j ≤ G 59 1 - 1; rw [b1]; exact (nI_b1 (by omega)).mpr ⟨j, hj, rfl⟩) (pif_n (by decide) (goes_y (by decide) (by decide) (by decide) (pif_n (by decide) ⟨?_, cmpt_0 rfl ?_ (hI _ _)⟩)))⟩))⟩))
        · show vp_in (nI 40 * nI 1 + nI j) 80
          rw [show nI 40 * nI 1 = nI 40 from rfl, nI_add]; exact vp_n (by omega) (by decide)
        · show rat G 27 40 (nI j) = G 58 (nI 40 * nI 1 + nI j).toNatClampNeg
          rw [show nI 40 * nI 1 = nI 40 from rfl, nI_add, rat_n (by omega) (by decide), nI_clamp (by omega)]
          exact he1 j (by omega)
      · refine pif_n (ibl_y (n := 2) rfl (by decide) (i := 1) (by decide) rfl) (pif_p (ibl_n (n := l1) a1 (by omega) h') ⟨rfl, rfl, buf_y (i := 1) (by decide) (pif_n (by decide) (pif_p rfl ⟨vp_n (i := 1) (by decide) (by decide), in_n (by show ¬ (0 ≤ y ∧ y ≤ G 59 1 - 1); rw [b1]; exact fun z => h' ((nI_b1 (by omega)).mp z)) (pif_p rfl (goes_n (thr_1 rfl) (by decide) (pif_p rfl (cmpt_x (by decide) rfl (hJ _)))))⟩))⟩)
  · exact pif_p (ibl_n (n := 2) rfl (by decide) h) ⟨rfl, rfl, buf_n h (pif_p rfl (goes_n (thr_1 rfl) (by decide) (pif_p rfl (cmpt_x (by decide) rfl (hJ _)))))⟩
theorem c_cursor_B {I : Gt → Prop} {G : Gt} {x y : Int32} (he0 : ∀ p, p < 4 → G 24 p = G 60 p) (he1 : ∀ p, p < 4 → G 29 p = G 60 (4 + p)) (hI : ∀ v t, I (gu (gu G 83 0 v) 46 71 t)) (hJ : ∀ t, I (gu G 46 71 t)) :
    w_L_cursor_B (fun v1 s1 G2 => s1 = shB ∧ w_X11_cursor (fun v4 G3 => cmpt I v1 v4 G3) x y G2) x y G := by
  by_cases h : ∃ i, i < 2 ∧ x = nI i
  · obtain ⟨i, hi, rfl⟩ := h
    by_cases h' : ∃ j, j < 4 ∧ y = nI j
    · obtain ⟨j, hj, rfl⟩ := h'
      have : i = 0 ∨ i = 1 := by omega
      refine pif_n (ibl_y (n := 2) rfl (by decide) hi rfl) (pif_n (ibl_y (n := 4) rfl (by decide) hj rfl) (pt_of ⟨rfl, buf_y hi (pif_n (by decide) (few_y hj (pif_n (by decide) (goes_y (by decide) (by decide) (by decide) (pif_n (by decide) ⟨?_, cmpt_0 rfl ?_ (hI _ _)⟩)))))⟩))
      · show vp_in (nI 4 * nI i + nI j) 8
        rcases this with rfl | rfl
        · rw [show nI 4 * nI 0 = nI 0 from rfl, nI_add]; exact vp_n (by omega) (by decide)
        · rw [show nI 4 * nI 1 = nI 4 from rfl, nI_add]; exact vp_n (by omega) (by decide)
      · rcases this with rfl | rfl
        · show rat G 24 4 (nI j) = G 60 (nI 4 * nI 0 + nI j).toNatClampNeg
          rw [show nI 4 * nI 0 = nI 0 from rfl, nI_add, rat_n (by omega) (by decide), nI_clamp (by omega), Nat.zero_add]
          exact he0 j (by omega)
        · show rat G 29 4 (nI j) = G 60 (nI 4 * nI 1 + nI j).toNatClampNeg
          rw [show nI 4 * nI 1 = nI 4 from rfl, nI_add, rat_n (by omega) (by decide), nI_clamp (by omega)]
          exact he1 j (by omega)
    · exact pif_n (ibl_y (n := 2) rfl (by decide) hi rfl) (pif_p (ibl_n (n := 4) rfl (by decide) h') ⟨rfl, rfl, buf_y hi (pif_n (by decide) (few_n h' (pif_p rfl (goes_n (thr_1 rfl) (by decide) (pif_p rfl (cmpt_x (by decide) rfl (hJ _)))))))⟩)
  · exact pif_p (ibl_n (n := 2) rfl (by decide) h) ⟨rfl, rfl, buf_n h (pif_p rfl (goes_n (thr_1 rfl) (by decide) (pif_p rfl (cmpt_x (by decide) rfl (hJ _)))))⟩
theorem c_outcome_B {I : Gt → Prop} {G : Gt} (he : G 40 0 = G 46 66) (hJ : ∀ t, I (gu G 46 71 t)) : w_X10_outcome_B (fun v G1 => w_X11_outcome (fun v2 G2 => pif (v = v2) (I G2) False) G1) G := by
  unfold w_X10_outcome_B w_X11_outcome
  exact s11_tells (pif_p he (hJ 0))
theorem c_steps_B {I : Gt → Prop} {G : Gt} (he : G 40 1 = G 46 67) (hJ : ∀ t, I (gu G 46 71 t)) : w_X10_steps_B (fun v G1 => w_X11_steps (fun v2 G2 => pif (v = v2) (I G2) False) G1) G := by
  unfold w_X10_steps_B w_X11_steps
  exact s11_tells (pif_p he (hJ 0))
theorem c_cause_B {I : Gt → Prop} {G : Gt} (he : G 40 2 = G 46 68) (hJ : ∀ t, I (gu G 46 71 t)) : w_X10_cause_B (fun v G1 => w_X11_cause (fun v2 G2 => pif (v = v2) (I G2) False) G1) G := by
  unfold w_X10_cause_B w_X11_cause
  exact s11_tells (pif_p he (hJ 0))
theorem c_traced_B {I : Gt → Prop} {G : Gt} (he : G 40 3 = G 46 69) (hJ : ∀ t, I (gu G 46 71 t)) : w_X10_traced_B (fun v G1 => w_X11_traced (fun v2 G2 => pif (v = v2) (I G2) False) G1) G := by
  unfold w_X10_traced_B w_X11_traced
  exact s11_tells (pif_p he (hJ 0))
theorem c_buffer_B {I : Gt → Prop} {G : Gt} (he : G 19 7 = G 46 14) (hJ : ∀ t, I (gu G 46 71 t)) : w_X10_buffer_B (fun v G1 => w_X11_buffer (fun v2 G2 => pif (v = v2) (I G2) False) G1) G := by
  unfold w_X10_buffer_B w_X11_buffer
  exact s11_tells (pif_p he (hJ 0))
theorem c_hook_B {I : Gt → Prop} {G : Gt} (he : G 19 8 = G 46 12) (hJ : ∀ t, I (gu G 46 71 t)) : w_X10_hook_B (fun v G1 => w_X11_hook (fun v2 G2 => pif (v = v2) (I G2) False) G1) G := by
  unfold w_X10_hook_B w_X11_hook
  exact s11_tells (pif_p he (hJ 0))
