/-! ALL CALLS -/
theorem pif_by {P A B : Prop} (a : P → A) (b : ¬ P → B) : pif P A B := ⟨a, b⟩
theorem q_size_A {G : Gt} {x : Int32} (h : IA G) : w_L_size_A (fun v1 s1 G2 => s1 = shA ∧ w_X11_size (fun v4 G3 => cmpt IA v1 v4 G3) x G2) x G := by
  obtain ⟨N, h⟩ := h
  obtain ⟨hN, h1, h2, h9, h11⟩ := gP_n h.1
  have hJ : ∀ t, IA (gu G 46 71 t) := fun t => ⟨N, jA_71 h⟩
  have hV : ∀ v t, IA (gu (gu G 83 0 v) 46 71 t) := fun v t => ⟨N, jA_eq h (fun k j q => by
    unfold jfr at q
    rw [gu_n (by omega), gu_n (by omega)])⟩
  have hP := h.1
  have hL := h.2.2.2.2.2.2.2.1
  have hB := h.2.2.2.2.2.2.2.2.1
  have hst := h.2.2.2.2.2.2.2.2.2
  obtain ⟨v31, v33, v35, ⟨l0, l1, hl0, hl1, a0, b0, a1, b1⟩, v20, v25, v22, v27, v24, v29, v7, v8⟩ := jA_vis h
  exact c_size_A hN h1 h2 h9 hV hJ
theorem q_option_A {G : Gt} {x : Int32} (h : IA G) : w_L_option_A (fun v1 s1 G2 => s1 = shA ∧ w_X11_option (fun v4 G3 => cmpt IA v1 v4 G3) x G2) x G := by
  obtain ⟨N, h⟩ := h
  obtain ⟨hN, h1, h2, h9, h11⟩ := gP_n h.1
  have hJ : ∀ t, IA (gu G 46 71 t) := fun t => ⟨N, jA_71 h⟩
  have hV : ∀ v t, IA (gu (gu G 83 0 v) 46 71 t) := fun v t => ⟨N, jA_eq h (fun k j q => by
    unfold jfr at q
    rw [gu_n (by omega), gu_n (by omega)])⟩
  have hP := h.1
  have hL := h.2.2.2.2.2.2.2.1
  have hB := h.2.2.2.2.2.2.2.2.1
  have hst := h.2.2.2.2.2.2.2.2.2
  obtain ⟨v31, v33, v35, ⟨l0, l1, hl0, hl1, a0, b0, a1, b1⟩, v20, v25, v22, v27, v24, v29, v7, v8⟩ := jA_vis h
  exact c_option_A v31 hV hJ
theorem q_register_A {G : Gt} {x : Int32} (h : IA G) : w_L_register_A (fun v1 s1 G2 => s1 = shA ∧ w_X11_register (fun v4 G3 => cmpt IA v1 v4 G3) x G2) x G := by
  obtain ⟨N, h⟩ := h
  obtain ⟨hN, h1, h2, h9, h11⟩ := gP_n h.1
  have hJ : ∀ t, IA (gu G 46 71 t) := fun t => ⟨N, jA_71 h⟩
  have hV : ∀ v t, IA (gu (gu G 83 0 v) 46 71 t) := fun v t => ⟨N, jA_eq h (fun k j q => by
    unfold jfr at q
    rw [gu_n (by omega), gu_n (by omega)])⟩
  have hP := h.1
  have hL := h.2.2.2.2.2.2.2.1
  have hB := h.2.2.2.2.2.2.2.2.1
  have hst := h.2.2.2.2.2.2.2.2.2
  obtain ⟨v31, v33, v35, ⟨l0, l1, hl0, hl1, a0, b0, a1, b1⟩, v20, v25, v22, v27, v24, v29, v7, v8⟩ := jA_vis h
  exact c_register_A v33 hV hJ
theorem q_body_A {G : Gt} {x : Int32} (h : IA G) : w_L_body_A (fun v1 s1 G2 => s1 = shA ∧ w_X11_body (fun v4 G3 => cmpt IA v1 v4 G3) x G2) x G := by
  obtain ⟨N, h⟩ := h
  obtain ⟨hN, h1, h2, h9, h11⟩ := gP_n h.1
  have hJ : ∀ t, IA (gu G 46 71 t) := fun t => ⟨N, jA_71 h⟩
  have hV : ∀ v t, IA (gu (gu G 83 0 v) 46 71 t) := fun v t => ⟨N, jA_eq h (fun k j q => by
    unfold jfr at q
    rw [gu_n (by omega), gu_n (by omega)])⟩
  have hP := h.1
  have hL := h.2.2.2.2.2.2.2.1
  have hB := h.2.2.2.2.2.2.2.2.1
  have hst := h.2.2.2.2.2.2.2.2.2
  obtain ⟨v31, v33, v35, ⟨l0, l1, hl0, hl1, a0, b0, a1, b1⟩, v20, v25, v22, v27, v24, v29, v7, v8⟩ := jA_vis h
  exact c_body_A v35 hV hJ
theorem q_length_A {G : Gt} {x : Int32} (h : IA G) : w_L_length_A (fun v1 s1 G2 => s1 = shA ∧ w_X11_length (fun v4 G3 => cmpt IA v1 v4 G3) x G2) x G := by
  obtain ⟨N, h⟩ := h
  obtain ⟨hN, h1, h2, h9, h11⟩ := gP_n h.1
  have hJ : ∀ t, IA (gu G 46 71 t) := fun t => ⟨N, jA_71 h⟩
  have hV : ∀ v t, IA (gu (gu G 83 0 v) 46 71 t) := fun v t => ⟨N, jA_eq h (fun k j q => by
    unfold jfr at q
    rw [gu_n (by omega), gu_n (by omega)])⟩
  have hP := h.1
  have hL := h.2.2.2.2.2.2.2.1
  have hB := h.2.2.2.2.2.2.2.2.1
  have hst := h.2.2.2.2.2.2.2.2.2
  obtain ⟨v31, v33, v35, ⟨l0, l1, hl0, hl1, a0, b0, a1, b1⟩, v20, v25, v22, v27, v24, v29, v7, v8⟩ := jA_vis h
  exact c_length_A (a0.trans b0.symm) (a1.trans b1.symm) hV hJ
theorem q_activeCursor_A {G : Gt} {x : Int32} (h : IA G) : w_L_activeCursor_A (fun v1 s1 G2 => s1 = shA ∧ w_X11_activeCursor (fun v4 G3 => cmpt IA v1 v4 G3) x G2) x G := by
  obtain ⟨N, h⟩ := h
  obtain ⟨hN, h1, h2, h9, h11⟩ := gP_n h.1
  have hJ : ∀ t, IA (gu G 46 71 t) := fun t => ⟨N, jA_71 h⟩
  have hV : ∀ v t, IA (gu (gu G 83 0 v) 46 71 t) := fun v t => ⟨N, jA_eq h (fun k j q => by
    unfold jfr at q
    rw [gu_n (by omega), gu_n (by omega)])⟩
  have hP := h.1
  have hL := h.2.2.2.2.2.2.2.1
  have hB := h.2.2.2.2.2.2.2.2.1
  have hst := h.2.2.2.2.2.2.2.2.2
  obtain ⟨v31, v33, v35, ⟨l0, l1, hl0, hl1, a0, b0, a1, b1⟩, v20, v25, v22, v27, v24, v29, v7, v8⟩ := jA_vis h
  exact c_activeCursor_A v20 v25 hV hJ
theorem q_traceAt_A {G : Gt} {x : Int32} (h : IA G) : w_L_traceAt_A (fun v1 s1 G2 => s1 = shA ∧ w_X11_traceAt (fun v4 G3 => cmpt IA v1 v4 G3) x G2) x G := by
  obtain ⟨N, h⟩ := h
  obtain ⟨hN, h1, h2, h9, h11⟩ := gP_n h.1
  have hJ : ∀ t, IA (gu G 46 71 t) := fun t => ⟨N, jA_71 h⟩
  have hV : ∀ v t, IA (gu (gu G 83 0 v) 46 71 t) := fun v t => ⟨N, jA_eq h (fun k j q => by
    unfold jfr at q
    rw [gu_n (by omega), gu_n (by omega)])⟩
  have hP := h.1
  have hL := h.2.2.2.2.2.2.2.1
  have hB := h.2.2.2.2.2.2.2.2.1
  have hst := h.2.2.2.2.2.2.2.2.2
  obtain ⟨v31, v33, v35, ⟨l0, l1, hl0, hl1, a0, b0, a1, b1⟩, v20, v25, v22, v27, v24, v29, v7, v8⟩ := jA_vis h
  obtain ⟨t1, t2, t3, c, hc, e1, e2, e3⟩ := hL
  exact c_traceAt_A hc e1 e2 e3 hV hJ
theorem q_letter_A {G : Gt} {x y : Int32} (h : IA G) : w_L_letter_A (fun v1 s1 G2 => s1 = shA ∧ w_X11_letter (fun v4 G3 => cmpt IA v1 v4 G3) x y G2) x y G := by
  obtain ⟨N, h⟩ := h
  obtain ⟨hN, h1, h2, h9, h11⟩ := gP_n h.1
  have hJ : ∀ t, IA (gu G 46 71 t) := fun t => ⟨N, jA_71 h⟩
  have hV : ∀ v t, IA (gu (gu G 83 0 v) 46 71 t) := fun v t => ⟨N, jA_eq h (fun k j q => by
    unfold jfr at q
    rw [gu_n (by omega), gu_n (by omega)])⟩
  have hP := h.1
  have hL := h.2.2.2.2.2.2.2.1
  have hB := h.2.2.2.2.2.2.2.2.1
  have hst := h.2.2.2.2.2.2.2.2.2
  obtain ⟨v31, v33, v35, ⟨l0, l1, hl0, hl1, a0, b0, a1, b1⟩, v20, v25, v22, v27, v24, v29, v7, v8⟩ := jA_vis h
  exact c_letter_A hl0 hl1 a0 b0 a1 b1 v22 v27 hV hJ
theorem q_cursor_A {G : Gt} {x y : Int32} (h : IA G) : w_L_cursor_A (fun v1 s1 G2 => s1 = shA ∧ w_X11_cursor (fun v4 G3 => cmpt IA v1 v4 G3) x y G2) x y G := by
  obtain ⟨N, h⟩ := h
  obtain ⟨hN, h1, h2, h9, h11⟩ := gP_n h.1
  have hJ : ∀ t, IA (gu G 46 71 t) := fun t => ⟨N, jA_71 h⟩
  have hV : ∀ v t, IA (gu (gu G 83 0 v) 46 71 t) := fun v t => ⟨N, jA_eq h (fun k j q => by
    unfold jfr at q
    rw [gu_n (by omega), gu_n (by omega)])⟩
  have hP := h.1
  have hL := h.2.2.2.2.2.2.2.1
  have hB := h.2.2.2.2.2.2.2.2.1
  have hst := h.2.2.2.2.2.2.2.2.2
  obtain ⟨v31, v33, v35, ⟨l0, l1, hl0, hl1, a0, b0, a1, b1⟩, v20, v25, v22, v27, v24, v29, v7, v8⟩ := jA_vis h
  exact c_cursor_A v24 v29 hV hJ
theorem q_outcome_A {G : Gt} (h : IA G) : w_X10_outcome_A (fun v G1 => w_X11_outcome (fun v2 G2 => pif (v = v2) (IA G2) False) G1) G := by
  obtain ⟨N, h⟩ := h
  obtain ⟨hN, h1, h2, h9, h11⟩ := gP_n h.1
  have hJ : ∀ t, IA (gu G 46 71 t) := fun t => ⟨N, jA_71 h⟩
  have hV : ∀ v t, IA (gu (gu G 83 0 v) 46 71 t) := fun v t => ⟨N, jA_eq h (fun k j q => by
    unfold jfr at q
    rw [gu_n (by omega), gu_n (by omega)])⟩
  have hP := h.1
  have hL := h.2.2.2.2.2.2.2.1
  have hB := h.2.2.2.2.2.2.2.2.1
  have hst := h.2.2.2.2.2.2.2.2.2
  obtain ⟨v31, v33, v35, ⟨l0, l1, hl0, hl1, a0, b0, a1, b1⟩, v20, v25, v22, v27, v24, v29, v7, v8⟩ := jA_vis h
  exact c_outcome_A hL.1 hJ
theorem q_steps_A {G : Gt} (h : IA G) : w_X10_steps_A (fun v G1 => w_X11_steps (fun v2 G2 => pif (v = v2) (IA G2) False) G1) G := by
  obtain ⟨N, h⟩ := h
  obtain ⟨hN, h1, h2, h9, h11⟩ := gP_n h.1
  have hJ : ∀ t, IA (gu G 46 71 t) := fun t => ⟨N, jA_71 h⟩
  have hV : ∀ v t, IA (gu (gu G 83 0 v) 46 71 t) := fun v t => ⟨N, jA_eq h (fun k j q => by
    unfold jfr at q
    rw [gu_n (by omega), gu_n (by omega)])⟩
  have hP := h.1
  have hL := h.2.2.2.2.2.2.2.1
  have hB := h.2.2.2.2.2.2.2.2.1
  have hst := h.2.2.2.2.2.2.2.2.2
  obtain ⟨v31, v33, v35, ⟨l0, l1, hl0, hl1, a0, b0, a1, b1⟩, v20, v25, v22, v27, v24, v29, v7, v8⟩ := jA_vis h
  exact c_steps_A hL.2.1 hJ
theorem q_cause_A {G : Gt} (h : IA G) : w_X10_cause_A (fun v G1 => w_X11_cause (fun v2 G2 => pif (v = v2) (IA G2) False) G1) G := by
  obtain ⟨N, h⟩ := h
  obtain ⟨hN, h1, h2, h9, h11⟩ := gP_n h.1
  have hJ : ∀ t, IA (gu G 46 71 t) := fun t => ⟨N, jA_71 h⟩
  have hV : ∀ v t, IA (gu (gu G 83 0 v) 46 71 t) := fun v t => ⟨N, jA_eq h (fun k j q => by
    unfold jfr at q
    rw [gu_n (by omega), gu_n (by omega)])⟩
  have hP := h.1
  have hL := h.2.2.2.2.2.2.2.1
  have hB := h.2.2.2.2.2.2.2.2.1
  have hst := h.2.2.2.2.2.2.2.2.2
  obtain ⟨v31, v33, v35, ⟨l0, l1, hl0, hl1, a0, b0, a1, b1⟩, v20, v25, v22, v27, v24, v29, v7, v8⟩ := jA_vis h
  exact c_cause_A hL.2.2.1 hJ
theorem q_traced_A {G : Gt} (h : IA G) : w_X10_traced_A (fun v G1 => w_X11_traced (fun v2 G2 => pif (v = v2) (IA G2) False) G1) G := by
  obtain ⟨N, h⟩ := h
  obtain ⟨hN, h1, h2, h9, h11⟩ := gP_n h.1
  have hJ : ∀ t, IA (gu G 46 71 t) := fun t => ⟨N, jA_71 h⟩
  have hV : ∀ v t, IA (gu (gu G 83 0 v) 46 71 t) := fun v t => ⟨N, jA_eq h (fun k j q => by
    unfold jfr at q
    rw [gu_n (by omega), gu_n (by omega)])⟩
  have hP := h.1
  have hL := h.2.2.2.2.2.2.2.1
  have hB := h.2.2.2.2.2.2.2.2.1
  have hst := h.2.2.2.2.2.2.2.2.2
  obtain ⟨v31, v33, v35, ⟨l0, l1, hl0, hl1, a0, b0, a1, b1⟩, v20, v25, v22, v27, v24, v29, v7, v8⟩ := jA_vis h
  obtain ⟨t1, t2, t3, c, hc, e1, e2, e3⟩ := hL
  exact c_traced_A (e1.trans e2.symm) hJ
theorem q_buffer_A {G : Gt} (h : IA G) : w_X10_buffer_A (fun v G1 => w_X11_buffer (fun v2 G2 => pif (v = v2) (IA G2) False) G1) G := by
  obtain ⟨N, h⟩ := h
  obtain ⟨hN, h1, h2, h9, h11⟩ := gP_n h.1
  have hJ : ∀ t, IA (gu G 46 71 t) := fun t => ⟨N, jA_71 h⟩
  have hV : ∀ v t, IA (gu (gu G 83 0 v) 46 71 t) := fun v t => ⟨N, jA_eq h (fun k j q => by
    unfold jfr at q
    rw [gu_n (by omega), gu_n (by omega)])⟩
  have hP := h.1
  have hL := h.2.2.2.2.2.2.2.1
  have hB := h.2.2.2.2.2.2.2.2.1
  have hst := h.2.2.2.2.2.2.2.2.2
  obtain ⟨v31, v33, v35, ⟨l0, l1, hl0, hl1, a0, b0, a1, b1⟩, v20, v25, v22, v27, v24, v29, v7, v8⟩ := jA_vis h
  exact c_buffer_A v7 hJ
theorem q_hook_A {G : Gt} (h : IA G) : w_X10_hook_A (fun v G1 => w_X11_hook (fun v2 G2 => pif (v = v2) (IA G2) False) G1) G := by
  obtain ⟨N, h⟩ := h
  obtain ⟨hN, h1, h2, h9, h11⟩ := gP_n h.1
  have hJ : ∀ t, IA (gu G 46 71 t) := fun t => ⟨N, jA_71 h⟩
  have hV : ∀ v t, IA (gu (gu G 83 0 v) 46 71 t) := fun v t => ⟨N, jA_eq h (fun k j q => by
    unfold jfr at q
    rw [gu_n (by omega), gu_n (by omega)])⟩
  have hP := h.1
  have hL := h.2.2.2.2.2.2.2.1
  have hB := h.2.2.2.2.2.2.2.2.1
  have hst := h.2.2.2.2.2.2.2.2.2
  obtain ⟨v31, v33, v35, ⟨l0, l1, hl0, hl1, a0, b0, a1, b1⟩, v20, v25, v22, v27, v24, v29, v7, v8⟩ := jA_vis h
  exact c_hook_A v8 hJ
theorem q_next_A {G : Gt} (h : IA G) : w_X10_next_A (fun v G1 => w_X11_next (fun v2 G2 => pif (v = v2) (IA G2) False) G1) G := by
  obtain ⟨N, h⟩ := h
  obtain ⟨hN, h1, h2, h9, h11⟩ := gP_n h.1
  have hJ : ∀ t, IA (gu G 46 71 t) := fun t => ⟨N, jA_71 h⟩
  have hV : ∀ v t, IA (gu (gu G 83 0 v) 46 71 t) := fun v t => ⟨N, jA_eq h (fun k j q => by
    unfold jfr at q
    rw [gu_n (by omega), gu_n (by omega)])⟩
  have hP := h.1
  have hL := h.2.2.2.2.2.2.2.1
  have hB := h.2.2.2.2.2.2.2.2.1
  have hst := h.2.2.2.2.2.2.2.2.2
  obtain ⟨v31, v33, v35, ⟨l0, l1, hl0, hl1, a0, b0, a1, b1⟩, v20, v25, v22, v27, v24, v29, v7, v8⟩ := jA_vis h
  exact c_next_A hst hJ
theorem q_active_A {G : Gt} (h : IA G) : w_X10_active_A (fun v G1 => w_X11_active (fun v2 G2 => pif (v = v2) (IA G2) False) G1) G := by
  obtain ⟨N, h⟩ := h
  obtain ⟨hN, h1, h2, h9, h11⟩ := gP_n h.1
  have hJ : ∀ t, IA (gu G 46 71 t) := fun t => ⟨N, jA_71 h⟩
  have hV : ∀ v t, IA (gu (gu G 83 0 v) 46 71 t) := fun v t => ⟨N, jA_eq h (fun k j q => by
    unfold jfr at q
    rw [gu_n (by omega), gu_n (by omega)])⟩
  have hP := h.1
  have hL := h.2.2.2.2.2.2.2.1
  have hB := h.2.2.2.2.2.2.2.2.1
  have hst := h.2.2.2.2.2.2.2.2.2
  obtain ⟨v31, v33, v35, ⟨l0, l1, hl0, hl1, a0, b0, a1, b1⟩, v20, v25, v22, v27, v24, v29, v7, v8⟩ := jA_vis h
  exact c_active_A hst hJ
theorem q_setOption_A {G : Gt} {x y : Int32} (h : IA G) : w_L_setOption_A (fun v1 s1 G2 => s1 = shA ∧ w_X11_setOption (fun v4 G3 => cmpt IA v1 v4 G3) x y G2) x y G := by
  obtain ⟨N, h⟩ := h
  obtain ⟨hN, h1, h2, h9, h11⟩ := gP_n h.1
  have hJ : ∀ t, IA (gu G 46 71 t) := fun t => ⟨N, jA_71 h⟩
  have hV : ∀ v t, IA (gu (gu G 83 0 v) 46 71 t) := fun v t => ⟨N, jA_eq h (fun k j q => by
    unfold jfr at q
    rw [gu_n (by omega), gu_n (by omega)])⟩
  have hP := h.1
  have hL := h.2.2.2.2.2.2.2.1
  have hB := h.2.2.2.2.2.2.2.2.1
  have hst := h.2.2.2.2.2.2.2.2.2
  obtain ⟨v31, v33, v35, ⟨l0, l1, hl0, hl1, a0, b0, a1, b1⟩, v20, v25, v22, v27, v24, v29, v7, v8⟩ := jA_vis h
  exact c_setOption_A hst v31 (fun i hi v h0 hy => ⟨N, jA_op h hi hy⟩) hJ
theorem q_define_A {G : Gt} {x y u v : Int32} (h : IA G) : w_L_define_A (fun v1 s1 G2 => s1 = shA ∧ w_X11_define (fun v4 G3 => cmpt IA v1 v4 G3) x y u v G2) x y u v G := by
  obtain ⟨N, h⟩ := h
  obtain ⟨hN, h1, h2, h9, h11⟩ := gP_n h.1
  have hJ : ∀ t, IA (gu G 46 71 t) := fun t => ⟨N, jA_71 h⟩
  have hV : ∀ v t, IA (gu (gu G 83 0 v) 46 71 t) := fun v t => ⟨N, jA_eq h (fun k j q => by
    unfold jfr at q
    rw [gu_n (by omega), gu_n (by omega)])⟩
  have hP := h.1
  have hL := h.2.2.2.2.2.2.2.1
  have hB := h.2.2.2.2.2.2.2.2.1
  have hst := h.2.2.2.2.2.2.2.2.2
  obtain ⟨v31, v33, v35, ⟨l0, l1, hl0, hl1, a0, b0, a1, b1⟩, v20, v25, v22, v27, v24, v29, v7, v8⟩ := jA_vis h
  exact c_define_A hst hN h1 h2 v35 hJ (fun i a b hi ha hb t h0 ex ey eu ev => ⟨N, jA_df (x := x) h hi ha hb ey eu ev⟩)
theorem q_write_A {G : Gt} {x y : Int32} (h : IA G) : w_L_write_A (fun v1 s1 G2 => s1 = shA ∧ w_X11_write (fun v4 G3 => cmpt IA v1 v4 G3) x y G2) x y G := by
  obtain ⟨N, h⟩ := h
  obtain ⟨hN, h1, h2, h9, h11⟩ := gP_n h.1
  have hJ : ∀ t, IA (gu G 46 71 t) := fun t => ⟨N, jA_71 h⟩
  have hV : ∀ v t, IA (gu (gu G 83 0 v) 46 71 t) := fun v t => ⟨N, jA_eq h (fun k j q => by
    unfold jfr at q
    rw [gu_n (by omega), gu_n (by omega)])⟩
  have hP := h.1
  have hL := h.2.2.2.2.2.2.2.1
  have hB := h.2.2.2.2.2.2.2.2.1
  have hst := h.2.2.2.2.2.2.2.2.2
  obtain ⟨v31, v33, v35, ⟨l0, l1, hl0, hl1, a0, b0, a1, b1⟩, v20, v25, v22, v27, v24, v29, v7, v8⟩ := jA_vis h
  exact c_write_A hst hl0 hl1 a0 b0 a1 b1 hJ (fun j hj hl v h0 ey => ⟨N, jA_w0 h hl a0 hj ey⟩) (fun j hj hl v h0 ey => ⟨N, jA_w1 h hl a1 hj ey⟩)
theorem q_setBudget_A {G : Gt} {x : Int32} (h : IA G) : w_L_setBudget_A (fun v1 s1 G2 => s1 = shA ∧ w_X11_setBudget (fun v4 G3 => cmpt IA v1 v4 G3) x G2) x G := by
  obtain ⟨N, h⟩ := h
  obtain ⟨hN, h1, h2, h9, h11⟩ := gP_n h.1
  have hJ : ∀ t, IA (gu G 46 71 t) := fun t => ⟨N, jA_71 h⟩
  have hV : ∀ v t, IA (gu (gu G 83 0 v) 46 71 t) := fun v t => ⟨N, jA_eq h (fun k j q => by
    unfold jfr at q
    rw [gu_n (by omega), gu_n (by omega)])⟩
  have hP := h.1
  have hL := h.2.2.2.2.2.2.2.1
  have hB := h.2.2.2.2.2.2.2.2.1
  have hst := h.2.2.2.2.2.2.2.2.2
  obtain ⟨v31, v33, v35, ⟨l0, l1, hl0, hl1, a0, b0, a1, b1⟩, v20, v25, v22, v27, v24, v29, v7, v8⟩ := jA_vis h
  exact c_setBudget_A hB.1 (fun v hx => ⟨N, by obtain ⟨p1, p2, p3, p4⟩ := bd_all (v := v) hP hx; exact jA_cg h (Nat.le_refl _) p1 p2 p3 (p4.trans hst)⟩) hJ
theorem q_node_A {G : Gt} {k a b c : Int32} (h : IA G) : w_L_node_A (fun v1 s1 G2 => s1 = shA ∧ w_X11_node (fun v4 G3 => cmpt IA v1 v4 G3) k a b c G2) k a b c G := by
  obtain ⟨N, h⟩ := h
  obtain ⟨hN, h1, h2, h9, h11⟩ := gP_n h.1
  have hJ : ∀ t, IA (gu G 46 71 t) := fun t => ⟨N, jA_71 h⟩
  have hV : ∀ v t, IA (gu (gu G 83 0 v) 46 71 t) := fun v t => ⟨N, jA_eq h (fun k j q => by
    unfold jfr at q
    rw [gu_n (by omega), gu_n (by omega)])⟩
  have hP := h.1
  have hL := h.2.2.2.2.2.2.2.1
  have hB := h.2.2.2.2.2.2.2.2.1
  have hst := h.2.2.2.2.2.2.2.2.2
  obtain ⟨v31, v33, v35, ⟨l0, l1, hl0, hl1, a0, b0, a1, b1⟩, v20, v25, v22, v27, v24, v29, v7, v8⟩ := jA_vis h
  exact c_node_A hP hJ (fun X U a b e p => ⟨N + 1, by obtain ⟨p1, p2, p3⟩ := nd_all hB e; exact jA_cg h (Nat.le_succ _) p p1 p2 (p3.trans hst)⟩)
theorem q_breakAt_A {G : Gt} {x1 x2 : Int32} (h : IA G) : pif (x2 = 0) (w_L_breakAt_A (fun v1 s1 G2 => s1 = shA ∧ pif (x2 = 0) (w_X11_breakAt (fun v4 G3 => cmpb IA v1 v4 G3) x1 0 G2) (w_X11_breakAt (fun v4 G3 => cmpb IA v1 v4 G3) x1 1 G2)) x1 0 G) (w_L_breakAt_A (fun v1 s1 G2 => s1 = shA ∧ pif (x2 = 0) (w_X11_breakAt (fun v4 G3 => cmpb IA v1 v4 G3) x1 0 G2) (w_X11_breakAt (fun v4 G3 => cmpb IA v1 v4 G3) x1 1 G2)) x1 1 G) := by
  obtain ⟨N, h⟩ := h
  obtain ⟨hN, h1, h2, h9, h11⟩ := gP_n h.1
  have hJ : ∀ t, IA (gu G 46 71 t) := fun t => ⟨N, jA_71 h⟩
  have hV : ∀ v t, IA (gu (gu G 83 0 v) 46 71 t) := fun v t => ⟨N, jA_eq h (fun k j q => by
    unfold jfr at q
    rw [gu_n (by omega), gu_n (by omega)])⟩
  have hP := h.1
  have hL := h.2.2.2.2.2.2.2.1
  have hB := h.2.2.2.2.2.2.2.2.1
  have hst := h.2.2.2.2.2.2.2.2.2
  obtain ⟨v31, v33, v35, ⟨l0, l1, hl0, hl1, a0, b0, a1, b1⟩, v20, v25, v22, v27, v24, v29, v7, v8⟩ := jA_vis h
  have base : ∀ q, bz q → w_L_breakAt_A (fun v1 s1 G2 => s1 = shA ∧ w_X11_breakAt (fun v4 G3 => cmpb IA v1 v4 G3) x1 q G2) x1 q G := fun q hq => c_breakAt_A hq hN h1 h2 h11 (fun i hi v => ⟨N, by obtain ⟨p1, p2, p3, p4⟩ := bk_all (v := v) hP hB hi hq; exact jA_cg h (Nat.le_refl _) p1 p2 p3 (p4.trans hst)⟩) hJ
  refine pif_by (fun hc => ?_) (fun hc => ?_)
  · have e : (fun (v1 : Int32) (s1 : Sh) (G2 : Gt) => s1 = shA ∧ pif (x2 = 0) (w_X11_breakAt (fun v4 G3 => cmpb IA v1 v4 G3) x1 0 G2) (w_X11_breakAt (fun v4 G3 => cmpb IA v1 v4 G3) x1 1 G2)) = (fun v1 s1 G2 => s1 = shA ∧ w_X11_breakAt (fun v4 G3 => cmpb IA v1 v4 G3) x1 0 G2) := by
      funext v1 s1 G2
      exact propext ⟨fun a => ⟨a.1, a.2.1 hc⟩, fun a => ⟨a.1, pif_p hc a.2⟩⟩
    rw [e]
    exact base 0 (Or.inl rfl)
  · have e : (fun (v1 : Int32) (s1 : Sh) (G2 : Gt) => s1 = shA ∧ pif (x2 = 0) (w_X11_breakAt (fun v4 G3 => cmpb IA v1 v4 G3) x1 0 G2) (w_X11_breakAt (fun v4 G3 => cmpb IA v1 v4 G3) x1 1 G2)) = (fun v1 s1 G2 => s1 = shA ∧ w_X11_breakAt (fun v4 G3 => cmpb IA v1 v4 G3) x1 1 G2) := by
      funext v1 s1 G2
      exact propext ⟨fun a => ⟨a.1, a.2.2 hc⟩, fun a => ⟨a.1, pif_n hc a.2⟩⟩
    rw [e]
    exact base 1 (Or.inr rfl)
theorem q_size_B {G : Gt} {x : Int32} (h : IB G) : w_L_size_B (fun v1 s1 G2 => s1 = shB ∧ w_X11_size (fun v4 G3 => cmpt IB v1 v4 G3) x G2) x G := by
  obtain ⟨N, h⟩ := h
  obtain ⟨hP, hS1, hB, hL⟩ := IBn_f h
  obtain ⟨hN, h1, h2, h9, h11⟩ := gP_n hP
  have hJ : ∀ t, IB (gu G 46 71 t) := fun t => ⟨N, IBn_eq h (fun k j q => gu_n (by omega))⟩
  have hV : ∀ v t, IB (gu (gu G 83 0 v) 46 71 t) := fun v t => ⟨N, IBn_eq h (fun k j q => by rw [gu_n (by omega), gu_n (by omega)])⟩
  have hst := IBn_st h
  obtain ⟨v31, v33, v35, ⟨l0, l1, hl0, hl1, a0, b0, a1, b1⟩, v20, v25, v22, v27, v24, v29, v7, v8⟩ := IBn_vis h
  exact c_size_B hN h1 h2 h9 hV hJ
theorem q_option_B {G : Gt} {x : Int32} (h : IB G) : w_L_option_B (fun v1 s1 G2 => s1 = shB ∧ w_X11_option (fun v4 G3 => cmpt IB v1 v4 G3) x G2) x G := by
  obtain ⟨N, h⟩ := h
  obtain ⟨hP, hS1, hB, hL⟩ := IBn_f h
  obtain ⟨hN, h1, h2, h9, h11⟩ := gP_n hP
  have hJ : ∀ t, IB (gu G 46 71 t) := fun t => ⟨N, IBn_eq h (fun k j q => gu_n (by omega))⟩
  have hV : ∀ v t, IB (gu (gu G 83 0 v) 46 71 t) := fun v t => ⟨N, IBn_eq h (fun k j q => by rw [gu_n (by omega), gu_n (by omega)])⟩
  have hst := IBn_st h
  obtain ⟨v31, v33, v35, ⟨l0, l1, hl0, hl1, a0, b0, a1, b1⟩, v20, v25, v22, v27, v24, v29, v7, v8⟩ := IBn_vis h
  exact c_option_B v31 hV hJ
theorem q_register_B {G : Gt} {x : Int32} (h : IB G) : w_L_register_B (fun v1 s1 G2 => s1 = shB ∧ w_X11_register (fun v4 G3 => cmpt IB v1 v4 G3) x G2) x G := by
  obtain ⟨N, h⟩ := h
  obtain ⟨hP, hS1, hB, hL⟩ := IBn_f h
  obtain ⟨hN, h1, h2, h9, h11⟩ := gP_n hP
  have hJ : ∀ t, IB (gu G 46 71 t) := fun t => ⟨N, IBn_eq h (fun k j q => gu_n (by omega))⟩
  have hV : ∀ v t, IB (gu (gu G 83 0 v) 46 71 t) := fun v t => ⟨N, IBn_eq h (fun k j q => by rw [gu_n (by omega), gu_n (by omega)])⟩
  have hst := IBn_st h
  obtain ⟨v31, v33, v35, ⟨l0, l1, hl0, hl1, a0, b0, a1, b1⟩, v20, v25, v22, v27, v24, v29, v7, v8⟩ := IBn_vis h
  exact c_register_B v33 hV hJ
theorem q_body_B {G : Gt} {x : Int32} (h : IB G) : w_L_body_B (fun v1 s1 G2 => s1 = shB ∧ w_X11_body (fun v4 G3 => cmpt IB v1 v4 G3) x G2) x G := by
  obtain ⟨N, h⟩ := h
  obtain ⟨hP, hS1, hB, hL⟩ := IBn_f h
  obtain ⟨hN, h1, h2, h9, h11⟩ := gP_n hP
  have hJ : ∀ t, IB (gu G 46 71 t) := fun t => ⟨N, IBn_eq h (fun k j q => gu_n (by omega))⟩
  have hV : ∀ v t, IB (gu (gu G 83 0 v) 46 71 t) := fun v t => ⟨N, IBn_eq h (fun k j q => by rw [gu_n (by omega), gu_n (by omega)])⟩
  have hst := IBn_st h
  obtain ⟨v31, v33, v35, ⟨l0, l1, hl0, hl1, a0, b0, a1, b1⟩, v20, v25, v22, v27, v24, v29, v7, v8⟩ := IBn_vis h
  exact c_body_B v35 hV hJ
theorem q_length_B {G : Gt} {x : Int32} (h : IB G) : w_L_length_B (fun v1 s1 G2 => s1 = shB ∧ w_X11_length (fun v4 G3 => cmpt IB v1 v4 G3) x G2) x G := by
  obtain ⟨N, h⟩ := h
  obtain ⟨hP, hS1, hB, hL⟩ := IBn_f h
  obtain ⟨hN, h1, h2, h9, h11⟩ := gP_n hP
  have hJ : ∀ t, IB (gu G 46 71 t) := fun t => ⟨N, IBn_eq h (fun k j q => gu_n (by omega))⟩
  have hV : ∀ v t, IB (gu (gu G 83 0 v) 46 71 t) := fun v t => ⟨N, IBn_eq h (fun k j q => by rw [gu_n (by omega), gu_n (by omega)])⟩
  have hst := IBn_st h
  obtain ⟨v31, v33, v35, ⟨l0, l1, hl0, hl1, a0, b0, a1, b1⟩, v20, v25, v22, v27, v24, v29, v7, v8⟩ := IBn_vis h
  exact c_length_B (a0.trans b0.symm) (a1.trans b1.symm) hV hJ
theorem q_activeCursor_B {G : Gt} {x : Int32} (h : IB G) : w_L_activeCursor_B (fun v1 s1 G2 => s1 = shB ∧ w_X11_activeCursor (fun v4 G3 => cmpt IB v1 v4 G3) x G2) x G := by
  obtain ⟨N, h⟩ := h
  obtain ⟨hP, hS1, hB, hL⟩ := IBn_f h
  obtain ⟨hN, h1, h2, h9, h11⟩ := gP_n hP
  have hJ : ∀ t, IB (gu G 46 71 t) := fun t => ⟨N, IBn_eq h (fun k j q => gu_n (by omega))⟩
  have hV : ∀ v t, IB (gu (gu G 83 0 v) 46 71 t) := fun v t => ⟨N, IBn_eq h (fun k j q => by rw [gu_n (by omega), gu_n (by omega)])⟩
  have hst := IBn_st h
  obtain ⟨v31, v33, v35, ⟨l0, l1, hl0, hl1, a0, b0, a1, b1⟩, v20, v25, v22, v27, v24, v29, v7, v8⟩ := IBn_vis h
  exact c_activeCursor_B v20 v25 hV hJ
theorem q_traceAt_B {G : Gt} {x : Int32} (h : IB G) : w_L_traceAt_B (fun v1 s1 G2 => s1 = shB ∧ w_X11_traceAt (fun v4 G3 => cmpt IB v1 v4 G3) x G2) x G := by
  obtain ⟨N, h⟩ := h
  obtain ⟨hP, hS1, hB, hL⟩ := IBn_f h
  obtain ⟨hN, h1, h2, h9, h11⟩ := gP_n hP
  have hJ : ∀ t, IB (gu G 46 71 t) := fun t => ⟨N, IBn_eq h (fun k j q => gu_n (by omega))⟩
  have hV : ∀ v t, IB (gu (gu G 83 0 v) 46 71 t) := fun v t => ⟨N, IBn_eq h (fun k j q => by rw [gu_n (by omega), gu_n (by omega)])⟩
  have hst := IBn_st h
  obtain ⟨v31, v33, v35, ⟨l0, l1, hl0, hl1, a0, b0, a1, b1⟩, v20, v25, v22, v27, v24, v29, v7, v8⟩ := IBn_vis h
  obtain ⟨t1, t2, t3, c, hc, e1, e2, e3⟩ := hL
  exact c_traceAt_B hc e1 e2 e3 hV hJ
theorem q_letter_B {G : Gt} {x y : Int32} (h : IB G) : w_L_letter_B (fun v1 s1 G2 => s1 = shB ∧ w_X11_letter (fun v4 G3 => cmpt IB v1 v4 G3) x y G2) x y G := by
  obtain ⟨N, h⟩ := h
  obtain ⟨hP, hS1, hB, hL⟩ := IBn_f h
  obtain ⟨hN, h1, h2, h9, h11⟩ := gP_n hP
  have hJ : ∀ t, IB (gu G 46 71 t) := fun t => ⟨N, IBn_eq h (fun k j q => gu_n (by omega))⟩
  have hV : ∀ v t, IB (gu (gu G 83 0 v) 46 71 t) := fun v t => ⟨N, IBn_eq h (fun k j q => by rw [gu_n (by omega), gu_n (by omega)])⟩
  have hst := IBn_st h
  obtain ⟨v31, v33, v35, ⟨l0, l1, hl0, hl1, a0, b0, a1, b1⟩, v20, v25, v22, v27, v24, v29, v7, v8⟩ := IBn_vis h
  exact c_letter_B hl0 hl1 a0 b0 a1 b1 v22 v27 hV hJ
theorem q_cursor_B {G : Gt} {x y : Int32} (h : IB G) : w_L_cursor_B (fun v1 s1 G2 => s1 = shB ∧ w_X11_cursor (fun v4 G3 => cmpt IB v1 v4 G3) x y G2) x y G := by
  obtain ⟨N, h⟩ := h
  obtain ⟨hP, hS1, hB, hL⟩ := IBn_f h
  obtain ⟨hN, h1, h2, h9, h11⟩ := gP_n hP
  have hJ : ∀ t, IB (gu G 46 71 t) := fun t => ⟨N, IBn_eq h (fun k j q => gu_n (by omega))⟩
  have hV : ∀ v t, IB (gu (gu G 83 0 v) 46 71 t) := fun v t => ⟨N, IBn_eq h (fun k j q => by rw [gu_n (by omega), gu_n (by omega)])⟩
  have hst := IBn_st h
  obtain ⟨v31, v33, v35, ⟨l0, l1, hl0, hl1, a0, b0, a1, b1⟩, v20, v25, v22, v27, v24, v29, v7, v8⟩ := IBn_vis h
  exact c_cursor_B v24 v29 hV hJ
theorem q_outcome_B {G : Gt} (h : IB G) : w_X10_outcome_B (fun v G1 => w_X11_outcome (fun v2 G2 => pif (v = v2) (IB G2) False) G1) G := by
  obtain ⟨N, h⟩ := h
  obtain ⟨hP, hS1, hB, hL⟩ := IBn_f h
  obtain ⟨hN, h1, h2, h9, h11⟩ := gP_n hP
  have hJ : ∀ t, IB (gu G 46 71 t) := fun t => ⟨N, IBn_eq h (fun k j q => gu_n (by omega))⟩
  have hV : ∀ v t, IB (gu (gu G 83 0 v) 46 71 t) := fun v t => ⟨N, IBn_eq h (fun k j q => by rw [gu_n (by omega), gu_n (by omega)])⟩
  have hst := IBn_st h
  obtain ⟨v31, v33, v35, ⟨l0, l1, hl0, hl1, a0, b0, a1, b1⟩, v20, v25, v22, v27, v24, v29, v7, v8⟩ := IBn_vis h
  exact c_outcome_B hL.1 hJ
theorem q_steps_B {G : Gt} (h : IB G) : w_X10_steps_B (fun v G1 => w_X11_steps (fun v2 G2 => pif (v = v2) (IB G2) False) G1) G := by
  obtain ⟨N, h⟩ := h
  obtain ⟨hP, hS1, hB, hL⟩ := IBn_f h
  obtain ⟨hN, h1, h2, h9, h11⟩ := gP_n hP
  have hJ : ∀ t, IB (gu G 46 71 t) := fun t => ⟨N, IBn_eq h (fun k j q => gu_n (by omega))⟩
  have hV : ∀ v t, IB (gu (gu G 83 0 v) 46 71 t) := fun v t => ⟨N, IBn_eq h (fun k j q => by rw [gu_n (by omega), gu_n (by omega)])⟩
  have hst := IBn_st h
  obtain ⟨v31, v33, v35, ⟨l0, l1, hl0, hl1, a0, b0, a1, b1⟩, v20, v25, v22, v27, v24, v29, v7, v8⟩ := IBn_vis h
  exact c_steps_B hL.2.1 hJ
theorem q_cause_B {G : Gt} (h : IB G) : w_X10_cause_B (fun v G1 => w_X11_cause (fun v2 G2 => pif (v = v2) (IB G2) False) G1) G := by
  obtain ⟨N, h⟩ := h
  obtain ⟨hP, hS1, hB, hL⟩ := IBn_f h
  obtain ⟨hN, h1, h2, h9, h11⟩ := gP_n hP
  have hJ : ∀ t, IB (gu G 46 71 t) := fun t => ⟨N, IBn_eq h (fun k j q => gu_n (by omega))⟩
  have hV : ∀ v t, IB (gu (gu G 83 0 v) 46 71 t) := fun v t => ⟨N, IBn_eq h (fun k j q => by rw [gu_n (by omega), gu_n (by omega)])⟩
  have hst := IBn_st h
  obtain ⟨v31, v33, v35, ⟨l0, l1, hl0, hl1, a0, b0, a1, b1⟩, v20, v25, v22, v27, v24, v29, v7, v8⟩ := IBn_vis h
  exact c_cause_B hL.2.2.1 hJ
theorem q_traced_B {G : Gt} (h : IB G) : w_X10_traced_B (fun v G1 => w_X11_traced (fun v2 G2 => pif (v = v2) (IB G2) False) G1) G := by
  obtain ⟨N, h⟩ := h
  obtain ⟨hP, hS1, hB, hL⟩ := IBn_f h
  obtain ⟨hN, h1, h2, h9, h11⟩ := gP_n hP
  have hJ : ∀ t, IB (gu G 46 71 t) := fun t => ⟨N, IBn_eq h (fun k j q => gu_n (by omega))⟩
  have hV : ∀ v t, IB (gu (gu G 83 0 v) 46 71 t) := fun v t => ⟨N, IBn_eq h (fun k j q => by rw [gu_n (by omega), gu_n (by omega)])⟩
  have hst := IBn_st h
  obtain ⟨v31, v33, v35, ⟨l0, l1, hl0, hl1, a0, b0, a1, b1⟩, v20, v25, v22, v27, v24, v29, v7, v8⟩ := IBn_vis h
  obtain ⟨t1, t2, t3, c, hc, e1, e2, e3⟩ := hL
  exact c_traced_B (e1.trans e2.symm) hJ
theorem q_buffer_B {G : Gt} (h : IB G) : w_X10_buffer_B (fun v G1 => w_X11_buffer (fun v2 G2 => pif (v = v2) (IB G2) False) G1) G := by
  obtain ⟨N, h⟩ := h
  obtain ⟨hP, hS1, hB, hL⟩ := IBn_f h
  obtain ⟨hN, h1, h2, h9, h11⟩ := gP_n hP
  have hJ : ∀ t, IB (gu G 46 71 t) := fun t => ⟨N, IBn_eq h (fun k j q => gu_n (by omega))⟩
  have hV : ∀ v t, IB (gu (gu G 83 0 v) 46 71 t) := fun v t => ⟨N, IBn_eq h (fun k j q => by rw [gu_n (by omega), gu_n (by omega)])⟩
  have hst := IBn_st h
  obtain ⟨v31, v33, v35, ⟨l0, l1, hl0, hl1, a0, b0, a1, b1⟩, v20, v25, v22, v27, v24, v29, v7, v8⟩ := IBn_vis h
  exact c_buffer_B v7 hJ
theorem q_hook_B {G : Gt} (h : IB G) : w_X10_hook_B (fun v G1 => w_X11_hook (fun v2 G2 => pif (v = v2) (IB G2) False) G1) G := by
  obtain ⟨N, h⟩ := h
  obtain ⟨hP, hS1, hB, hL⟩ := IBn_f h
  obtain ⟨hN, h1, h2, h9, h11⟩ := gP_n hP
  have hJ : ∀ t, IB (gu G 46 71 t) := fun t => ⟨N, IBn_eq h (fun k j q => gu_n (by omega))⟩
  have hV : ∀ v t, IB (gu (gu G 83 0 v) 46 71 t) := fun v t => ⟨N, IBn_eq h (fun k j q => by rw [gu_n (by omega), gu_n (by omega)])⟩
  have hst := IBn_st h
  obtain ⟨v31, v33, v35, ⟨l0, l1, hl0, hl1, a0, b0, a1, b1⟩, v20, v25, v22, v27, v24, v29, v7, v8⟩ := IBn_vis h
  exact c_hook_B v8 hJ
theorem q_setOption_B {G : Gt} {x y : Int32} (h : IB G) : w_L_setOption_B (fun v1 s1 G2 => s1 = shB ∧ w_X11_setOption (fun v4 G3 => cmpt IB v1 v4 G3) x y G2) x y G := by
  obtain ⟨N, h⟩ := h
  obtain ⟨hP, hS1, hB, hL⟩ := IBn_f h
  obtain ⟨hN, h1, h2, h9, h11⟩ := gP_n hP
  have hJ : ∀ t, IB (gu G 46 71 t) := fun t => ⟨N, IBn_eq h (fun k j q => gu_n (by omega))⟩
  have hV : ∀ v t, IB (gu (gu G 83 0 v) 46 71 t) := fun v t => ⟨N, IBn_eq h (fun k j q => by rw [gu_n (by omega), gu_n (by omega)])⟩
  have hst := IBn_st h
  obtain ⟨v31, v33, v35, ⟨l0, l1, hl0, hl1, a0, b0, a1, b1⟩, v20, v25, v22, v27, v24, v29, v7, v8⟩ := IBn_vis h
  exact c_setOption_B hst v31 (fun i hi v h0 hy => ⟨N, Or.inl ⟨jA_op (IBn_0 h h0).1 hi hy, by simp only [gu]; exact (IBn_0 h h0).2⟩⟩) hJ
theorem q_define_B {G : Gt} {x y u v : Int32} (h : IB G) : w_L_define_B (fun v1 s1 G2 => s1 = shB ∧ w_X11_define (fun v4 G3 => cmpt IB v1 v4 G3) x y u v G2) x y u v G := by
  obtain ⟨N, h⟩ := h
  obtain ⟨hP, hS1, hB, hL⟩ := IBn_f h
  obtain ⟨hN, h1, h2, h9, h11⟩ := gP_n hP
  have hJ : ∀ t, IB (gu G 46 71 t) := fun t => ⟨N, IBn_eq h (fun k j q => gu_n (by omega))⟩
  have hV : ∀ v t, IB (gu (gu G 83 0 v) 46 71 t) := fun v t => ⟨N, IBn_eq h (fun k j q => by rw [gu_n (by omega), gu_n (by omega)])⟩
  have hst := IBn_st h
  obtain ⟨v31, v33, v35, ⟨l0, l1, hl0, hl1, a0, b0, a1, b1⟩, v20, v25, v22, v27, v24, v29, v7, v8⟩ := IBn_vis h
  exact c_define_B hst hN h1 h2 v35 hJ (fun i a b hi ha hb t h0 ex ey eu ev => ⟨N, Or.inl ⟨jA_df (x := x) (IBn_0 h h0).1 hi ha hb ey eu ev, by simp only [gu]; exact (IBn_0 h h0).2⟩⟩)
theorem q_write_B {G : Gt} {x y : Int32} (h : IB G) : w_L_write_B (fun v1 s1 G2 => s1 = shB ∧ w_X11_write (fun v4 G3 => cmpt IB v1 v4 G3) x y G2) x y G := by
  obtain ⟨N, h⟩ := h
  obtain ⟨hP, hS1, hB, hL⟩ := IBn_f h
  obtain ⟨hN, h1, h2, h9, h11⟩ := gP_n hP
  have hJ : ∀ t, IB (gu G 46 71 t) := fun t => ⟨N, IBn_eq h (fun k j q => gu_n (by omega))⟩
  have hV : ∀ v t, IB (gu (gu G 83 0 v) 46 71 t) := fun v t => ⟨N, IBn_eq h (fun k j q => by rw [gu_n (by omega), gu_n (by omega)])⟩
  have hst := IBn_st h
  obtain ⟨v31, v33, v35, ⟨l0, l1, hl0, hl1, a0, b0, a1, b1⟩, v20, v25, v22, v27, v24, v29, v7, v8⟩ := IBn_vis h
  exact c_write_B hst hl0 hl1 a0 b0 a1 b1 hJ (fun j hj hl v h0 ey => ⟨N, Or.inl ⟨jA_w0 (IBn_0 h h0).1 hl a0 hj ey, by simp only [gu]; exact (IBn_0 h h0).2⟩⟩) (fun j hj hl v h0 ey => ⟨N, Or.inl ⟨jA_w1 (IBn_0 h h0).1 hl a1 hj ey, by simp only [gu]; exact (IBn_0 h h0).2⟩⟩)
theorem q_setBudget_B {G : Gt} {x : Int32} (h : IB G) : w_L_setBudget_B (fun v1 s1 G2 => s1 = shB ∧ w_X11_setBudget (fun v4 G3 => cmpt IB v1 v4 G3) x G2) x G := by
  obtain ⟨N, h⟩ := h
  obtain ⟨hP, hS1, hB, hL⟩ := IBn_f h
  obtain ⟨hN, h1, h2, h9, h11⟩ := gP_n hP
  have hJ : ∀ t, IB (gu G 46 71 t) := fun t => ⟨N, IBn_eq h (fun k j q => gu_n (by omega))⟩
  have hV : ∀ v t, IB (gu (gu G 83 0 v) 46 71 t) := fun v t => ⟨N, IBn_eq h (fun k j q => by rw [gu_n (by omega), gu_n (by omega)])⟩
  have hst := IBn_st h
  obtain ⟨v31, v33, v35, ⟨l0, l1, hl0, hl1, a0, b0, a1, b1⟩, v20, v25, v22, v27, v24, v29, v7, v8⟩ := IBn_vis h
  exact c_setBudget_B hB.1 (fun v hx => ⟨N, by obtain ⟨p1, p2, p3, p4⟩ := bd_all (v := v) hP hx; exact IBn_cg h (Nat.le_refl _) p1 p2 p3 p4⟩) hJ
theorem q_node_B {G : Gt} {k a b c : Int32} (h : IB G) : w_L_node_B (fun v1 s1 G2 => s1 = shB ∧ w_X11_node (fun v4 G3 => cmpt IB v1 v4 G3) k a b c G2) k a b c G := by
  obtain ⟨N, h⟩ := h
  obtain ⟨hP, hS1, hB, hL⟩ := IBn_f h
  obtain ⟨hN, h1, h2, h9, h11⟩ := gP_n hP
  have hJ : ∀ t, IB (gu G 46 71 t) := fun t => ⟨N, IBn_eq h (fun k j q => gu_n (by omega))⟩
  have hV : ∀ v t, IB (gu (gu G 83 0 v) 46 71 t) := fun v t => ⟨N, IBn_eq h (fun k j q => by rw [gu_n (by omega), gu_n (by omega)])⟩
  have hst := IBn_st h
  obtain ⟨v31, v33, v35, ⟨l0, l1, hl0, hl1, a0, b0, a1, b1⟩, v20, v25, v22, v27, v24, v29, v7, v8⟩ := IBn_vis h
  exact c_node_B hP hJ (fun X U a b e p => ⟨N + 1, by obtain ⟨p1, p2, p3⟩ := nd_all hB e; exact IBn_cg h (Nat.le_succ _) p p1 p2 p3⟩)
theorem q_breakAt_B {G : Gt} {x1 x2 : Int32} (h : IB G) : pif (x2 = 0) (w_L_breakAt_B (fun v1 s1 G2 => s1 = shB ∧ pif (x2 = 0) (w_X11_breakAt (fun v4 G3 => cmpb IB v1 v4 G3) x1 0 G2) (w_X11_breakAt (fun v4 G3 => cmpb IB v1 v4 G3) x1 1 G2)) x1 0 G) (w_L_breakAt_B (fun v1 s1 G2 => s1 = shB ∧ pif (x2 = 0) (w_X11_breakAt (fun v4 G3 => cmpb IB v1 v4 G3) x1 0 G2) (w_X11_breakAt (fun v4 G3 => cmpb IB v1 v4 G3) x1 1 G2)) x1 1 G) := by
  obtain ⟨N, h⟩ := h
  obtain ⟨hP, hS1, hB, hL⟩ := IBn_f h
  obtain ⟨hN, h1, h2, h9, h11⟩ := gP_n hP
  have hJ : ∀ t, IB (gu G 46 71 t) := fun t => ⟨N, IBn_eq h (fun k j q => gu_n (by omega))⟩
  have hV : ∀ v t, IB (gu (gu G 83 0 v) 46 71 t) := fun v t => ⟨N, IBn_eq h (fun k j q => by rw [gu_n (by omega), gu_n (by omega)])⟩
  have hst := IBn_st h
  obtain ⟨v31, v33, v35, ⟨l0, l1, hl0, hl1, a0, b0, a1, b1⟩, v20, v25, v22, v27, v24, v29, v7, v8⟩ := IBn_vis h
  have base : ∀ q, bz q → w_L_breakAt_B (fun v1 s1 G2 => s1 = shB ∧ w_X11_breakAt (fun v4 G3 => cmpb IB v1 v4 G3) x1 q G2) x1 q G := fun q hq => c_breakAt_B hq hN h1 h2 h11 (fun i hi v => ⟨N, by obtain ⟨p1, p2, p3, p4⟩ := bk_all (v := v) hP hB hi hq; exact IBn_cg h (Nat.le_refl _) p1 p2 p3 p4⟩) hJ
  refine pif_by (fun hc => ?_) (fun hc => ?_)
  · have e : (fun (v1 : Int32) (s1 : Sh) (G2 : Gt) => s1 = shB ∧ pif (x2 = 0) (w_X11_breakAt (fun v4 G3 => cmpb IB v1 v4 G3) x1 0 G2) (w_X11_breakAt (fun v4 G3 => cmpb IB v1 v4 G3) x1 1 G2)) = (fun v1 s1 G2 => s1 = shB ∧ w_X11_breakAt (fun v4 G3 => cmpb IB v1 v4 G3) x1 0 G2) := by
      funext v1 s1 G2
      exact propext ⟨fun a => ⟨a.1, a.2.1 hc⟩, fun a => ⟨a.1, pif_p hc a.2⟩⟩
    rw [e]
    exact base 0 (Or.inl rfl)
  · have e : (fun (v1 : Int32) (s1 : Sh) (G2 : Gt) => s1 = shB ∧ pif (x2 = 0) (w_X11_breakAt (fun v4 G3 => cmpb IB v1 v4 G3) x1 0 G2) (w_X11_breakAt (fun v4 G3 => cmpb IB v1 v4 G3) x1 1 G2)) = (fun v1 s1 G2 => s1 = shB ∧ w_X11_breakAt (fun v4 G3 => cmpb IB v1 v4 G3) x1 1 G2) := by
      funext v1 s1 G2
      exact propext ⟨fun a => ⟨a.1, a.2.2 hc⟩, fun a => ⟨a.1, pif_n hc a.2⟩⟩
    rw [e]
    exact base 1 (Or.inr rfl)
set_option maxRecDepth 20000 in
set_option maxHeartbeats 4000000 in
theorem grp_A {x0 x1 x2 x3 x4 : Int32} {G : Gt} (h : IA G) : w_grp_A IA IB x0 x1 x2 x3 x4 G := by
  unfold w_grp_A
  refine pif_by (fun _ => ?_) (fun _ => ?_)
  · exact q_node_A h
  refine pif_by (fun _ => ?_) (fun _ => ?_)
  · exact q_define_A h
  refine pif_by (fun _ => ?_) (fun _ => ?_)
  · exact q_size_A h
  refine pif_by (fun _ => ?_) (fun _ => ?_)
  · exact q_setOption_A h
  refine pif_by (fun _ => ?_) (fun _ => ?_)
  · exact q_setBudget_A h
  refine pif_by (fun _ => ?_) (fun _ => ?_)
  · exact q_write_A h
  refine pif_by (fun _ => ?_) (fun _ => ?_)
  · exact c_run_A h
  refine pif_by (fun _ => ?_) (fun _ => ?_)
  · exact c_tried_A h
  refine pif_by (fun _ => ?_) (fun _ => ?_)
  · exact c_triedSteps_A h
  refine pif_by (fun _ => ?_) (fun _ => ?_)
  · exact c_start_A h
  refine pif_by (fun _ => ?_) (fun _ => ?_)
  · exact c_step_A h
  refine pif_by (fun _ => ?_) (fun _ => ?_)
  · exact c_giveUp_A h
  refine pif_by (fun _ => ?_) (fun _ => ?_)
  · exact q_breakAt_A h
  refine pif_by (fun _ => ?_) (fun _ => ?_)
  · exact q_next_A h
  refine pif_by (fun _ => ?_) (fun _ => ?_)
  · exact c_look_A h
  refine pif_by (fun _ => ?_) (fun _ => ?_)
  · exact q_active_A h
  refine pif_by (fun _ => ?_) (fun _ => ?_)
  · exact q_outcome_A h
  refine pif_by (fun _ => ?_) (fun _ => ?_)
  · exact q_steps_A h
  refine pif_by (fun _ => ?_) (fun _ => ?_)
  · exact q_cause_A h
  refine pif_by (fun _ => ?_) (fun _ => ?_)
  · exact q_traced_A h
  refine pif_by (fun _ => ?_) (fun _ => ?_)
  · exact q_traceAt_A h
  refine pif_by (fun _ => ?_) (fun _ => ?_)
  · exact q_buffer_A h
  refine pif_by (fun _ => ?_) (fun _ => ?_)
  · exact q_length_A h
  refine pif_by (fun _ => ?_) (fun _ => ?_)
  · exact q_letter_A h
  refine pif_by (fun _ => ?_) (fun _ => ?_)
  · exact q_cursor_A h
  refine pif_by (fun _ => ?_) (fun _ => ?_)
  · exact q_activeCursor_A h
  refine pif_by (fun _ => ?_) (fun _ => ?_)
  · exact q_option_A h
  refine pif_by (fun _ => ?_) (fun _ => ?_)
  · exact q_register_A h
  refine pif_by (fun _ => ?_) (fun _ => ?_)
  · exact q_body_A h
  refine pif_by (fun _ => ?_) (fun _ => ?_)
  · exact q_hook_A h
  exact h
set_option maxRecDepth 20000 in
set_option maxHeartbeats 4000000 in
theorem grp_B {x0 x1 x2 x3 x4 : Int32} {G : Gt} (h : IB G) : w_grp_B IB x0 x1 x2 x3 x4 G := by
  unfold w_grp_B
  refine pif_by (fun _ => ?_) (fun _ => ?_)
  · exact q_node_B h
  refine pif_by (fun _ => ?_) (fun _ => ?_)
  · exact q_define_B h
  refine pif_by (fun _ => ?_) (fun _ => ?_)
  · exact q_size_B h
  refine pif_by (fun _ => ?_) (fun _ => ?_)
  · exact q_setOption_B h
  refine pif_by (fun _ => ?_) (fun _ => ?_)
  · exact q_setBudget_B h
  refine pif_by (fun _ => ?_) (fun _ => ?_)
  · exact q_write_B h
  refine pif_by (fun _ => ?_) (fun _ => ?_)
  · exact c_run_B h
  refine pif_by (fun _ => ?_) (fun _ => ?_)
  · exact c_tried_B h
  refine pif_by (fun _ => ?_) (fun _ => ?_)
  · exact c_triedSteps_B h
  refine pif_by (fun _ => ?_) (fun _ => ?_)
  · exact c_start_B h
  refine pif_by (fun _ => ?_) (fun _ => ?_)
  · exact c_step_B h
  refine pif_by (fun _ => ?_) (fun _ => ?_)
  · exact c_giveUp_B h
  refine pif_by (fun _ => ?_) (fun _ => ?_)
  · exact q_breakAt_B h
  refine pif_by (fun _ => ?_) (fun _ => ?_)
  · exact c_next_B h
  refine pif_by (fun _ => ?_) (fun _ => ?_)
  · exact c_look_B h
  refine pif_by (fun _ => ?_) (fun _ => ?_)
  · exact c_active_B h
  refine pif_by (fun _ => ?_) (fun _ => ?_)
  · exact q_outcome_B h
  refine pif_by (fun _ => ?_) (fun _ => ?_)
  · exact q_steps_B h
  refine pif_by (fun _ => ?_) (fun _ => ?_)
  · exact q_cause_B h
  refine pif_by (fun _ => ?_) (fun _ => ?_)
  · exact q_traced_B h
  refine pif_by (fun _ => ?_) (fun _ => ?_)
  · exact q_traceAt_B h
  refine pif_by (fun _ => ?_) (fun _ => ?_)
  · exact q_buffer_B h
  refine pif_by (fun _ => ?_) (fun _ => ?_)
  · exact q_length_B h
  refine pif_by (fun _ => ?_) (fun _ => ?_)
  · exact q_letter_B h
  refine pif_by (fun _ => ?_) (fun _ => ?_)
  · exact q_cursor_B h
  refine pif_by (fun _ => ?_) (fun _ => ?_)
  · exact q_activeCursor_B h
  refine pif_by (fun _ => ?_) (fun _ => ?_)
  · exact q_option_B h
  refine pif_by (fun _ => ?_) (fun _ => ?_)
  · exact q_register_B h
  refine pif_by (fun _ => ?_) (fun _ => ?_)
  · exact q_body_B h
  refine pif_by (fun _ => ?_) (fun _ => ?_)
  · exact q_hook_B h
  exact h
