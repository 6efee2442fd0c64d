theorem step_A {K : Int32 → Gt → Prop} {G : Gt} (h : K 0 G) : w_X10_isStepped_A K G := ⟨bz_0, h⟩
theorem step_By {K : Int32 → Gt → Prop} {G : Gt} (h7 : G 84 7 = 0) (h : K 0 G) : w_X10_isStepped_B K G := pif_p h7 ⟨bz_0, h⟩
theorem step_Bn {K : Int32 → Gt → Prop} {G : Gt} (h7 : ¬ G 84 7 = 0) (h : K 1 G) : w_X10_isStepped_B K G := pif_n h7 ⟨bz_1, h⟩
theorem inm_y {x : Int32} (h : isnum x) : ¬ inm x = 0 := by rw [inm_bi, bi_T h]; decide
theorem inm_n {x : Int32} (h : ¬ isnum x) : inm x = 0 := by rw [inm_bi, bi_F h]
theorem iam_y {x : Int32} (h : 1 ≤ x ∧ x ≤ 600) : ¬ iam x = 0 := by rw [iam_bi, bi_T h]; decide
theorem iam_n {x : Int32} (h : ¬ (1 ≤ x ∧ x ≤ 600)) : iam x = 0 := by rw [iam_bi, bi_F h]
theorem rput_eq {G : Gt} {a N i : Nat} {v : Int32} (hi : i < N) (hN : N < 2 ^ 31) : rput G a N (nI i) v = gu G a i v := rput_n hi hN