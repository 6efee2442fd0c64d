/-! small questions, by their answers -/
theorem has_y {K : Int32 → Gt → Prop} {G : Gt} {N i : Nat} (e : G 1 7 = nI N) (hN : N ≤ 120) (hi : i < N) (h : K 1 G) : w_X4_has K (nI i) G := s4_has (by rw [e, bi_T ((nI_b (by omega)).mpr ⟨i, hi, rfl⟩)]; exact h)
theorem has_n {K : Int32 → Gt → Prop} {G : Gt} {N : Nat} {x : Int32} (e : G 1 7 = nI N) (hN : N ≤ 120) (hx : ¬ ∃ i, i < N ∧ x = nI i) (h : K 0 G) : w_X4_has K x G := s4_has (by rw [e, bi_F (fun z => hx ((nI_b (by omega)).mp z))]; exact h)
theorem node_y {K : Int32 → Gt → Prop} {G : Gt} {N i : Nat} (e : G 46 0 = nI N) (hN : N ≤ 120) (hi : i < N) (h : K 1 G) : w_X11_isNode K (nI i) G := s11_isNode (by rw [e, bi_T ((nI_b1 (by omega)).mpr ⟨i, hi, rfl⟩)]; exact h)
theorem node_n {K : Int32 → Gt → Prop} {G : Gt} {N : Nat} {x : Int32} (e : G 46 0 = nI N) (hN : N ≤ 120) (hx : ¬ ∃ i, i < N ∧ x = nI i) (h : K 0 G) : w_X11_isNode K x G := s11_isNode (by rw [e, bi_F (fun z => hx ((nI_b1 (by omega)).mp z))]; exact h)
theorem in_y {K : Int32 → Gt → Prop} {G : Gt} {x lo hi : Int32} (hx : lo ≤ x ∧ x ≤ hi) (h : K 1 G) : w_X11_in K x lo hi G := s11_in (by rw [bi_T hx]; exact h)
theorem in_n {K : Int32 → Gt → Prop} {G : Gt} {x lo hi : Int32} (hx : ¬ (lo ≤ x ∧ x ≤ hi)) (h : K 0 G) : w_X11_in K x lo hi G := s11_in (by rw [bi_F hx]; exact h)
theorem ibl_y {x : Int32} {n : Nat} {b : Int32} (e : b = nI n) (hn : n < 2 ^ 31) {i : Nat} (hi : i < n) (hx : x = nI i) : ¬ ibl x b = 0 := by
  rw [ibl_bi, bi_T ((lit_b e hn).mpr ⟨i, hi, hx⟩)]; decide
theorem ibl_n {x : Int32} {n : Nat} {b : Int32} (e : b = nI n) (hn : n < 2 ^ 31) (hx : ¬ ∃ i, i < n ∧ x = nI i) : ibl x b = 0 := by
  rw [ibl_bi, bi_F (fun z => hx ((lit_b e hn).mp z))]
theorem buf_y {K : Int32 → Gt → Prop} {G : Gt} {i : Nat} (hi : i < 2) (h : K 1 G) : w_X11_isBuffer K (nI i) G := s11_isBuffer (by
  have : i = 0 ∨ i = 1 := by omega
  rcases this with rfl | rfl <;> exact h)
theorem buf_n {K : Int32 → Gt → Prop} {G : Gt} {x : Int32} (hx : ¬ ∃ i, i < 2 ∧ x = nI i) (h : K 0 G) : w_X11_isBuffer K x G := s11_isBuffer (by
  rw [bi_F (fun z => hx (z.elim (fun e => ⟨0, by omega, e⟩) (fun e => ⟨1, by omega, e⟩)))]; exact h)
theorem slot_y {K : Int32 → Gt → Prop} {G : Gt} {i : Nat} (hi : i < 6) (h : K 1 G) : w_X11_isSlot K (nI i) G := s11_isSlot (by rw [bi_T ((lit_b1 (N := 6) rfl (by decide)).mpr ⟨i, hi, rfl⟩)]; exact h)
theorem slot_n {K : Int32 → Gt → Prop} {G : Gt} {x : Int32} (hx : ¬ ∃ i, i < 6 ∧ x = nI i) (h : K 0 G) : w_X11_isSlot K x G := s11_isSlot (by rw [bi_F (fun z => hx ((lit_b1 (N := 6) rfl (by decide)).mp z))]; exact h)
theorem few_y {K : Int32 → Gt → Prop} {G : Gt} {i : Nat} (hi : i < 4) (h : K 1 G) : w_X11_isFew K (nI i) G := s11_isFew (by rw [bi_T ((lit_b1 (N := 4) rfl (by decide)).mpr ⟨i, hi, rfl⟩)]; exact h)
theorem few_n {K : Int32 → Gt → Prop} {G : Gt} {x : Int32} (hx : ¬ ∃ i, i < 4 ∧ x = nI i) (h : K 0 G) : w_X11_isFew K x G := s11_isFew (by rw [bi_F (fun z => hx ((lit_b1 (N := 4) rfl (by decide)).mp z))]; exact h)
theorem name_y {K : Int32 → Gt → Prop} {G : Gt} {i : Nat} (hi : i < 8) (h : K 1 G) : w_X11_isName K (nI i) G := s11_isName (by rw [bi_T ((lit_b1 (N := 8) rfl (by decide)).mpr ⟨i, hi, rfl⟩)]; exact h)
theorem name_n {K : Int32 → Gt → Prop} {G : Gt} {x : Int32} (hx : ¬ ∃ i, i < 8 ∧ x = nI i) (h : K 0 G) : w_X11_isName K x G := s11_isName (by rw [bi_F (fun z => hx ((lit_b1 (N := 8) rfl (by decide)).mp z))]; exact h)