/-! P33: what can be looked at; notes, letters, same, told -/
theorem txo_n {b : Nat} (hb : b < 2) : txo 19 (nI b) = 20 + 5 * b := by
  have : b = 0 ∨ b = 1 := by omega
  rcases this with rfl | rfl <;> rfl
theorem gu_sm {G : Gt} {k i : Nat} {v : Int32} (h : v = G k i) : gu G k i v = G := by
  subst h
  funext a b
  by_cases q : a = k ∧ b = i
  · obtain ⟨rfl, rfl⟩ := q
    rw [gu_kk]
  · rw [gu_n q]
theorem nI_lt0 {i : Nat} (h : i < 2 ^ 31) : ¬ nI i < 0 := le_not_lt (nI_pos' h)
theorem ibl_o {x : Int32} {n : Nat} {b : Int32} (e : b = nI n) (hn : n < 2 ^ 31) (hx : ∀ i, i < n → ¬ x = nI i) : ibl x b = 0 := ibl_n e hn (fun q => by
  obtain ⟨i, hi, q⟩ := q
  exact hx i hi q)
theorem l_len_A {G : Gt} {b : Nat} (hb : b < 2) (K : Int32 → Sh → Gt → Prop) (hK : K (G (20 + 5 * b) 2) shA G) : w_L_length_A K (nI b) G := by
  unfold w_L_length_A w_X10_length_A
  rw [txo_n hb]
  exact pif_n (ibl_y (n := 2) rfl (by decide) hb rfl) hK
theorem l_act_A {G : Gt} {b : Nat} (hb : b < 2) (K : Int32 → Sh → Gt → Prop) (hK : K (G (20 + 5 * b) 3) shA G) : w_L_activeCursor_A K (nI b) G := by
  unfold w_L_activeCursor_A w_X10_activeCursor_A
  rw [txo_n hb]
  exact pif_n (ibl_y (n := 2) rfl (by decide) hb rfl) hK
theorem l_cur_A {G : Gt} {b c : Nat} (hb : b < 2) (hc : c < 4) (K : Int32 → Sh → Gt → Prop) (hK : K (G (20 + 5 * b + 4) c) shA G) : w_L_cursor_A K (nI b) (nI c) G := by
  unfold w_L_cursor_A w_X10_cursor_A
  rw [txo_n hb, rat_n hc (by decide)]
  exact pif_n (ibl_y (n := 2) rfl (by decide) hb rfl) (pif_n (ibl_y (n := 4) rfl (by decide) hc rfl) hK)
theorem l_let_A {G : Gt} {b p l : Nat} (hb : b < 2) (hl : l ≤ 40) (hp : p < l) (e : G (20 + 5 * b) 2 = nI l) (K : Int32 → Sh → Gt → Prop) (hK : K (G (20 + 5 * b + 2) p) shA G) : w_L_letter_A K (nI b) (nI p) G := by
  unfold w_L_letter_A w_X10_letter_A
  rw [txo_n hb, rat_n (by omega) (by decide)]
  exact pif_n (ibl_y (n := 2) rfl (by decide) hb rfl) (pif_n (ibl_y (n := l) e (by omega) hp rfl) hK)
theorem l_letx_A {G : Gt} {b l : Nat} (hb : b < 2) (hl : l ≤ 40) (e : G (20 + 5 * b) 2 = nI l) (K : Int32 → Sh → Gt → Prop) (hK : K (-1000001) shA G) : w_L_letter_A K (nI b) (nI l) G := by
  unfold w_L_letter_A w_X10_letter_A w_X10_letter_A_j26
  rw [txo_n hb]
  exact pif_n (ibl_y (n := 2) rfl (by decide) hb rfl) (pif_p (ibl_o (n := l) e (by omega) (fun i hi q => by
    have := (nI_eq (by omega) (by omega)).mp q
    omega)) ⟨rfl, hK⟩)
theorem l_opt_A {G : Gt} {k : Nat} (hk : k < 4) (K : Int32 → Sh → Gt → Prop) (hK : K (G 31 k) shA G) : w_L_option_A K (nI k) G := by
  unfold w_L_option_A w_X10_option_A
  rw [rat_n hk (by decide)]
  exact pif_n (ibl_y (n := 4) rfl (by decide) hk rfl) hK
theorem l_bod_A {G : Gt} {k : Nat} (hk : k < 6) (K : Int32 → Sh → Gt → Prop) (hK : K (G 35 k) shA G) : w_L_body_A K (nI k) G := by
  unfold w_L_body_A w_X10_body_A
  rw [rat_n hk (by decide)]
  exact pif_n (ibl_y (n := 6) rfl (by decide) hk rfl) hK
theorem l_reg_A {G : Gt} {k : Nat} (hk : k < 4) (K : Int32 → Sh → Gt → Prop) (hK : K (G 33 k) shA G) : w_L_register_A K (nI k) G := by
  unfold w_L_register_A w_X10_register_A
  rw [rat_n hk (by decide)]
  exact pif_n (ibl_y (n := 4) rfl (by decide) hk rfl) hK
theorem l_tr_A {G : Gt} {p c : Nat} (hc : c ≤ 13) (hp : p < c) (e : G 40 3 = nI c) (K : Int32 → Sh → Gt → Prop) (hK : K (G 42 p) shA G) : w_L_traceAt_A K (nI p) G := by
  unfold w_L_traceAt_A w_X10_traceAt_A
  rw [rat_n (by omega) (by decide)]
  exact pif_n (ibl_y (n := c) e (by omega) hp rfl) hK
theorem l_trx_A {G : Gt} {c : Nat} {x : Int32} (hc : c ≤ 13) (e : G 40 3 = nI c) (hx : x = nI c ∨ x = -1) (K : Int32 → Sh → Gt → Prop) (hK : K (-1000001) shA G) : w_L_traceAt_A K x G := by
  unfold w_L_traceAt_A w_X10_traceAt_A
  refine pif_p (ibl_o (n := c) e (by omega) (fun i hi q => ?_)) ⟨rfl, hK⟩
  rcases hx with hx | hx
  · have := (nI_eq (by omega) (by omega)).mp (hx.symm.trans q)
    omega
  · exact nI_neg (by omega) (q.symm.trans hx)
theorem l_siz_A {N m : Nat} {G : Gt} (h1 : G 1 7 = nI N) (hN : N ≤ 120) (hm : m < N) (K : Int32 → Sh → Gt → Prop) (hK : K (G 9 m) shA G) : w_L_size_A K (nI m) G := by
  unfold w_L_size_A w_X10_size_A
  refine has_y h1 hN hm (pif_n (by decide) ?_)
  show K (rat G 9 120 (nI m)) shA G
  rw [rat_n (by omega) (by decide)]
  exact hK
theorem l_sizx_A {N : Nat} {G : Gt} (h1 : G 1 7 = nI N) (hN : N ≤ 120) (K : Int32 → Sh → Gt → Prop) (hK : K (-1000001) shA G) : w_L_size_A K (nI N) G := by
  unfold w_L_size_A w_X10_size_A
  exact has_n h1 hN (fun ⟨i, hi, q⟩ => by
    have := (nI_eq (by omega) (by omega)).mp q
    omega) (pif_p rfl ⟨rfl, hK⟩)
theorem l_len_B {G : Gt} {b : Nat} (hb : b < 2) (K : Int32 → Sh → Gt → Prop) (hK : K (G (20 + 5 * b) 2) shB G) : w_L_length_B K (nI b) G := by
  unfold w_L_length_B w_X10_length_B
  rw [txo_n hb]
  exact pif_n (ibl_y (n := 2) rfl (by decide) hb rfl) hK
theorem l_act_B {G : Gt} {b : Nat} (hb : b < 2) (K : Int32 → Sh → Gt → Prop) (hK : K (G (20 + 5 * b) 3) shB G) : w_L_activeCursor_B K (nI b) G := by
  unfold w_L_activeCursor_B w_X10_activeCursor_B
  rw [txo_n hb]
  exact pif_n (ibl_y (n := 2) rfl (by decide) hb rfl) hK
theorem l_cur_B {G : Gt} {b c : Nat} (hb : b < 2) (hc : c < 4) (K : Int32 → Sh → Gt → Prop) (hK : K (G (20 + 5 * b + 4) c) shB G) : w_L_cursor_B K (nI b) (nI c) G := by
  unfold w_L_cursor_B w_X10_cursor_B
  rw [txo_n hb, rat_n hc (by decide)]
  exact pif_n (ibl_y (n := 2) rfl (by decide) hb rfl) (pif_n (ibl_y (n := 4) rfl (by decide) hc rfl) hK)
theorem l_let_B {G : Gt} {b p l : Nat} (hb : b < 2) (hl : l ≤ 40) (hp : p < l) (e : G (20 + 5 * b) 2 = nI l) (K : Int32 → Sh → Gt → Prop) (hK : K (G (20 + 5 * b + 2) p) shB G) : w_L_letter_B K (nI b) (nI p) G := by
  unfold w_L_letter_B w_X10_letter_B
  rw [txo_n hb, rat_n (by omega) (by decide)]
  exact pif_n (ibl_y (n := 2) rfl (by decide) hb rfl) (pif_n (ibl_y (n := l) e (by omega) hp rfl) hK)
theorem l_letx_B {G : Gt} {b l : Nat} (hb : b < 2) (hl : l ≤ 40) (e : G (20 + 5 * b) 2 = nI l) (K : Int32 → Sh → Gt → Prop) (hK : K (-1000001) shB G) : w_L_letter_B K (nI b) (nI l) G := by
  unfold w_L_letter_B w_X10_letter_B w_X10_letter_B_j26
  rw [txo_n hb]
  exact pif_n (ibl_y (n := 2) rfl (by decide) hb rfl) (pif_p (ibl_o (n := l) e (by omega) (fun i hi q => by
    have := (nI_eq (by omega) (by omega)).mp q
    omega)) ⟨rfl, hK⟩)
theorem l_opt_B {G : Gt} {k : Nat} (hk : k < 4) (K : Int32 → Sh → Gt → Prop) (hK : K (G 31 k) shB G) : w_L_option_B K (nI k) G := by
  unfold w_L_option_B w_X10_option_B
  rw [rat_n hk (by decide)]
  exact pif_n (ibl_y (n := 4) rfl (by decide) hk rfl) hK
theorem l_bod_B {G : Gt} {k : Nat} (hk : k < 6) (K : Int32 → Sh → Gt → Prop) (hK : K (G 35 k) shB G) : w_L_body_B K (nI k) G := by
  unfold w_L_body_B w_X10_body_B
  rw [rat_n hk (by decide)]
  exact pif_n (ibl_y (n := 6) rfl (by decide) hk rfl) hK
theorem l_reg_B {G : Gt} {k : Nat} (hk : k < 4) (K : Int32 → Sh → Gt → Prop) (hK : K (G 33 k) shB G) : w_L_register_B K (nI k) G := by
  unfold w_L_register_B w_X10_register_B
  rw [rat_n hk (by decide)]
  exact pif_n (ibl_y (n := 4) rfl (by decide) hk rfl) hK
theorem l_tr_B {G : Gt} {p c : Nat} (hc : c ≤ 13) (hp : p < c) (e : G 40 3 = nI c) (K : Int32 → Sh → Gt → Prop) (hK : K (G 42 p) shB G) : w_L_traceAt_B K (nI p) G := by
  unfold w_L_traceAt_B w_X10_traceAt_B
  rw [rat_n (by omega) (by decide)]
  exact pif_n (ibl_y (n := c) e (by omega) hp rfl) hK
theorem l_trx_B {G : Gt} {c : Nat} {x : Int32} (hc : c ≤ 13) (e : G 40 3 = nI c) (hx : x = nI c ∨ x = -1) (K : Int32 → Sh → Gt → Prop) (hK : K (-1000001) shB G) : w_L_traceAt_B K x G := by
  unfold w_L_traceAt_B w_X10_traceAt_B
  refine pif_p (ibl_o (n := c) e (by omega) (fun i hi q => ?_)) ⟨rfl, hK⟩
  rcases hx with hx | hx
  · have := (nI_eq (by omega) (by omega)).mp (hx.symm.trans q)
    omega
  · exact nI_neg (by omega) (q.symm.trans hx)
theorem l_siz_B {N m : Nat} {G : Gt} (h1 : G 1 7 = nI N) (hN : N ≤ 120) (hm : m < N) (K : Int32 → Sh → Gt → Prop) (hK : K (G 9 m) shB G) : w_L_size_B K (nI m) G := by
  unfold w_L_size_B w_X10_size_B
  refine has_y h1 hN hm (pif_n (by decide) ?_)
  show K (rat G 9 120 (nI m)) shB G
  rw [rat_n (by omega) (by decide)]
  exact hK
theorem l_sizx_B {N : Nat} {G : Gt} (h1 : G 1 7 = nI N) (hN : N ≤ 120) (K : Int32 → Sh → Gt → Prop) (hK : K (-1000001) shB G) : w_L_size_B K (nI N) G := by
  unfold w_L_size_B w_X10_size_B
  exact has_n h1 hN (fun ⟨i, hi, q⟩ => by
    have := (nI_eq (by omega) (by omega)).mp q
    omega) (pif_p rfl ⟨rfl, hK⟩)
