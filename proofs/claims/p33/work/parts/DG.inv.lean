/-! P33: small things of the law; what stands between its acts -/
theorem i_32 : ((2147483647 : Int32)).toBitVec.msb = false := by decide
theorem low_n {x : Int32} {n : Nat} (hn : 0 < n) (hn2 : n < 2 ^ 31) : ∃ i, i < n ∧ ∀ (K : Int32 → Gt → Prop) (G : Gt), K (nI i) G → w_L_low K x (nI n) G := by
  have hm : (x &&& 2147483647).toBitVec.msb = false := by
    rw [Int32.toBitVec_and, BitVec.msb_and, i_32, Bool.and_false]
  have h0 : ¬ (x &&& 2147483647) < 0 := by
    rw [Int32.lt_iff_toInt_lt]
    have e : (x &&& 2147483647).toInt = ((x &&& 2147483647).toBitVec.toNat : Int) := BitVec.toInt_eq_toNat_of_msb hm
    have z : (0 : Int32).toInt = 0 := by decide
    rw [e, z]
    omega
  obtain ⟨j, hj, e⟩ := nI_of h0
  have ed : nI j / nI n = nI (j / n) := by
    have hne : nI j ≠ Int32.minValue := by
      intro q
      have a : (nI j).toInt = (j : Int) := nI_toInt hj
      have b : Int32.minValue.toInt = -2147483648 := by decide
      rw [q, b] at a
      omega
    have hle : j / n ≤ j := Nat.div_le_self j n
    apply Int32.toInt_inj.mp
    rw [Int32.toInt_div_of_ne_left _ _ hne, nI_toInt hj, nI_toInt hn2, nI_toInt (by omega)]
    exact (Int.ofNat_tdiv j n).symm
  refine ⟨j % n, Nat.mod_lt _ hn, fun K G hk => ?_⟩
  unfold w_L_low
  refine ⟨fun q => ?_, ?_⟩
  · have := (nI_eq (b := 0) hn2 (by decide)).mp q
    omega
  · rw [e, ed, nI_mulx, nI_sub (Nat.div_mul_le_self j n), Nat.mul_comm, ← Nat.mod_eq_sub_mul_div]
    exact hk
theorem isO_y {o : Int32} (h : isO o) (K : Int32 → Gt → Prop) (G : Gt) (hK : K 1 G) : w_L_isOutcome K o G := by
  have a0 : (-9999 : Int32).toInt = -9999 := by decide
  have a1 : (9999 : Int32).toInt = 9999 := by decide
  have a2 : (20000 : Int32).toInt = 20000 := by decide
  have a3 : (20600 : Int32).toInt = 20600 := by decide
  have a4 : (30000 : Int32).toInt = 30000 := by decide
  have a5 : (30600 : Int32).toInt = 30600 := by decide
  have a6 : (40001 : Int32).toInt = 40001 := by decide
  have a7 : (60000 : Int32).toInt = 60000 := by decide
  unfold w_L_isOutcome w_L_isOutcome_j14 w_L_isOutcome_j28 w_L_isOutcome_j42 w_L_isOutcome_j54 w_L_isOutcome_j59
  have fin : bz 1 ∧ K 1 G := ⟨bz_1, hK⟩
  rcases h with (⟨h1, h2⟩ | ⟨j, hj, rfl⟩ | ⟨j, hj, rfl⟩) | ⟨h1, h2⟩
  · exact pif_n (le_not_lt h1) (pif_p h2 fin)
  · have e : (nI (20000 + j)).toInt = ((20000 + j : Nat) : Int) := nI_toInt (by omega)
    refine pif_n (fun q => ?_) (pif_n (fun q => ?_) (pif_n (fun q => ?_) (pif_p ?_ fin)))
    · rw [Int32.lt_iff_toInt_lt] at q; omega
    · rw [Int32.le_iff_toInt_le] at q; omega
    · rw [Int32.lt_iff_toInt_lt] at q; omega
    · rw [Int32.lt_iff_toInt_lt]; omega
  · have e : (nI (30000 + j)).toInt = ((30000 + j : Nat) : Int) := nI_toInt (by omega)
    refine pif_n (fun q => ?_) (pif_n (fun q => ?_) (pif_n (fun q => ?_) (pif_n (fun q => ?_) (pif_n (fun q => ?_) (pif_p ?_ fin)))))
    · rw [Int32.lt_iff_toInt_lt] at q; omega
    · rw [Int32.le_iff_toInt_le] at q; omega
    · rw [Int32.lt_iff_toInt_lt] at q; omega
    · rw [Int32.lt_iff_toInt_lt] at q; omega
    · rw [Int32.lt_iff_toInt_lt] at q; omega
    · rw [Int32.lt_iff_toInt_lt]; omega
  · rw [Int32.le_iff_toInt_le] at h1
    rw [Int32.lt_iff_toInt_lt] at h2
    refine pif_n (fun q => ?_) (pif_n (fun q => ?_) (pif_n (fun q => ?_) (pif_n (fun q => ?_) (pif_n (fun q => ?_) (pif_n (fun q => ?_) (pif_n (fun q => ?_) (pif_n (fun q => ?_) fin)))))))
    · rw [Int32.lt_iff_toInt_lt] at q; omega
    · rw [Int32.le_iff_toInt_le] at q; omega
    · rw [Int32.lt_iff_toInt_lt] at q; omega
    · rw [Int32.lt_iff_toInt_lt] at q; omega
    · rw [Int32.lt_iff_toInt_lt] at q; omega
    · rw [Int32.lt_iff_toInt_lt] at q; omega
    · rw [Int32.lt_iff_toInt_lt] at q; omega
    · rw [Int32.le_iff_toInt_le] at q; omega
/-- what stands between two acts of the law -/
def INV (N B : Nat) (R G : Gt) : Prop := Jn N R G ∧ N ≤ 58 ∧ (∀ m, m < N → G 46 m = G 9 m) ∧ G 47 1 = nI 300 ∧ G 0 4 = nI B ∧ TD N G ∧ ∀ m, m < 120 → G 11 m = 0
theorem INV_k {N B : Nat} {R G G' : Gt} (h : INV N B R G) (e : keq G G') (e46 : G' 46 = G 46) (e47 : G' 47 = G 47) : INV N B R G' := by
  obtain ⟨h1, h2, h3, h4, h5, ⟨t0, t2, t3, t4, t5, t6⟩, h7⟩ := h
  have k9 : ∀ k j, pl9 k j → G' k j = G k j := fun k j q => e k j (Or.inl (Or.inl q))
  have k40 : ∀ j, G' 40 j = G 40 j := fun j => k9 40 j (by unfold pl9; omega)
  refine ⟨Jn_keq h1 e, h2, fun m hm => ?_, ?_, ?_, ⟨?_, ?_, ?_, ?_, ?_, ?_⟩, fun m hm => ?_⟩
  · rw [e46, k9 9 m (by unfold pl9; omega)]; exact h3 m hm
  · rw [e47]; exact h4
  · rw [k9 0 4 (by unfold pl9; omega)]; exact h5
  · rw [e47]; exact t0
  · rw [e47, k40]; exact t2
  · rw [e47, k40]; exact t3
  · rw [e47, k40]; exact t4
  · rw [e47, k40]; exact t5
  · refine tvC_eq t6 (fun k j q => k9 k j ?_)
    rcases q with rfl | rfl <;> (unfold pl9; omega)
  · rw [k9 11 m (by unfold pl9; omega)]; exact h7 m hm
theorem SM_k {G G' : Gt} (h : SM G) (e : keq G G') (e48 : G' 48 = G 48) (e49 : G' 49 = G 49) : SM G' := SM_eq h (fun k j q => e k j (Or.inl (Or.inr q))) e48 e49
theorem J83 {N : Nat} {v : Int32} {C R : Gt} (h : jA N (mxw (gu C 83 0 v) R)) : Jn N R C := jA_eq h (fun k j q => by
  cases hk : isR k
  · rw [mx_C hk, mx_C hk, gu_oo _ (fun e => q (by unfold jfr; omega))]
  · rw [mx_R hk, mx_R hk])
/-! the budget -/
theorem l_bud {G : Gt} {b : Nat} (h1 : 1 ≤ b) (h2 : b ≤ 600) (K : Int32 → Sh → Gt → Prop) (hK : K (G 0 4) shB (gu G 0 4 (nI b))) : w_L_setBudget_B K (nI b) G := by
  unfold w_L_setBudget_B w_X10_setBudget_B
  exact pif_n (iam_y ⟨(nI_leR (a := 1) rfl (by omega) (by omega)).mpr h1, (nI_leL (a := 600) rfl (by omega) (by omega)).mpr h2⟩) (pt_of hK)
theorem l_budx {G : Gt} {x : Int32} (h : ¬ (1 ≤ x ∧ x ≤ 600)) (K : Int32 → Sh → Gt → Prop) (hK : K (-1000002) shB G) : w_L_setBudget_B K x G := by
  unfold w_L_setBudget_B w_X10_setBudget_B
  exact pif_p (iam_n h) ⟨rfl, hK⟩
theorem INV_bud {N B b : Nat} {R G : Gt} (h : INV N B R G) (h1 : 1 ≤ b) (h2 : b ≤ 600) : INV N b (gu R 46 13 (nI b)) (gu G 0 4 (nI b)) := by
  obtain ⟨hJ, i2, i3, i4, i5, ⟨t0, t2, t3, t4, t5, t6⟩, i7⟩ := h
  have e : ∀ k j, ¬ (k = 0 ∧ j = 4) → (gu G 0 4 (nI b)) k j = G k j := fun k j q => gu_n q
  refine ⟨?_, i2, fun m hm => ?_, ?_, gu_kk _ _ _ _, ⟨?_, ?_, ?_, ?_, ?_, ?_⟩, fun m hm => ?_⟩
  · unfold Jn at hJ ⊢
    have ex : mxw (gu G 0 4 (nI b)) (gu R 46 13 (nI b)) = gu (gu (mxw G R) 0 4 (nI b)) 46 13 (nI b) := by rw [mxw_gC (k := 0) rfl, mxw_gR (k := 46) rfl]
    rw [ex]
    refine jA_cg hJ (Nat.le_refl _) (gP_eq hJ.1 (fun k j c => by rw [gu_n (by omega), gu_n (by omega)])) ⟨?_, b, h1, h2, gu_kk _ _ _ _⟩ (fun k j c => ?_) ?_
    · rw [gu_n (by omega), gu_kk, gu_kk]
    · unfold frz at c
      rw [gu_n (by omega), gu_n (by omega)]
    · rw [gu_n (by omega), gu_n (by omega)]
      exact hJ.2.2.2.2.2.2.2.2.2
  · rw [e 46 m (by omega), e 9 m (by omega)]; exact i3 m hm
  · rw [e 47 1 (by omega)]; exact i4
  · rw [e 47 0 (by omega)]; exact t0
  · rw [e 47 2 (by omega), e 40 0 (by omega)]; exact t2
  · rw [e 47 3 (by omega), e 40 1 (by omega)]; exact t3
  · rw [e 47 4 (by omega), e 40 2 (by omega)]; exact t4
  · rw [e 47 5 (by omega), e 40 3 (by omega)]; exact t5
  · exact tvC_eq t6 (fun k j q => e k j (by omega))
  · rw [e 11 m (by omega)]; exact i7 m hm
theorem rl_bud {R : Gt} {v : Int32} : rl R (gu R 46 13 v) := fun k j a b => gu_n (by omega)
/-! slots, options, letters: what they change -/
theorem INV_c {N B : Nat} {R R' G G' : Gt} (h : INV N B R G) (hJ : Jn N R' G') (e : ∀ k j, (k = 9 ∨ k = 11 ∨ k = 40 ∨ k = 42 ∨ k = 46 ∨ k = 47 ∨ (k = 0 ∧ j = 4)) → G' k j = G k j) : INV N B R' G' := by
  obtain ⟨h1, h2, h3, h4, h5, ⟨t0, t2, t3, t4, t5, t6⟩, h7⟩ := h
  refine ⟨hJ, h2, fun m hm => ?_, ?_, ?_, ⟨?_, ?_, ?_, ?_, ?_, ?_⟩, fun m hm => ?_⟩
  · rw [e 46 m (by omega), e 9 m (by omega)]; exact h3 m hm
  · rw [e 47 1 (by omega)]; exact h4
  · rw [e 0 4 (by omega)]; exact h5
  · rw [e 47 0 (by omega)]; exact t0
  · rw [e 47 2 (by omega), e 40 0 (by omega)]; exact t2
  · rw [e 47 3 (by omega), e 40 1 (by omega)]; exact t3
  · rw [e 47 4 (by omega), e 40 2 (by omega)]; exact t4
  · rw [e 47 5 (by omega), e 40 3 (by omega)]; exact t5
  · exact tvC_eq t6 (fun k j q => e k j (by omega))
  · rw [e 11 m (by omega)]; exact h7 m hm
theorem Jn_op {N i : Nat} {y : Int32} {R G : Gt} (h : Jn N R G) (hi : i < 4) (hy : isnum y) : Jn N (gu (gu R 46 71 0) 56 i y) (gu G 31 i y) := by
  have := jA_op (v := 0) (t := 0) h hi hy
  rw [mxw_gC (k := 31) rfl, mxw_gC (k := 83) rfl, mxw_gR (k := 46) rfl, mxw_gR (k := 56) rfl] at this
  exact J83 this
theorem Jn_df {N i a b : Nat} {v : Int32} {R G : Gt} (h : Jn N R G) (hi : i < 6) (ha : a < 3) (hb : b < N) (ev : v = -1 ∨ ∃ d, d < N ∧ v = nI d) : ∃ R', Jn N R' (gu (gu (gu G 35 i (nI b)) 37 i (nI a)) 39 i v) := by
  have := jA_df (x := 0) (t := 0) h hi ha hb rfl rfl ev
  rw [mxw_gC (k := 35) rfl, mxw_gC (k := 37) rfl, mxw_gC (k := 39) rfl, mxw_gC (k := 83) rfl, mxw_gR (k := 46) rfl, mxw_gR (k := 53) rfl, mxw_gR (k := 54) rfl, mxw_gR (k := 55) rfl] at this
  exact ⟨_, J83 this⟩
theorem Jn_wr {N l j b : Nat} {R G : Gt} (h : Jn N R G) (hb : b < 2) (hl : l < 40) (h2 : G (20 + 5 * b) 2 = nI l) (hj : j < 26) : ∃ R', Jn N R' (gu (gu G (20 + 5 * b + 2) l (nI j)) (20 + 5 * b) 2 (nI (l + 1))) := by
  have : b = 0 ∨ b = 1 := by omega
  rcases this with rfl | rfl
  · have := jA_w0 (v := 0) h hl ((mx_C rfl).trans h2) hj rfl
    rw [mxw_gC (k := 22) rfl, mxw_gC (k := 20) rfl, mxw_gC (k := 83) rfl, mxw_gR (k := 46) rfl, mxw_gR (k := 58) rfl, mxw_gR (k := 59) rfl] at this
    exact ⟨_, J83 this⟩
  · have := jA_w1 (v := 0) h hl ((mx_C rfl).trans h2) hj rfl
    rw [mxw_gC (k := 27) rfl, mxw_gC (k := 25) rfl, mxw_gC (k := 83) rfl, mxw_gR (k := 46) rfl, mxw_gR (k := 58) rfl, mxw_gR (k := 59) rfl] at this
    exact ⟨_, J83 this⟩
theorem l_sop_A {G : Gt} {i : Nat} {y : Int32} (hi : i < 4) (hy : isnum y) (K : Int32 → Sh → Gt → Prop) (hK : K (G 31 i) shA (gu G 31 i y)) : w_L_setOption_A K (nI i) y G := by
  unfold w_L_setOption_A w_X10_setOption_A
  refine pif_n (ibl_y (n := 4) rfl (by decide) hi rfl) (pif_n (inm_y hy) (step_A (pif_p rfl ?_)))
  show pt (rput G 31 4 (nI i) y) fun G3 => K (rat G 31 4 (nI i)) shA G3
  rw [rput_n hi (by decide), rat_n hi (by decide)]
  exact pt_of hK
theorem l_def_A {N : Nat} {G : Gt} {i a b : Nat} {v : Int32} (h1 : G 1 7 = nI N) (hN : N ≤ 120) (hi : i < 6) (ha : a < 3) (hb : b < N) (hv : v = -1 ∨ (a = 2 ∧ ∃ d, d < N ∧ v = nI d)) (K : Int32 → Sh → Gt → Prop) (hK : K (G 35 i) shA (gu (gu (gu G 35 i (nI b)) 37 i (nI a)) 39 i v)) : w_L_define_A K (nI i) (nI a) (nI b) v G := by
  unfold w_L_define_A w_X10_define_A w_X10_define_A_j48 w_X10_define_A_j77
  have fin : w_X10_isStepped_A (fun v4 G3 => pif (v4 = 0) (pt (rput G3 35 6 (nI i) (nI b)) fun G5 => pt (rput G5 37 6 (nI i) (nI a)) fun G6 => pt (rput G6 39 6 (nI i) v) fun G7 => K (rat G3 35 6 (nI i)) shA G7) ((2 = 0 ∧ K (-1000001) shA G3) ∨ (2 = 1 ∧ K (-1000002) shA G3) ∨ (2 = 2 ∧ K (-1000003) shA G3))) G := by
    refine step_A (pif_p rfl ?_)
    rw [rput_n hi (by decide), rat_n hi (by decide)]
    refine pt_of ?_
    rw [rput_n hi (by decide)]
    refine pt_of ?_
    rw [rput_n hi (by decide)]
    exact pt_of hK
  refine pif_n (ibl_y (n := 6) rfl (by decide) hi rfl) (has_y h1 hN hb (pif_n (by decide) ?_))
  rcases hv with rfl | ⟨rfl, d, hd, rfl⟩
  · exact pif_p rfl (pif_n (ibl_y (n := 3) rfl (by decide) ha rfl) (pif_p rfl fin))
  · exact pif_n (nI_neg (by omega)) (has_y h1 hN hd (pif_n (by decide) (pif_n (ibl_y (n := 3) rfl (by decide) ha rfl) (pif_n (nI_neg (by omega)) (pif_p rfl fin)))))
theorem l_defx_A {N : Nat} {G : Gt} (h1 : G 1 7 = nI N) (hN : N ≤ 120) (h0 : 0 < N) (K : Int32 → Sh → Gt → Prop) : (K (-1000001) shA G → w_L_define_A K 6 0 0 (-1) G) ∧ (K (-1000002) shA G → w_L_define_A K 0 1 0 0 G) ∧ (K (-1000002) shA G → w_L_define_A K 0 3 0 (-1) G) := by
  unfold w_L_define_A w_X10_define_A w_X10_define_A_j38 w_X10_define_A_j48 w_X10_define_A_j67
  refine ⟨fun hK => pif_p (by decide) (Or.inl ⟨rfl, hK⟩), fun hK => pif_n (by decide) (has_y (i := 0) h1 hN h0 (pif_n (by decide) (pif_n (by decide) (has_y (i := 0) h1 hN h0 (pif_n (by decide) (pif_n (by decide) (pif_n (by decide) (pif_n (by decide) (Or.inr (Or.inl ⟨rfl, hK⟩)))))))))), fun hK => pif_n (by decide) (has_y (i := 0) h1 hN h0 (pif_n (by decide) (pif_p rfl (pif_p (by decide) (Or.inr (Or.inl ⟨rfl, hK⟩))))))⟩
theorem l_wr_A {G : Gt} {b l j : Nat} (hb : b < 2) (hl : l < 40) (hj : j < 26) (e : G (20 + 5 * b) 2 = nI l) (K : Int32 → Sh → Gt → Prop) (hK : K (nI (l + 1)) shA (gu (gu G (20 + 5 * b + 2) l (nI j)) (20 + 5 * b) 2 (nI (l + 1)))) : w_L_write_A K (nI b) (nI j) G := by
  unfold w_L_write_A w_X10_write_A w_X8_append
  rw [txo_n hb, e]
  refine pif_n (ibl_y (n := 2) rfl (by decide) hb rfl) (pif_n (ibl_y (n := 26) rfl (by decide) hj rfl) (pif_n (nI_ge (b := 40) (by omega) (by decide)) (step_A (pif_p rfl ?_))))
  rw [e, rput_n hl (by decide)]
  refine pt_of ?_
  have e1 : (gu G (20 + 5 * b + 2) l (nI j)) (20 + 5 * b) 2 = nI l := by
    rw [gu_oo _ (by omega)]; exact e
  rw [e1, nI_1]
  refine pt_of ?_
  show K ((gu (gu G (20 + 5 * b + 2) l (nI j)) (20 + 5 * b) 2 (nI (l + 1))) (20 + 5 * b) 2) shA (gu (gu G (20 + 5 * b + 2) l (nI j)) (20 + 5 * b) 2 (nI (l + 1)))
  rw [gu_kk]
  exact hK
theorem l_wrf_A {G : Gt} {b j : Nat} (hb : b < 2) (hj : j < 26) (e : G (20 + 5 * b) 2 = nI 40) (K : Int32 → Sh → Gt → Prop) (hK : K (-1000003) shA G) : w_L_write_A K (nI b) (nI j) G := by
  unfold w_L_write_A w_X10_write_A w_X10_write_A_j62
  rw [txo_n hb, e]
  exact pif_n (ibl_y (n := 2) rfl (by decide) hb rfl) (pif_n (ibl_y (n := 26) rfl (by decide) hj rfl) (pif_p (by decide) (Or.inr (Or.inr ⟨rfl, hK⟩))))
theorem l_wrx_A {G : Gt} (K : Int32 → Sh → Gt → Prop) : (K (-1000001) shA G → w_L_write_A K 2 0 G) ∧ (K (-1000002) shA G → w_L_write_A K 0 26 G) := by
  unfold w_L_write_A w_X10_write_A
  exact ⟨fun hK => pif_p (by decide) (Or.inl ⟨rfl, hK⟩), fun hK => pif_n (by decide) (pif_p (by decide) (Or.inr (Or.inl ⟨rfl, hK⟩)))⟩
theorem l_sop_B {G : Gt} {i : Nat} {y : Int32} (h7 : G 84 7 = 0) (hi : i < 4) (hy : isnum y) (K : Int32 → Sh → Gt → Prop) (hK : K (G 31 i) shB (gu G 31 i y)) : w_L_setOption_B K (nI i) y G := by
  unfold w_L_setOption_B w_X10_setOption_B
  refine pif_n (ibl_y (n := 4) rfl (by decide) hi rfl) (pif_n (inm_y hy) (step_By h7 (pif_p rfl ?_)))
  show pt (rput G 31 4 (nI i) y) fun G3 => K (rat G 31 4 (nI i)) shB G3
  rw [rput_n hi (by decide), rat_n hi (by decide)]
  exact pt_of hK
theorem l_def_B {N : Nat} {G : Gt} {i a b : Nat} {v : Int32} (h1 : G 1 7 = nI N) (hN : N ≤ 120) (h7 : G 84 7 = 0) (hi : i < 6) (ha : a < 3) (hb : b < N) (hv : v = -1 ∨ (a = 2 ∧ ∃ d, d < N ∧ v = nI d)) (K : Int32 → Sh → Gt → Prop) (hK : K (G 35 i) shB (gu (gu (gu G 35 i (nI b)) 37 i (nI a)) 39 i v)) : w_L_define_B K (nI i) (nI a) (nI b) v G := by
  unfold w_L_define_B w_X10_define_B w_X10_define_B_j48 w_X10_define_B_j77
  have fin : w_X10_isStepped_B (fun v4 G3 => pif (v4 = 0) (pt (rput G3 35 6 (nI i) (nI b)) fun G5 => pt (rput G5 37 6 (nI i) (nI a)) fun G6 => pt (rput G6 39 6 (nI i) v) fun G7 => K (rat G3 35 6 (nI i)) shB G7) ((2 = 0 ∧ K (-1000001) shB G3) ∨ (2 = 1 ∧ K (-1000002) shB G3) ∨ (2 = 2 ∧ K (-1000003) shB G3))) G := by
    refine step_By h7 (pif_p rfl ?_)
    rw [rput_n hi (by decide), rat_n hi (by decide)]
    refine pt_of ?_
    rw [rput_n hi (by decide)]
    refine pt_of ?_
    rw [rput_n hi (by decide)]
    exact pt_of hK
  refine pif_n (ibl_y (n := 6) rfl (by decide) hi rfl) (has_y h1 hN hb (pif_n (by decide) ?_))
  rcases hv with rfl | ⟨rfl, d, hd, rfl⟩
  · exact pif_p rfl (pif_n (ibl_y (n := 3) rfl (by decide) ha rfl) (pif_p rfl fin))
  · exact pif_n (nI_neg (by omega)) (has_y h1 hN hd (pif_n (by decide) (pif_n (ibl_y (n := 3) rfl (by decide) ha rfl) (pif_n (nI_neg (by omega)) (pif_p rfl fin)))))
theorem l_defx_B {N : Nat} {G : Gt} (h1 : G 1 7 = nI N) (hN : N ≤ 120) (h0 : 0 < N) (K : Int32 → Sh → Gt → Prop) : (K (-1000001) shB G → w_L_define_B K 6 0 0 (-1) G) ∧ (K (-1000002) shB G → w_L_define_B K 0 1 0 0 G) ∧ (K (-1000002) shB G → w_L_define_B K 0 3 0 (-1) G) := by
  unfold w_L_define_B w_X10_define_B w_X10_define_B_j38 w_X10_define_B_j48 w_X10_define_B_j67
  refine ⟨fun hK => pif_p (by decide) (Or.inl ⟨rfl, hK⟩), fun hK => pif_n (by decide) (has_y (i := 0) h1 hN h0 (pif_n (by decide) (pif_n (by decide) (has_y (i := 0) h1 hN h0 (pif_n (by decide) (pif_n (by decide) (pif_n (by decide) (pif_n (by decide) (Or.inr (Or.inl ⟨rfl, hK⟩)))))))))), fun hK => pif_n (by decide) (has_y (i := 0) h1 hN h0 (pif_n (by decide) (pif_p rfl (pif_p (by decide) (Or.inr (Or.inl ⟨rfl, hK⟩))))))⟩
theorem l_wr_B {G : Gt} {b l j : Nat} (h7 : G 84 7 = 0) (hb : b < 2) (hl : l < 40) (hj : j < 26) (e : G (20 + 5 * b) 2 = nI l) (K : Int32 → Sh → Gt → Prop) (hK : K (nI (l + 1)) shB (gu (gu G (20 + 5 * b + 2) l (nI j)) (20 + 5 * b) 2 (nI (l + 1)))) : w_L_write_B K (nI b) (nI j) G := by
  unfold w_L_write_B w_X10_write_B w_X8_append
  rw [txo_n hb, e]
  refine pif_n (ibl_y (n := 2) rfl (by decide) hb rfl) (pif_n (ibl_y (n := 26) rfl (by decide) hj rfl) (pif_n (nI_ge (b := 40) (by omega) (by decide)) (step_By h7 (pif_p rfl ?_))))
  rw [e, rput_n hl (by decide)]
  refine pt_of ?_
  have e1 : (gu G (20 + 5 * b + 2) l (nI j)) (20 + 5 * b) 2 = nI l := by
    rw [gu_oo _ (by omega)]; exact e
  rw [e1, nI_1]
  refine pt_of ?_
  show K ((gu (gu G (20 + 5 * b + 2) l (nI j)) (20 + 5 * b) 2 (nI (l + 1))) (20 + 5 * b) 2) shB (gu (gu G (20 + 5 * b + 2) l (nI j)) (20 + 5 * b) 2 (nI (l + 1)))
  rw [gu_kk]
  exact hK
theorem l_wrf_B {G : Gt} {b j : Nat} (hb : b < 2) (hj : j < 26) (e : G (20 + 5 * b) 2 = nI 40) (K : Int32 → Sh → Gt → Prop) (hK : K (-1000003) shB G) : w_L_write_B K (nI b) (nI j) G := by
  unfold w_L_write_B w_X10_write_B w_X10_write_B_j62
  rw [txo_n hb, e]
  exact pif_n (ibl_y (n := 2) rfl (by decide) hb rfl) (pif_n (ibl_y (n := 26) rfl (by decide) hj rfl) (pif_p (by decide) (Or.inr (Or.inr ⟨rfl, hK⟩))))
theorem l_wrx_B {G : Gt} (K : Int32 → Sh → Gt → Prop) : (K (-1000001) shB G → w_L_write_B K 2 0 G) ∧ (K (-1000002) shB G → w_L_write_B K 0 26 G) := by
  unfold w_L_write_B w_X10_write_B
  exact ⟨fun hK => pif_p (by decide) (Or.inl ⟨rfl, hK⟩), fun hK => pif_n (by decide) (pif_p (by decide) (Or.inr (Or.inl ⟨rfl, hK⟩)))⟩
