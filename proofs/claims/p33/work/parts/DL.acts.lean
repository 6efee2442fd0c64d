/-! P33: acts -/
def IAx (G : Gt) : Prop := ∃ N R, INV N 300 R G
theorem INV_6 {N B : Nat} {R G : Gt} {v : Int32} (h : INV N B R G) : INV N B R (gu G 47 6 v) := by
  have e : ∀ k j, ¬ (k = 47 ∧ j = 6) → (gu G 47 6 v) k j = G k j := fun k j q => gu_n q
  obtain ⟨h1, h2, h3, h4, h5, ⟨t0, t2, t3, t4, t5, t6⟩, h7⟩ := h
  refine ⟨Jn_keq h1 (fun k j q => e k j (by have := kC_b q; omega)), h2, fun m hm => ?_, ?_, ?_, ⟨?_, ?_, ?_, ?_, ?_, ?_⟩, fun m hm => ?_⟩
  · rw [e 46 m (by omega), e 9 m (by omega)]; exact h3 m hm
  · rw [e 47 1 (by omega)]; exact h4
  · rw [e 0 4 (by omega)]; exact h5
  · rw [e 47 0 (by omega)]; exact t0
  · rw [e 47 2 (by omega), e 40 0 (by omega)]; exact t2
  · rw [e 47 3 (by omega), e 40 1 (by omega)]; exact t3
  · rw [e 47 4 (by omega), e 40 2 (by omega)]; exact t4
  · rw [e 47 5 (by omega), e 40 3 (by omega)]; exact t5
  · exact tvC_eq t6 (fun k j q => e k j (by omega))
  · rw [e 11 m (by omega)]; exact h7 m hm
theorem j277_A {N i a b m : Nat} {v : Int32} {K : Sh → Gt → Prop} {R G : Gt} (hI : INV N 300 R G) (hi : i < 3) (ha : a < 3) (hb : b < N) (hv : v = -1 ∨ (a = 2 ∧ ∃ d, d < N ∧ v = nI d)) (hS : ∀ N' R' G', INV N' 300 R' G' →  K shA G') : w_L_acts_A_j277 K (nI i) (nI b) (G 35 i) (nI i) (nI a) (nI b) v G := by
  obtain ⟨hN, h1, _, _⟩ := Jn_n hI.1
  have hv' : v = -1 ∨ ∃ d, d < N ∧ v = nI d := hv.imp id (fun q => q.2)
  obtain ⟨R', hJ'⟩ := Jn_df hI.1 (i := i) (a := a) (b := b) (v := v) (by omega) ha hb hv'
  have e : ∀ p j, ¬ (p = 35 ∨ p = 37 ∨ p = 39) → (gu (gu (gu G 35 i (nI b)) 37 i (nI a)) 39 i v) p j = G p j := fun p j q => by
    rw [gu_n (by omega), gu_n (by omega), gu_n (by omega)]
  have hI' := INV_c hI hJ' (fun p j q => e p j (by omega))
  have e35 : (gu (gu (gu G 35 i (nI b)) 37 i (nI a)) 39 i v) 35 i = nI b := by rw [gu_n (by omega), gu_n (by omega), gu_kk]
  have g1 : (gu (gu (gu G 35 i (nI b)) 37 i (nI a)) 39 i v) 1 7 = nI N := (e 1 7 (by omega)).trans h1
  unfold w_L_acts_A_j277
  refine l_def_A h1 hN (by omega) ha hb hv _ ⟨rfl, pif_p rfl (l_bod_A (by omega) _ ⟨rfl, pif_p e35 ?_⟩)⟩
  refine (l_defx_A g1 hN (by omega) _).1 ⟨rfl, pif_p rfl ?_⟩
  refine (l_defx_A g1 hN (by omega) _).2.1 ⟨rfl, pif_p rfl ?_⟩
  refine (l_defx_A g1 hN (by omega) _).2.2 ⟨rfl, pif_p rfl ?_⟩
  exact hS _ _ _ hI'
theorem j479_A {N : Nat} {K : Sh → Gt → Prop} {R G : Gt} (hI : INV N 300 R G) (hS : ∀ N' R' G', INV N' 300 R' G' →  K shA G') : w_L_acts_A_j479 K G := by
  unfold w_L_acts_A_j479
  exact (l_wrx_A _).1 ⟨rfl, pif_p rfl ((l_wrx_A _).2 ⟨rfl, pif_p rfl (hS _ _ _ hI)⟩)⟩
theorem j116_A {N m : Nat} {x y kd : Int32} {K : Sh → Gt → Prop} {R G : Gt} (hI : INV N 300 R G) (hm : m < N) (hS : ∀ N' R' G', INV N' 300 R' G' →  K shA G') (hB : ∀ G', IBx G' → K shB G') : w_L_acts_A_j116 K x y kd (nI m) G := by
  obtain ⟨hN, h1, _, _⟩ := Jn_n hI.1
  have t0 := hI.2.2.2.2.2.1.1
  unfold w_L_acts_A_j116
  refine ⟨fun _ => ⟨fun _ => budgets_A hI hm (fun G' h => ⟨rfl, hB G' h⟩), fun _ => ⟨fun _ => gives_A hI hm (fun G' h => ⟨rfl, hB G' h⟩), fun _ => ⟨fun _ => ?_, fun _ => ?_⟩⟩⟩, fun _ => ?_⟩
  · -- a slot
    obtain ⟨i, hi, li⟩ := low_n (x := y) (n := 3) (by decide) (by decide)
    obtain ⟨a, ha, la⟩ := low_n (x := y >>> (2 &&& 31)) (n := 3) (by decide) (by decide)
    obtain ⟨b, hb, lb⟩ := low_n (x := y >>> (4 &&& 31)) (n := N) (by omega) (by omega)
    obtain ⟨q, hq, lq⟩ := low_n (x := y >>> (5 &&& 31)) (n := 3) (by decide) (by decide)
    refine li _ _ (la _ _ ⟨by unfold vp_in; decide, ?_⟩)
    have t0' : G 47 (0 : Int32).toNatClampNeg = nI N := t0
    rw [t0']
    refine lb _ _ (l_bod_A (by omega) _ ⟨rfl, ⟨fun e2 => lq _ _ ⟨fun _ => ?_, fun _ => ?_⟩, fun _ => ?_⟩⟩)
    · have a2 : a = 2 := (nI_eq (b := 2) (by omega) (by decide)).mp e2
      exact j277_A (m := m) hI hi ha hb (Or.inr ⟨a2, m, hm, rfl⟩) hS
    · unfold w_L_acts_A_j272
      exact j277_A (m := m) hI hi ha hb (Or.inl rfl) hS
    · unfold w_L_acts_A_j276
      exact j277_A (m := m) hI hi ha hb (Or.inl rfl) hS
  · -- an option, a letter
    obtain ⟨b, hb, lb⟩ := low_n (x := y) (n := 2) (by decide) (by decide)
    obtain ⟨c, hc, lc⟩ := low_n (x := y >>> (1 &&& 31)) (n := 3) (by decide) (by decide)
    obtain ⟨v, hv, lv⟩ := low_n (x := y >>> (3 &&& 31)) (n := 99) (by decide) (by decide)
    obtain ⟨j, hj, lj⟩ := low_n (x := y >>> (3 &&& 31)) (n := 26) (by decide) (by decide)
    obtain ⟨l, cc, hl, _, e2, _, _, _, _⟩ := (Jn_w hI.1).1 b hb
    refine lb _ _ (l_len_A hb _ ⟨rfl, lc _ _ ⟨fun _ => ?_, fun _ => ?_⟩⟩)
    · have hy : isnum (nI v) := ⟨Int32.le_trans (show (-9999 : Int32) ≤ 0 by decide) (nI_pos' (n := v) (by omega)), (nI_leL (a := 9999) rfl (by omega) (by decide)).mpr (by omega)⟩
      have hI' := INV_c hI (Jn_op hI.1 (i := b) (by omega) hy) (fun p i q => gu_n (by omega))
      refine l_opt_A (by omega) _ ⟨rfl, lv _ _ (l_sop_A (by omega) hy _ ⟨rfl, pif_p rfl (l_opt_A (by omega) _ ⟨rfl, pif_p (gu_kk _ _ _ _) (hS _ _ _ hI')⟩)⟩)⟩
    · refine lj _ _ ?_
      rw [e2]
      by_cases h40 : l = 40
      · subst h40
        refine l_wrf_A hb hj e2 _ ⟨rfl, pif_p rfl ?_⟩
        unfold w_L_acts_A_j449
        exact pif_p rfl (pif_p rfl (j479_A hI hS))
      · obtain ⟨R', hJ'⟩ := Jn_wr hI.1 hb (by omega) e2 hj
        have hI' := INV_c hI hJ' (fun p i q => by rw [gu_n (by omega), gu_n (by omega)])
        have n40 : ¬ nI l = 40 := fun q => h40 ((nI_eq (b := 40) (by omega) (by decide)).mp q)
        refine l_wr_A hb (by omega) hj e2 _ ⟨rfl, pif_n n40 ?_⟩
        unfold w_L_acts_A_j445 w_L_acts_A_j449
        refine pif_p (nI_1 l).symm (pif_n n40 (l_let_A (l := l + 1) hb (by omega) (by omega) (gu_kk _ _ _ _) _ ⟨rfl, lj _ _ (pif_p ?_ (j479_A hI' hS))⟩))
        rw [gu_n (by omega), gu_kk]
  · -- a run
    obtain ⟨c, hc, lc⟩ := low_n (x := x >>> (4 &&& 31)) (n := 2) (by decide) (by decide)
    obtain ⟨v, hv, lv⟩ := low_n (x := x >>> (5 &&& 31)) (n := 9) (by decide) (by decide)
    have e1 : (1 : Int32) + nI v = nI (1 + v) := nI_add' rfl
    have go : ∀ x5, (x5 = 0 ∨ x5 = 1) → w_L_acts_A_j146 K x (nI m) x5 G := fun x5 h5 => by
      unfold w_L_acts_A_j146
      refine lv _ _ ?_
      rw [e1]
      exact runs_A hI hm h5 (by omega) (by omega) (fun G' h => ⟨rfl, hB G' h⟩)
    exact lc _ _ ⟨fun _ => go 1 (Or.inr rfl), fun _ => go 0 (Or.inl rfl)⟩
theorem j68_A {N n : Nat} {x y z kd : Int32} {K : Sh → Gt → Prop} {R G : Gt} (hI : INV N 300 R G) (hn1 : 1 ≤ n) (hn : n ≤ N) (hS : ∀ N' R' G', INV N' 300 R' G' →  K shA G') (hB : ∀ G', IBx G' → K shB G') : w_L_acts_A_j68 K x y kd (nI N - 1) z (nI n) G := by
  obtain ⟨hN, h1, _, _⟩ := Jn_n hI.1
  obtain ⟨i, hi, li⟩ := low_n (x := z) (n := n) (by omega) (by omega)
  obtain ⟨p, rfl⟩ : ∃ p, N = p + 1 := ⟨N - 1, by omega⟩
  have em : nI (p + 1) - 1 - nI i = nI (p - i) := by rw [nI_pred, nI_sub (by omega)]
  have j99 : ∀ v, w_L_acts_A_j99 K x y kd (nI (p - i)) 6 (G 47 (6 : Int32).toNatClampNeg) v G := by
    intro v
    unfold w_L_acts_A_j99
    have hI' : INV (p + 1) 300 R (gu G 47 6 (G 47 (6 : Int32).toNatClampNeg + v)) := INV_6 hI
    refine ⟨by unfold vp_in; decide, pt_of ⟨by unfold vp_in; decide, ⟨fun _ => j116_A hI' (by omega) hS hB, fun _ => told_A hN hI'.2.2.2.2.2.1 ⟨rfl, hS _ _ _ hI'⟩⟩⟩⟩
  unfold w_L_acts_A_j68 w_L_acts_A_j98
  refine li _ _ ?_
  rw [em]
  exact ⟨fun _ => j116_A hI (by omega) hS hB, fun _ => ⟨by unfold vp_in; decide, ⟨fun _ => j99 6, fun _ => j99 1⟩⟩⟩
theorem acts_A {N : Nat} {x y : Int32} {K : Sh → Gt → Prop} {R G : Gt} (hI : INV N 300 R G) (hS : ∀ N' R' G', INV N' 300 R' G' →  K shA G') (hB : ∀ G', IBx G' → K shB G') : w_L_acts_A K x y G := by
  obtain ⟨hN, h1, _, _⟩ := Jn_n hI.1
  have t0 := hI.2.2.2.2.2.1.1
  have t0' : G 47 (0 : Int32).toNatClampNeg = nI N := t0
  obtain ⟨i, hi, li⟩ := low_n (x := x) (n := 16) (by decide) (by decide)
  have mk : N < 58 → w_L_acts_A_j32 K x y G := fun q => by
    unfold w_L_acts_A_j32
    exact makes_A hI q (fun N' R' G' h  => ⟨rfl, hS N' R' G' h ⟩)
  have go : 6 ≤ N → ∀ kd, w_L_acts_A_j45 K x y kd G := fun q kd => by
    unfold w_L_acts_A_j45 w_L_acts_A_j66
    refine ⟨by unfold vp_in; decide, by unfold vp_in; decide, ?_⟩
    rw [t0']
    by_cases h12 : 12 ≤ N
    · exact pif_p ((nI_leR (a := 12) rfl (by omega) (by decide)).mpr h12) (j68_A (n := 12) hI (by decide) h12 hS hB)
    · exact pif_n (nI_ge (b := 12) (by omega) (by decide)) ⟨by unfold vp_in; decide, j68_A (n := N) hI (by omega) (Nat.le_refl _) hS hB⟩
  unfold w_L_acts_A
  refine li _ _ ⟨by unfold vp_in; decide, ?_⟩
  rw [t0']
  by_cases h6 : N < 6
  · exact pif_p (nI_ltx (b := 6) rfl h6 (by decide)) (mk (by omega))
  · refine pif_n (nI_nltx (b := 6) rfl (by omega) (by omega)) ⟨fun _ => go (by omega) _, fun _ => ⟨by unfold vp_in; decide, ?_⟩⟩
    by_cases h58 : 58 ≤ N
    · exact pif_p ((nI_leR (a := 58) rfl (by omega) (by decide)).mpr h58) (go (by omega) _)
    · exact pif_n (nI_ge (b := 58) (by omega) (by decide)) (mk (by omega))
theorem j277_B {N i a b m : Nat} {v : Int32} {K : Sh → Gt → Prop} {R G : Gt} (hI : INV N 300 R G) (h7 : G 84 7 = 0) (hi : i < 3) (ha : a < 3) (hb : b < N) (hv : v = -1 ∨ (a = 2 ∧ ∃ d, d < N ∧ v = nI d)) (hS : ∀ N' R' G', INV N' 300 R' G' → G' 84 7 = 0 → K shB G') : w_L_acts_B_j277 K (nI i) (nI b) (G 35 i) (nI i) (nI a) (nI b) v G := by
  obtain ⟨hN, h1, _, _⟩ := Jn_n hI.1
  have hv' : v = -1 ∨ ∃ d, d < N ∧ v = nI d := hv.imp id (fun q => q.2)
  obtain ⟨R', hJ'⟩ := Jn_df hI.1 (i := i) (a := a) (b := b) (v := v) (by omega) ha hb hv'
  have e : ∀ p j, ¬ (p = 35 ∨ p = 37 ∨ p = 39) → (gu (gu (gu G 35 i (nI b)) 37 i (nI a)) 39 i v) p j = G p j := fun p j q => by
    rw [gu_n (by omega), gu_n (by omega), gu_n (by omega)]
  have hI' := INV_c hI hJ' (fun p j q => e p j (by omega))
  have e35 : (gu (gu (gu G 35 i (nI b)) 37 i (nI a)) 39 i v) 35 i = nI b := by rw [gu_n (by omega), gu_n (by omega), gu_kk]
  have g1 : (gu (gu (gu G 35 i (nI b)) 37 i (nI a)) 39 i v) 1 7 = nI N := (e 1 7 (by omega)).trans h1
  unfold w_L_acts_B_j277
  refine l_def_B h1 hN h7 (by omega) ha hb hv _ ⟨rfl, pif_p rfl (l_bod_B (by omega) _ ⟨rfl, pif_p e35 ?_⟩)⟩
  refine (l_defx_B g1 hN (by omega) _).1 ⟨rfl, pif_p rfl ?_⟩
  refine (l_defx_B g1 hN (by omega) _).2.1 ⟨rfl, pif_p rfl ?_⟩
  refine (l_defx_B g1 hN (by omega) _).2.2 ⟨rfl, pif_p rfl ?_⟩
  exact hS _ _ _ hI' ((e 84 7 (by omega)).trans h7)
theorem j479_B {N : Nat} {K : Sh → Gt → Prop} {R G : Gt} (hI : INV N 300 R G) (h7 : G 84 7 = 0) (hS : ∀ N' R' G', INV N' 300 R' G' → G' 84 7 = 0 → K shB G') : w_L_acts_B_j479 K G := by
  unfold w_L_acts_B_j479
  exact (l_wrx_B _).1 ⟨rfl, pif_p rfl ((l_wrx_B _).2 ⟨rfl, pif_p rfl (hS _ _ _ hI h7)⟩)⟩
theorem j116_B {N m : Nat} {x y kd : Int32} {K : Sh → Gt → Prop} {R G : Gt} (hI : INV N 300 R G) (h7 : G 84 7 = 0) (hm : m < N) (hS : ∀ N' R' G', INV N' 300 R' G' → G' 84 7 = 0 → K shB G') (hB : ∀ G', IBx G' → K shB G') : w_L_acts_B_j116 K x y kd (nI m) G := by
  obtain ⟨hN, h1, _, _⟩ := Jn_n hI.1
  have t0 := hI.2.2.2.2.2.1.1
  unfold w_L_acts_B_j116
  refine ⟨fun _ => ⟨fun _ => budgets_B hI h7 hm (fun G' h => ⟨rfl, hB G' h⟩), fun _ => ⟨fun _ => gives_B hI h7 hm (fun G' h => ⟨rfl, hB G' h⟩), fun _ => ⟨fun _ => ?_, fun _ => ?_⟩⟩⟩, fun _ => ?_⟩
  · -- a slot
    obtain ⟨i, hi, li⟩ := low_n (x := y) (n := 3) (by decide) (by decide)
    obtain ⟨a, ha, la⟩ := low_n (x := y >>> (2 &&& 31)) (n := 3) (by decide) (by decide)
    obtain ⟨b, hb, lb⟩ := low_n (x := y >>> (4 &&& 31)) (n := N) (by omega) (by omega)
    obtain ⟨q, hq, lq⟩ := low_n (x := y >>> (5 &&& 31)) (n := 3) (by decide) (by decide)
    refine li _ _ (la _ _ ⟨by unfold vp_in; decide, ?_⟩)
    have t0' : G 47 (0 : Int32).toNatClampNeg = nI N := t0
    rw [t0']
    refine lb _ _ (l_bod_B (by omega) _ ⟨rfl, ⟨fun e2 => lq _ _ ⟨fun _ => ?_, fun _ => ?_⟩, fun _ => ?_⟩⟩)
    · have a2 : a = 2 := (nI_eq (b := 2) (by omega) (by decide)).mp e2
      exact j277_B (m := m) hI h7 hi ha hb (Or.inr ⟨a2, m, hm, rfl⟩) hS
    · unfold w_L_acts_B_j272
      exact j277_B (m := m) hI h7 hi ha hb (Or.inl rfl) hS
    · unfold w_L_acts_B_j276
      exact j277_B (m := m) hI h7 hi ha hb (Or.inl rfl) hS
  · -- an option, a letter
    obtain ⟨b, hb, lb⟩ := low_n (x := y) (n := 2) (by decide) (by decide)
    obtain ⟨c, hc, lc⟩ := low_n (x := y >>> (1 &&& 31)) (n := 3) (by decide) (by decide)
    obtain ⟨v, hv, lv⟩ := low_n (x := y >>> (3 &&& 31)) (n := 99) (by decide) (by decide)
    obtain ⟨j, hj, lj⟩ := low_n (x := y >>> (3 &&& 31)) (n := 26) (by decide) (by decide)
    obtain ⟨l, cc, hl, _, e2, _, _, _, _⟩ := (Jn_w hI.1).1 b hb
    refine lb _ _ (l_len_B hb _ ⟨rfl, lc _ _ ⟨fun _ => ?_, fun _ => ?_⟩⟩)
    · have hy : isnum (nI v) := ⟨Int32.le_trans (show (-9999 : Int32) ≤ 0 by decide) (nI_pos' (n := v) (by omega)), (nI_leL (a := 9999) rfl (by omega) (by decide)).mpr (by omega)⟩
      have hI' := INV_c hI (Jn_op hI.1 (i := b) (by omega) hy) (fun p i q => gu_n (by omega))
      refine l_opt_B (by omega) _ ⟨rfl, lv _ _ (l_sop_B h7 (by omega) hy _ ⟨rfl, pif_p rfl (l_opt_B (by omega) _ ⟨rfl, pif_p (gu_kk _ _ _ _) (hS _ _ _ hI' ((gu_oo _ (by decide)).trans h7))⟩)⟩)⟩
    · refine lj _ _ ?_
      rw [e2]
      by_cases h40 : l = 40
      · subst h40
        refine l_wrf_B hb hj e2 _ ⟨rfl, pif_p rfl ?_⟩
        unfold w_L_acts_B_j449
        exact pif_p rfl (pif_p rfl (j479_B hI h7 hS))
      · obtain ⟨R', hJ'⟩ := Jn_wr hI.1 hb (by omega) e2 hj
        have hI' := INV_c hI hJ' (fun p i q => by rw [gu_n (by omega), gu_n (by omega)])
        have n40 : ¬ nI l = 40 := fun q => h40 ((nI_eq (b := 40) (by omega) (by decide)).mp q)
        refine l_wr_B h7 hb (by omega) hj e2 _ ⟨rfl, pif_n n40 ?_⟩
        unfold w_L_acts_B_j445 w_L_acts_B_j449
        refine pif_p (nI_1 l).symm (pif_n n40 (l_let_B (l := l + 1) hb (by omega) (by omega) (gu_kk _ _ _ _) _ ⟨rfl, lj _ _ (pif_p ?_ (j479_B hI' (by rw [gu_n (by omega), gu_n (by omega)]; exact h7) hS))⟩))
        rw [gu_n (by omega), gu_kk]
  · -- a run
    obtain ⟨c, hc, lc⟩ := low_n (x := x >>> (4 &&& 31)) (n := 2) (by decide) (by decide)
    obtain ⟨v, hv, lv⟩ := low_n (x := x >>> (5 &&& 31)) (n := 9) (by decide) (by decide)
    have e1 : (1 : Int32) + nI v = nI (1 + v) := nI_add' rfl
    have go : ∀ x5, (x5 = 0 ∨ x5 = 1) → w_L_acts_B_j146 K x (nI m) x5 G := fun x5 h5 => by
      unfold w_L_acts_B_j146
      refine lv _ _ ?_
      rw [e1]
      exact runs_B hI h7 hm h5 (by omega) (by omega) (fun G' h => ⟨rfl, hB G' h⟩)
    exact lc _ _ ⟨fun _ => go 1 (Or.inr rfl), fun _ => go 0 (Or.inl rfl)⟩
theorem j68_B {N n : Nat} {x y z kd : Int32} {K : Sh → Gt → Prop} {R G : Gt} (hI : INV N 300 R G) (h7 : G 84 7 = 0) (hn1 : 1 ≤ n) (hn : n ≤ N) (hS : ∀ N' R' G', INV N' 300 R' G' → G' 84 7 = 0 → K shB G') (hB : ∀ G', IBx G' → K shB G') : w_L_acts_B_j68 K x y kd (nI N - 1) z (nI n) G := by
  obtain ⟨hN, h1, _, _⟩ := Jn_n hI.1
  obtain ⟨i, hi, li⟩ := low_n (x := z) (n := n) (by omega) (by omega)
  obtain ⟨p, rfl⟩ : ∃ p, N = p + 1 := ⟨N - 1, by omega⟩
  have em : nI (p + 1) - 1 - nI i = nI (p - i) := by rw [nI_pred, nI_sub (by omega)]
  have j99 : ∀ v, w_L_acts_B_j99 K x y kd (nI (p - i)) 6 (G 47 (6 : Int32).toNatClampNeg) v G := by
    intro v
    unfold w_L_acts_B_j99
    have hI' : INV (p + 1) 300 R (gu G 47 6 (G 47 (6 : Int32).toNatClampNeg + v)) := INV_6 hI
    have h7' : (gu G 47 6 (G 47 (6 : Int32).toNatClampNeg + v)) 84 7 = 0 := by rw [gu_oo _ (by decide)]; exact h7
    refine ⟨by unfold vp_in; decide, pt_of ⟨by unfold vp_in; decide, ⟨fun _ => j116_B hI' h7' (by omega) hS hB, fun _ => told_B hN hI'.2.2.2.2.2.1 h7' ⟨rfl, hS _ _ _ hI' h7'⟩⟩⟩⟩
  unfold w_L_acts_B_j68 w_L_acts_B_j98
  refine li _ _ ?_
  rw [em]
  exact ⟨fun _ => j116_B hI h7 (by omega) hS hB, fun _ => ⟨by unfold vp_in; decide, ⟨fun _ => j99 6, fun _ => j99 1⟩⟩⟩
theorem acts_B {N : Nat} {x y : Int32} {K : Sh → Gt → Prop} {R G : Gt} (hI : INV N 300 R G) (h7 : G 84 7 = 0) (hS : ∀ N' R' G', INV N' 300 R' G' → G' 84 7 = 0 → K shB G') (hB : ∀ G', IBx G' → K shB G') : w_L_acts_B K x y G := by
  obtain ⟨hN, h1, _, _⟩ := Jn_n hI.1
  have t0 := hI.2.2.2.2.2.1.1
  have t0' : G 47 (0 : Int32).toNatClampNeg = nI N := t0
  obtain ⟨i, hi, li⟩ := low_n (x := x) (n := 16) (by decide) (by decide)
  have mk : N < 58 → w_L_acts_B_j32 K x y G := fun q => by
    unfold w_L_acts_B_j32
    exact makes_B hI h7 q (fun N' R' G' h h7' => ⟨rfl, hS N' R' G' h h7'⟩)
  have go : 6 ≤ N → ∀ kd, w_L_acts_B_j45 K x y kd G := fun q kd => by
    unfold w_L_acts_B_j45 w_L_acts_B_j66
    refine ⟨by unfold vp_in; decide, by unfold vp_in; decide, ?_⟩
    rw [t0']
    by_cases h12 : 12 ≤ N
    · exact pif_p ((nI_leR (a := 12) rfl (by omega) (by decide)).mpr h12) (j68_B (n := 12) hI h7 (by decide) h12 hS hB)
    · exact pif_n (nI_ge (b := 12) (by omega) (by decide)) ⟨by unfold vp_in; decide, j68_B (n := N) hI h7 (by omega) (Nat.le_refl _) hS hB⟩
  unfold w_L_acts_B
  refine li _ _ ⟨by unfold vp_in; decide, ?_⟩
  rw [t0']
  by_cases h6 : N < 6
  · exact pif_p (nI_ltx (b := 6) rfl h6 (by decide)) (mk (by omega))
  · refine pif_n (nI_nltx (b := 6) rfl (by omega) (by omega)) ⟨fun _ => go (by omega) _, fun _ => ⟨by unfold vp_in; decide, ?_⟩⟩
    by_cases h58 : 58 ≤ N
    · exact pif_p ((nI_leR (a := 58) rfl (by omega) (by decide)).mpr h58) (go (by omega) _)
    · exact pif_n (nI_ge (b := 58) (by omega) (by decide)) (mk (by omega))
