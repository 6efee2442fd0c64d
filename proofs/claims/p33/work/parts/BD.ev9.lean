/-! CALL -/
theorem dt_l {l : Nat} (hl : l < 6) : ((0 * 6 + nI l) - (0 * 6 + nI l) / 6 * 6 = nI l ∧ (0 * 6 + nI l) / 6 = nI 0) ∧ ((1 * 6 + nI l) - (1 * 6 + nI l) / 6 * 6 = nI l ∧ (1 * 6 + nI l) / 6 = nI 1) ∧ ((2 * 6 + nI l) - (2 * 6 + nI l) / 6 * 6 = nI l ∧ (2 * 6 + nI l) / 6 = nI 2) := by
  have : l = 0 ∨ l = 1 ∨ l = 2 ∨ l = 3 ∨ l = 4 ∨ l = 5 := by omega
  rcases this with rfl | rfl | rfl | rfl | rfl | rfl <;> decide
theorem i_call {G H : Gt} {u p l a : Nat} {D : Int32} (h : cAt G u p 18) (hd : G 18 p = D) (h1 : D - D / 6 * 6 = nI l) (h2 : D / 6 = nI a) (hi : ∀ (R : Gt) (K : Gt → Prop), K (mxw H R) → w_X2_invoke K (nI l) (nI a) (mxw (gu G 116 u (nI (p + 1))) R)) : cS G H := by
  refine cS_c h (by decide) (fun R K hk => ?_)
  rw [hd]
  refine pif_n (by decide) (pif_n (by decide) (pif_n (by decide) (pif_n (by decide) (pif_p (by decide) ?_))))
  rw [h1, h2]
  exact hi R _ hk
theorem pr18 {N : Nat} {b x : Int32} (hb : ¬ b = -1) (hx : ¬ x = -1) (h : okL N (shp (nI 18) 2 b) x) : ∃ j, j < N ∧ x = nI j := by
  have e : (2 : Int32) = nI 2 := rfl
  rw [e, tb_shp (by decide) (by decide) (fun q => hb q.2.2), show tb 18 2 = 8 by decide] at h
  rcases h.2.1 rfl with q | q
  · exact absurd q hx
  · exact q
theorem v_18_1 {N B : Nat} {z : Zt} {G : Gt} {x : Nat → Int32} {u e : Nat} (h : va N B z G x u 18 e 1) : eW N B z G (rS G) := by
  have hs := va_s h
  obtain ⟨f1, f2, f3, f4, f5, f6, f7, f8, f9, f10, f11, f12, f13, f14⟩ := st_f hs
  have hu := hs.2.1
  have hh := va_h h
  have hV := va_V h
  obtain ⟨v1, v2, v3⟩ := va_v h
  have kk := st_k hs
  have hun := hs.2.2.1
  have hx := va_x h (by decide)
  obtain ⟨l, hl, el⟩ := prq (k := 18) (w := 0) (d := 4) (n := 6) (by decide) (by decide) (by decide) (by omega) (Or.inr (Or.inr ⟨rfl, rfl⟩)) kk.1
  have hb := ((xV_pc hV (by omega)).2 rfl).1
  obtain ⟨d0, d1, d2⟩ := dt_l hl
  by_cases c : G 50 (z 1 u) = -1
  · have c1 := st_code hs (q := 1) (w := 18) (d := 1 * 6 + G 48 (z 1 u)) (by rw [cd_18, if_neg hb, if_pos c]; rfl)
    have c2 := st_code hs (q := 2) (w := 57) (d := -1) (by rw [cd_18, if_neg hb, if_pos c]; rfl)
    have c3 := st_code hs (q := 3) (w := 58) (d := -1) (by rw [cd_18, if_neg hb, if_pos c]; rfl)
    have p1 := va_p h (q := 1) (by decide) rfl
    have hco : cO (G 49 (z 1 u)) (G 50 (z 1 u)) = 1 := by unfold cO; rw [if_neg hb, if_pos c]
    have hst := st_fr (Gc := gu G 116 u (nI (e + 1 + 1))) (Gr := gu G 68 (z 6 u) (G 46 42)) (sp' := 1) (fp' := 0) hs (ag1 hu (by decide) agw_rfl) (ag2 hu (by decide) agw_rfl) ⟨rfl, rfl, rfl, rfl, rfl⟩ (Nat.le_refl _) (Nat.le_refl _)
    have e0 : (if 1 = 0 then (0 : Int32) else G 46 42) = G 46 42 := if_neg (by decide)
    refine call_ev (l := l) (a := 1) (P := e + 2) (t := 1) (fst := G 46 42) (snd := 0) clo_rS hst hx (Or.inl rfl) hl (by decide) ?_ (gu_kk _ _ _ _) c2.1 ⟨c3.1, c3.2.2⟩ ?_ (fun q => by omega) (fun _ => el) (fun q => by omega) (fun q => by omega) ?_ ?_ (fun q => by omega) (fun X hX => cT_1 (i_call (cat f1 p1 c1.2.2 c1.1) (c1.2.1.trans (by rw [el])) d1.1 d1.2 hX)) (by decide) (fun H hH => ?_) (kp_agw (ag1 hu (by decide) agw_rfl)) (kp_agw (ag2 hu (by decide) agw_rfl))
    · show e + 2 = e + plo 18 3 (cO (G 49 (z 1 u)) (G 50 (z 1 u)))
      rw [hco]; rfl
    · rw [gu_oo _ (by decide), if_neg (by decide)]; exact va_l h rfl
    · rw [e0, if_neg (by decide), if_pos rfl]; exact v2.symm
    · rw [e0, v2]; exact v1
    · exact hV_18_1 hh (by rw [xV_67a hV (by decide)]; decide) c (fun C K hk => by rw [el]; exact hH C K hk)
  · obtain ⟨y, hy, ey⟩ := pr18 hb c kk.2.2
    have c1 := st_code hs (q := 1) (w := 44) (d := -1) (by rw [cd_18, if_neg hb, if_neg c]; rfl)
    have c2 := st_code hs (q := 2) (w := 41) (d := G 50 (z 1 u)) (by rw [cd_18, if_neg hb, if_neg c]; rfl)
    have p1 := va_p h (q := 1) (by decide) rfl
    have hl' := va_l h (show lao 18 1 = 0 from rfl)
    have s1 := i_keep (cat f1 p1 c1.2.2 c1.1)
    have hR := hV_18_0 hh (by rw [xV_67a hV (by decide)]; decide) c
    rw [ey, f7, v2] at hR
    have hst := st_fr (Gc := gu (gu G 116 u (nI (e + 1 + 1))) 122 u (G 84 16)) (Gr := gu (gu G 68 (z 6 u) (G 84 16)) 67 (z 6 u) 1) (sp' := 1) (fp' := 0) hs (ag1 hu (by decide) (ag1 hu (by decide) agw_rfl)) (ag2 hu (by decide) (ag2 hu (by decide) agw_rfl)) ⟨rfl, rfl, rfl, rfl, rfl⟩ (Nat.le_refl _) (Nat.le_refl _)
    refine f_do (p := e + 2) (y := y) (p' := 2) clo_rS hst hx (cT_1 s1) (by decide) (by rw [gu_oo _ (by decide), gu_kk]) ⟨c2.1, c2.2.1.trans ey, c2.2.2⟩ hy hR (kp_agw (ag1 hu (by decide) (ag1 hu (by decide) agw_rfl))) (kp_agw (ag2 hu (by decide) (ag2 hu (by decide) agw_rfl))) (Or.inr rfl) (by unfold kP; omega) (by omega) (Or.inl rfl) hl' (xV_mk (Or.inr rfl) (by decide) (by decide) (by decide) ?_ (fun _ _ => ⟨?_, ?_⟩) ?_)
    · show (gu (gu G 68 (z 6 u) (G 84 16)) 67 (z 6 u) 1) 67 (z 6 u) = _
      rw [gu_kk]; rfl
    · show (gu (gu G 116 u (nI (e + 1 + 1))) 122 u (G 84 16)) 122 u = (gu (gu G 68 (z 6 u) (G 84 16)) 67 (z 6 u) 1) 68 (z 6 u)
      rw [gu_kk, gu_oo _ (by decide), gu_kk]
    · show vV z ((gu (gu G 116 u (nI (e + 1 + 1))) 122 u (G 84 16)) 122 u)
      rw [gu_kk]; exact v1
    · intro q
      exact ⟨(xV_pc hV (by omega)).1, fun _ => ⟨hb, fun _ => c⟩⟩
theorem v_18_2 {N B : Nat} {z : Zt} {G : Gt} {x : Nat → Int32} {u e : Nat} (h : va N B z G x u 18 e 2) : eW N B z G (rS G) := by
  have hs := va_s h
  obtain ⟨f1, f2, f3, f4, f5, f6, f7, f8, f9, f10, f11, f12, f13, f14⟩ := st_f hs
  have hu := hs.2.1
  have hh := va_h h
  have hV := va_V h
  obtain ⟨v1, v2, v3⟩ := va_v h
  have kk := st_k hs
  have hun := hs.2.2.1
  have hx := va_x h (by decide)
  obtain ⟨l, hl, el⟩ := prq (k := 18) (w := 0) (d := 4) (n := 6) (by decide) (by decide) (by decide) (by omega) (Or.inr (Or.inr ⟨rfl, rfl⟩)) kk.1
  obtain ⟨hb, c⟩ := (xV_pc hV (by omega)).2 rfl
  replace c := c rfl
  obtain ⟨w1, w2⟩ := xV_kept hV (by omega)
  obtain ⟨d0, d1, d2⟩ := dt_l hl
  have c1 := st_code hs (q := 3) (w := 18) (d := 2 * 6 + G 48 (z 1 u)) (by rw [cd_18, if_neg hb, if_neg c]; rfl)
  have c2 := st_code hs (q := 4) (w := 57) (d := -1) (by rw [cd_18, if_neg hb, if_neg c]; rfl)
  have c3 := st_code hs (q := 5) (w := 58) (d := -1) (by rw [cd_18, if_neg hb, if_neg c]; rfl)
  have p1 := va_p h (q := 3) (by decide) rfl
  have hco : cO (G 49 (z 1 u)) (G 50 (z 1 u)) = 3 := by unfold cO; rw [if_neg hb, if_neg c]
  have hst := st_fr (Gc := gu G 116 u (nI (e + 3 + 1))) (Gr := G) (sp' := 1) (fp' := 0) hs (ag1 hu (by decide) agw_rfl) agw_rfl ⟨rfl, rfl, rfl, rfl, rfl⟩ (Nat.le_refl _) (Nat.le_refl _)
  have e0 : (if 2 = 0 then (0 : Int32) else G 68 (z 6 u)) = G 68 (z 6 u) := if_neg (by decide)
  refine call_ev (l := l) (a := 2) (P := e + 4) (t := 1) (fst := G 68 (z 6 u)) (snd := G 46 42) clo_rS hst hx (Or.inl rfl) hl (by decide) ?_ (gu_kk _ _ _ _) c2.1 ⟨c3.1, c3.2.2⟩ ?_ (fun q => by omega) (fun _ => el) (fun q => by omega) (fun q => by omega) ?_ ?_ (fun _ => ⟨v2.symm, by rw [v2]; exact v1⟩) (fun X hX => cT_1 (i_call (cat f1 p1 c1.2.2 c1.1) (c1.2.1.trans (by rw [el])) d2.1 d2.2 hX)) (by decide) (fun H hH => ?_) (kp_agw (ag1 hu (by decide) agw_rfl)) (kp_agw (z := z) agw_rfl)
  · show e + 4 = e + plo 18 3 (cO (G 49 (z 1 u)) (G 50 (z 1 u)))
    rw [hco]; rfl
  · rw [gu_oo _ (by decide), if_neg (by decide)]; exact va_l h rfl
  · rw [e0, if_pos rfl, gu_oo _ (by decide)]; exact w1
  · rw [e0, ← w1]; exact w2
  · exact hV_18_2 hh (xV_67b hV) (fun C K hk => by rw [el]; exact hH C K hk)
