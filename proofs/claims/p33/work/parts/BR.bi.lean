/-! A NODE BEGINS, and ends at once -/
theorem b_en {N B : Nat} {z : Zt} {G0 M Gc Gr : Gt} {x : Nat → Int32} {u k e q : Nat} {v : Int32} (hst : st N B z (mxw Gc Gr) x 1 0 u k e) (hx : ∀ o, o < 4 → x o = Gc 31 o) (s1 : cS M Gc) (h116 : Gc 116 u = nI q) (h16 : Gc 16 q = 40 ∧ q < 1081) (hR : bS G0 (oEn v (Gr 65 (z 6 u)) Gr)) (h65 : Gr 65 (z 6 u) = M 65 (z 6 u)) (h15 : Gc 84 15 = 0) (h84 : Gc 84 16 = v) (hv : vV z v) (hk1 : kp M Gc) (hk2 : kp M Gr) : eW N B z M (bS G0) :=
  f_end (p := q) (t := 1) clo_bS hst hx (cT_1 s1) (by decide) h116 h16 hR h65 h15 h84 hv hk1 hk2
theorem b_er {N B : Nat} {z : Zt} {G0 M Gc : Gt} {u k e : Nat} {er : Int32} (h : bs N B z G0 M 1 u k e 0 0) (her : isnum er) (hst : st N B z (mxw Gc M) (M 31) 1 0 u k e) (h31 : Gc 31 = M 31) (h118 : Gc 118 u = 0) (s1 : cS M (oFl u er Gc)) (hk1 : kp M Gc) (hR : bS G0 (oFr (z 6 u) er M)) : eW N B z M (bS G0) :=
  f_err (t := 1) clo_bS hst (fun o _ => by rw [h31]) her (cT_1 s1) (by decide) hR hk1 kp_rfl h118
theorem b_0 {N B : Nat} {z : Zt} {G0 M : Gt} {u e : Nat} (h : bs N B z G0 M 1 u 0 e 0 0) : eW N B z M (bS G0) := by
  obtain ⟨hs, h116, h118, h124, h15, hb, h19, h20, h67, h55⟩ := id h
  obtain ⟨f1, f2, f3, f4, f5, f6, f7, f8, f9, f10, f11, f12, f13, f14⟩ := st_f hs
  have hu := hs.2.1
  have hun := hs.2.2.1
  have h47 := hs.2.2.2.2.2.2.1
  have kk := st_k hs
  obtain ⟨hP, hA, hB, hC, hD, hE, hF, hG, hH, hI, hJ, hK, hL, hM, hN, hO, hPg, hQ, hR', hS, hT, hU⟩ := hs.1.1
  obtain ⟨Q1, Q2, Q3, Q4, Q5, Q6, Q7, Q8, Q9, Q10, Q11, Q12, Q13, Q14, Q15, Q16, Q17, Q18, Q19, Q20, Q21, Q22, Q23, Q24, Q25⟩ := hQ
  have hR1 := hR'.1
  have hR2 := hR'.2.1
  have hR3 := hR'.2.2.1
  have c0 := st_code hs (q := 0) (w := 0) (d := M 48 (z 1 u)) (by rw [cd_0]; rfl)
  have c1 := st_code hs (q := 1) (w := 40) (d := -1) (by rw [cd_0]; rfl)
  rw [Nat.add_zero] at c0
  have s1 := i_num (cat f1 h116 (by omega) c0.1)
  rw [c0.2.1] at s1
  have hst := st_fr (Gc := gu (gu M 116 u (nI (e + 1))) 84 16 (M 48 (z 1 u))) (Gr := M) (sp' := 1) (fp' := 0) hs (ag3 (by decide) (ag1 hu (by decide) agw_rfl)) agw_rfl ⟨rfl, rfl, rfl, rfl, rfl⟩ (Nat.le_refl _) (Nat.zero_le _)
  have hv : isnum (M 48 (z 1 u)) := prv kk.1
  exact b_en hst (fun _ _ => rfl) s1 (by rw [gu_oo _ (by decide), gu_kk]) ⟨c1.1, c1.2.2⟩ (bN_0 hb h47) rfl h15 rfl (Or.inl hv) (kp_gu (by unfold kpc; omega) (kp_gu (by unfold kpc; omega) kp_rfl)) kp_rfl
/-- NAME -/
theorem i_nam_y {G : Gt} {u p S S' j : Nat} (h : cAt G u p 1) (h112 : G 112 u = nI S) (hd : G 18 p = nI j) (hj : j < 8) (hS' : S' < 1210) (hne : ¬ G 133 (8 * S' + j) = 49999) (hl : ∀ (R : Gt) (K : Int32 → Gt → Prop), K (nI S') (mxw (gu G 116 u (nI (p + 1))) R) → w_X7_holderOf K (nI S) (nI j) (mxw (gu G 116 u (nI (p + 1))) R)) : cS G (gu (gu G 116 u (nI (p + 1))) 84 16 (G 133 (8 * S' + j))) := by
  refine cS_r h (by decide) (fun R K hk => ?_)
  obtain ⟨h7, h12, h11, hu6, hp, hp2, hw0⟩ := h
  refine pif_n (by decide) (pif_p (by decide) ?_)
  rw [rat_u (G := gu G 116 u (nI (p + 1))) h11 hu6, show (mxw (gu G 116 u (nI (p + 1))) R) 112 u = nI S from h112, hd]
  unfold w_X7_valueOf w_X7_valueOf_j30
  refine hl R _ (pif_n (nI_neg (by omega)) ?_)
  have e8 : nI S' * 8 + nI j = nI (8 * S' + j) := by
    rw [show (8 : Int32) = nI 8 from rfl, nI_mulx, nI_add, Nat.mul_comm]
  rw [e8, rat_n (by omega) (by decide)]
  exact ptc rfl (pif_n hne hk)
theorem i_nam_n {G : Gt} {u p S j : Nat} (h : cAt G u p 1) (h112 : G 112 u = nI S) (hd : G 18 p = nI j) (hl : ∀ (R : Gt) (K : Int32 → Gt → Prop), K (-1) (mxw (gu G 116 u (nI (p + 1))) R) → w_X7_holderOf K (nI S) (nI j) (mxw (gu G 116 u (nI (p + 1))) R)) : cS G (oFl u (-1) (gu (gu G 116 u (nI (p + 1))) 84 16 49999)) := by
  refine cS_r h (by decide) (fun R K hk => ?_)
  obtain ⟨h7, h12, h11, hu6, hp, hp2, hw0⟩ := h
  refine pif_n (by decide) (pif_p (by decide) ?_)
  rw [rat_u (G := gu G 116 u (nI (p + 1))) h11 hu6, show (mxw (gu G 116 u (nI (p + 1))) R) 112 u = nI S from h112, hd]
  unfold w_X7_valueOf w_X7_valueOf_j30
  exact hl R _ (pif_p rfl (ptc rfl (pif_p rfl (k_fail (G := gu (gu G 116 u (nI (p + 1))) 84 16 49999) h11 hu6 hk))))
theorem b_1 {N B : Nat} {z : Zt} {G0 M : Gt} {u e : Nat} (h : bs N B z G0 M 1 u 1 e 0 0) : eW N B z M (bS G0) := by
  obtain ⟨hs, h116, h118, h124, h15, hb, h19, h20, h67, h55⟩ := id h
  obtain ⟨f1, f2, f3, f4, f5, f6, f7, f8, f9, f10, f11, f12, f13, f14⟩ := st_f hs
  have hu := hs.2.1
  have hun := hs.2.2.1
  have h47 := hs.2.2.2.2.2.2.1
  have kk := st_k hs
  obtain ⟨hP, hA, hB, hC, hD, hE, hF, hG, hH, hI, hJ, hK, hL, hM, hN, hO, hPg, hQ, hR', hS, hT, hU⟩ := hs.1.1
  obtain ⟨Q1, Q2, Q3, Q4, Q5, Q6, Q7, Q8, Q9, Q10, Q11, Q12, Q13, Q14, Q15, Q16, Q17, Q18, Q19, Q20, Q21, Q22, Q23, Q24, Q25⟩ := hQ
  have hR1 := hR'.1
  have hR2 := hR'.2.1
  have hR3 := hR'.2.2.1
  obtain ⟨j, hj, ej⟩ := prq (k := 1) (w := 0) (d := 3) (n := 8) (by decide) (by decide) (by decide) (by omega) (Or.inl ⟨rfl, rfl⟩) kk.1
  have c0 := st_code hs (q := 0) (w := 1) (d := M 48 (z 1 u)) (by rw [cd_1]; rfl)
  have c1 := st_code hs (q := 1) (w := 40) (d := -1) (by rw [cd_1]; rfl)
  rw [Nat.add_zero] at c0
  rcases lookV (Gc := gu M 116 u (nI (e + 1))) (Gr := M) hN (by omega) (by omega) (by omega) (by omega) hj rfl rfl rfl rfl (z 5 u) (z 5 u) (Nat.le_refl _) f8 with ⟨s', q1, q2, q3, q4, q5⟩ | ⟨q4, q5⟩
  · have hS' : z 13 s' < 1210 := by have := (hN.2 s' q1).1; omega
    have hne := (vV_ne (by omega) (by omega) q3).1
    rw [q2] at hne
    have s1 := i_nam_y (S' := z 13 s') (cat f1 h116 (by omega) c0.1) f9 (c0.2.1.trans ej) hj hS' hne (fun R K hk => ⟨z 5 u + 2, q4 R K (z 5 u + 2) 0 (Nat.le_refl _) (by omega) hk⟩)
    rw [← q2] at s1
    have hR := bN_1 (H := oEn (M 72 (8 * s' + j)) (M 65 (z 6 u)) M) hb h47 (fun C K hk => by
      rw [h55, ej]
      refine ⟨z 5 u + 2, q5 C _ (z 5 u + 2) (Nat.le_refl _) ?_⟩
      unfold w_X11_names w_X11_names_j25
      refine pif_n (nI_neg (by omega)) ⟨vp_n (by omega) (by decide), ?_⟩
      rw [nI_clamp (by omega)]
      exact r_ends f5 hk)
    have hst := st_fr (Gc := gu (gu M 116 u (nI (e + 1))) 84 16 (M 72 (8 * s' + j))) (Gr := M) (sp' := 1) (fp' := 0) hs (ag3 (by decide) (ag1 hu (by decide) agw_rfl)) agw_rfl ⟨rfl, rfl, rfl, rfl, rfl⟩ (Nat.le_refl _) (Nat.zero_le _)
    exact b_en hst (fun _ _ => rfl) s1 (by rw [gu_oo _ (by decide), gu_kk]) ⟨c1.1, c1.2.2⟩ hR rfl h15 rfl q3 (kp_gu (by unfold kpc; omega) (kp_gu (by unfold kpc; omega) kp_rfl)) kp_rfl
  · have s1 := i_nam_n (cat f1 h116 (by omega) c0.1) f9 (c0.2.1.trans ej) (fun R K hk => ⟨z 5 u + 2, q4 R K (z 5 u + 2) 0 (Nat.le_refl _) (by omega) hk⟩)
    have hR := bN_1 (H := oFr (z 6 u) (-1) M) hb h47 (fun C K hk => by
      rw [h55, ej]
      exact ⟨z 5 u + 2, q5 C _ (z 5 u + 2) (Nat.le_refl _) (pif_p rfl (r_fails f5 hk))⟩)
    have hst := st_fr (Gc := gu (gu M 116 u (nI (e + 1))) 84 16 49999) (Gr := M) (sp' := 1) (fp' := 0) hs (ag3 (by decide) (ag1 hu (by decide) agw_rfl)) agw_rfl ⟨rfl, rfl, rfl, rfl, rfl⟩ (Nat.le_refl _) (Nat.zero_le _)
    exact b_er h (by unfold isnum; decide) hst rfl (by rw [gu_oo _ (by decide), gu_oo _ (by decide)]; exact h118) s1 (kp_gu (by unfold kpc; omega) (kp_gu (by unfold kpc; omega) kp_rfl)) hR
theorem b_15 {N B : Nat} {z : Zt} {G0 M : Gt} {u e : Nat} (h : bs N B z G0 M 1 u 15 e 0 0) : eW N B z M (bS G0) := by
  obtain ⟨hs, h116, h118, h124, h15, hb, h19, h20, h67, h55⟩ := id h
  obtain ⟨f1, f2, f3, f4, f5, f6, f7, f8, f9, f10, f11, f12, f13, f14⟩ := st_f hs
  have hu := hs.2.1
  have hun := hs.2.2.1
  have h47 := hs.2.2.2.2.2.2.1
  have kk := st_k hs
  obtain ⟨hP, hA, hB, hC, hD, hE, hF, hG, hH, hI, hJ, hK, hL, hM, hN, hO, hPg, hQ, hR', hS, hT, hU⟩ := hs.1.1
  obtain ⟨Q1, Q2, Q3, Q4, Q5, Q6, Q7, Q8, Q9, Q10, Q11, Q12, Q13, Q14, Q15, Q16, Q17, Q18, Q19, Q20, Q21, Q22, Q23, Q24, Q25⟩ := hQ
  have hR1 := hR'.1
  have hR2 := hR'.2.1
  have hR3 := hR'.2.2.1
  obtain ⟨l, hl4, el⟩ := prq (k := 15) (w := 0) (d := 2) (n := 4) (by decide) (by decide) (by decide) (by omega) (Or.inr (Or.inl ⟨rfl, rfl⟩)) kk.1
  have c1 := st_code hs (q := 0) (w := 15) (d := M 48 (z 1 u)) (by rw [cd_15]; rfl)
  have c2 := st_code hs (q := 1) (w := 40) (d := -1) (by rw [cd_15]; rfl)
  rw [Nat.add_zero] at c1
  rcases lookT (Gc := gu M 116 u (nI (e + 1))) (Gr := M) hl4 (st_frm hs) ⟨rfl, rfl, rfl, rfl, rfl⟩ ⟨rfl, rfl, rfl, rfl⟩ hun h47 (by decide) (by decide) with ⟨t, q1, q2, q3, q4, q5⟩ | ⟨q4, q5⟩
  · have s1 := i_lv_y (cat f1 h116 (by omega) c1.1) (Or.inr ⟨rfl, rfl⟩) (c1.2.1.trans el) (by omega) q4
    have hR := bN_15 (H := oLv 4 (nI l) 0 (M 65 (z 6 u)) M) hb h47 (fun C K hk => by
      rw [el]
      exact q5 C _ (pif_n (by decide) (r_leaves f5 hk)))
    have hst := st_fr (Gc := gu (gu (gu M 116 u (nI (e + 1))) 84 15 3) 84 18 (nI t)) (Gr := oLv 4 (nI l) 0 (M 65 (z 6 u)) M) (sp' := 1) (fp' := 0) hs (ag3 (by decide) (ag3 (by decide) (ag1 hu (by decide) agw_rfl))) (ag4 (by decide) (ag4 (by decide) (ag4 (by decide) (ag4 (by decide) agw_rfl)))) ⟨rfl, rfl, rfl, rfl, rfl⟩ (Nat.le_refl _) (Nat.zero_le _)
    refine f_out (p := e + 1) (t := 1) clo_bS hst (fun _ _ => rfl) (cT_1 s1) (by decide) (by rw [gu_oo _ (by decide), gu_oo _ (by decide), gu_kk]) ⟨c2.1, c2.2.2⟩ hR rfl (Or.inr (Or.inr (Or.inr (Or.inl ⟨rfl, rfl, q2, l, t, hl4, rfl, rfl, q1, q3⟩)))) (Or.inl rfl) (kp_agw (ag3 (by decide) (ag3 (by decide) (ag1 hu (by decide) agw_rfl)))) (kp_agw (z := z) (ag4 (by decide) (ag4 (by decide) (ag4 (by decide) (ag4 (by decide) agw_rfl)))))
  · have s1 := i_lv_n (cat f1 h116 (by omega) c1.1) (Or.inr rfl) (c1.2.1.trans el) q4
    have hR := bN_15 (H := oFr (z 6 u) (-6) M) hb h47 (fun C K hk => by
      rw [el]
      exact q5 C _ (pif_p rfl (r_fails f5 hk)))
    have hst := st_fr (Gc := gu M 116 u (nI (e + 1))) (Gr := M) (sp' := 1) (fp' := 0) hs (ag1 hu (by decide) agw_rfl) agw_rfl ⟨rfl, rfl, rfl, rfl, rfl⟩ (Nat.le_refl _) (Nat.zero_le _)
    exact b_er h (by unfold isnum; decide) hst rfl (by rw [gu_oo _ (by decide)]; exact h118) s1 (kp_gu (by unfold kpc; omega) kp_rfl) hR
/-- FUNCTION, GENERATOR -/
theorem nI_1m (a j : Nat) : nI a + nI (j + 1) - 1 = nI (a + j) := by
  rw [nI_add, show a + (j + 1) = (a + j) + 1 by omega, nI_pred]
theorem i_fun {G : Gt} {u p j : Nat} (h : cAt G u p 16) (h5 : G 134 5 = nI j) (hj : j < 601) : cS G (gu (gu (gu (gu G 116 u (nI (p + 1))) 136 j (nI u)) 134 5 (nI (j + 1))) 84 16 (nI (20000 + j))) := by
  refine cS_c h (by decide) (fun R K hk => ?_)
  obtain ⟨h7, h12, h11, hu6, hp, hp2, hw0⟩ := h
  refine pif_n (by decide) (pif_n (by decide) (pif_p (by decide) ?_))
  unfold w_X3_makeFunction
  rw [show (mxw (gu G 116 u (nI (p + 1))) R) 134 5 = nI j from h5, show (mxw (gu G 116 u (nI (p + 1))) R) 84 11 = nI u from h11]
  refine pcp rfl hj (by decide) rfl ?_
  rw [show (mxw (gu (gu G 116 u (nI (p + 1))) 136 j (nI u)) R) 134 5 = nI j from h5, nI_1]
  refine ptc rfl ?_
  rw [show (mxw (gu (gu (gu G 116 u (nI (p + 1))) 136 j (nI u)) 134 5 (nI (j + 1))) R) 134 5 = nI (j + 1) from rfl, show (20000 : Int32) = nI 20000 from rfl, nI_1m]
  exact ptc rfl hk
theorem i_gen {G : Gt} {u p j : Nat} (h : cAt G u p 23) (h6 : G 134 6 = nI j) (hj : j < 601) : cS G (gu (gu (gu (gu (gu G 116 u (nI (p + 1))) 138 j (nI u)) 140 j 0) 134 6 (nI (j + 1))) 84 16 (nI (30000 + j))) := by
  refine cS_c h (by decide) (fun R K hk => ?_)
  obtain ⟨h7, h12, h11, hu6, hp, hp2, hw0⟩ := h
  refine pif_n (by decide) (pif_n (by decide) (pif_n (by decide) (pif_n (by decide) (pif_n (by decide) (pif_n (by decide) (pif_n (by decide) (pif_p (by decide) ?_)))))))
  unfold w_X3_makeGenerator
  rw [show (mxw (gu G 116 u (nI (p + 1))) R) 134 6 = nI j from h6, show (mxw (gu G 116 u (nI (p + 1))) R) 84 11 = nI u from h11]
  refine pcp rfl hj (by decide) rfl ?_
  rw [show (mxw (gu (gu G 116 u (nI (p + 1))) 138 j (nI u)) R) 134 6 = nI j from h6]
  refine pcp rfl hj (by decide) rfl ?_
  rw [show (mxw (gu (gu (gu G 116 u (nI (p + 1))) 138 j (nI u)) 140 j 0) R) 134 6 = nI j from h6, nI_1]
  refine ptc rfl ?_
  rw [show (mxw (gu (gu (gu (gu G 116 u (nI (p + 1))) 138 j (nI u)) 140 j 0) 134 6 (nI (j + 1))) R) 134 6 = nI (j + 1) from rfl, show (30000 : Int32) = nI 30000 from rfl, nI_1m]
  exact ptc rfl hk
theorem b_16 {N B : Nat} {z : Zt} {G0 M : Gt} {u e : Nat} (h : bs N B z G0 M 1 u 16 e 0 0) : eW N B z M (bS G0) := by
  obtain ⟨hs, h116, h118, h124, h15, hb, h19, h20, h67, h55⟩ := id h
  obtain ⟨f1, f2, f3, f4, f5, f6, f7, f8, f9, f10, f11, f12, f13, f14⟩ := st_f hs
  have hu := hs.2.1
  have hun := hs.2.2.1
  have h47 := hs.2.2.2.2.2.2.1
  have kk := st_k hs
  obtain ⟨hP, hA, hB, hC, hD, hE, hF, hG, hH, hI, hJ, hK, hL, hM, hN, hO, hPg, hQ, hR', hS, hT, hU⟩ := hs.1.1
  obtain ⟨Q1, Q2, Q3, Q4, Q5, Q6, Q7, Q8, Q9, Q10, Q11, Q12, Q13, Q14, Q15, Q16, Q17, Q18, Q19, Q20, Q21, Q22, Q23, Q24, Q25⟩ := hQ
  have hR1 := hR'.1
  have hR2 := hR'.2.1
  have hR3 := hR'.2.2.1
  have c0 := st_code hs (q := 0) (w := 16) (d := M 48 (z 1 u)) (by rw [cd_16]; rfl)
  have c1 := st_code hs (q := 1) (w := 40) (d := -1) (by rw [cd_16]; rfl)
  rw [Nat.add_zero] at c0
  have s1 := i_fun (cat f1 h116 (by omega) c0.1) Q20 (by omega)
  have hR := bN_16 hb h47 Q21 (by omega)
  rw [h55] at hR
  have t0 := st_fn hs
  have t1 := st_u (z := zFn z u) (G' := gu (gu (oFn (z 0 4) u (z 1 u) (nI (z 5 u)) M) 116 u (nI (e + 1))) 84 16 (nI (20000 + z 0 4))) (sp' := 1) (fp' := 0) t0 (ag3 (by decide) (ag1 (z := zFn z u) hu (by decide) agw_rfl)) ⟨rfl, rfl, rfl, rfl, rfl⟩ (Nat.le_refl _) (Nat.le_refl _)
  have em : gu (gu (oFn (z 0 4) u (z 1 u) (nI (z 5 u)) M) 116 u (nI (e + 1))) 84 16 (nI (20000 + z 0 4)) = mxw (gu (gu (gu (gu M 116 u (nI (e + 1))) 136 (z 0 4) (nI u)) 134 5 (nI (z 0 4 + 1))) 84 16 (nI (20000 + z 0 4))) (gu (gu (gu M 73 (z 0 4) (nI (z 1 u))) 74 (z 0 4) (nI (z 5 u))) 46 32 (nI (z 0 4 + 1))) := by
    rw [← mxw_gC rfl, ← mxw_gR rfl, ← mxw_gR rfl, ← mxw_gR rfl, ← mxw_gC rfl, ← mxw_gC rfl, ← mxw_gC rfl, mxw_self]
    unfold oFn
    rw [gu_comm (k := 46) (j := 32) (k' := 116) (j' := u) (by omega), gu_comm (k := 74) (j := z 0 4) (k' := 116) (j' := u) (by omega), gu_comm (k := 73) (j := z 0 4) (k' := 116) (j' := u) (by omega), gu_comm (k := 134) (j := 5) (k' := 116) (j' := u) (by omega), gu_comm (k := 136) (j := z 0 4) (k' := 116) (j' := u) (by omega)]
  rw [em] at t1
  have hv : vV (zFn z u) (nI (20000 + z 0 4)) := Or.inr (Or.inl ⟨z 0 4, Nat.lt_succ_self _, rfl⟩)
  refine eW_z (z' := zFn z u) (mu_eq rfl rfl) (b_en (q := e + 1) t1 (fun _ _ => rfl) s1 ?_ ⟨c1.1, c1.2.2⟩ hR rfl h15 rfl hv ?_ ?_)
  · rw [gu_oo _ (by decide), gu_oo _ (by decide), gu_oo _ (by decide), gu_kk]
  · repeat (refine kp_gu (by unfold kpc; omega) ?_)
    exact kp_rfl
  · repeat (refine kp_gu (by unfold kpc; omega) ?_)
    exact kp_rfl
theorem b_23 {N B : Nat} {z : Zt} {G0 M : Gt} {u e : Nat} (h : bs N B z G0 M 1 u 23 e 0 0) : eW N B z M (bS G0) := by
  obtain ⟨hs, h116, h118, h124, h15, hb, h19, h20, h67, h55⟩ := id h
  obtain ⟨f1, f2, f3, f4, f5, f6, f7, f8, f9, f10, f11, f12, f13, f14⟩ := st_f hs
  have hu := hs.2.1
  have hun := hs.2.2.1
  have h47 := hs.2.2.2.2.2.2.1
  have kk := st_k hs
  obtain ⟨hP, hA, hB, hC, hD, hE, hF, hG, hH, hI, hJ, hK, hL, hM, hN, hO, hPg, hQ, hR', hS, hT, hU⟩ := hs.1.1
  obtain ⟨Q1, Q2, Q3, Q4, Q5, Q6, Q7, Q8, Q9, Q10, Q11, Q12, Q13, Q14, Q15, Q16, Q17, Q18, Q19, Q20, Q21, Q22, Q23, Q24, Q25⟩ := hQ
  have hR1 := hR'.1
  have hR2 := hR'.2.1
  have hR3 := hR'.2.2.1
  have c0 := st_code hs (q := 0) (w := 23) (d := M 48 (z 1 u)) (by rw [cd_23]; rfl)
  have c1 := st_code hs (q := 1) (w := 40) (d := -1) (by rw [cd_23]; rfl)
  rw [Nat.add_zero] at c0
  have s1 := i_gen (cat f1 h116 (by omega) c0.1) Q22 (by omega)
  have hR := bN_23 hb h47 Q23 (by omega)
  rw [h55] at hR
  have t0 := st_gn hs
  have t1 := st_u (z := zGn z u) (G' := gu (gu (oGn (z 0 5) u (z 1 u) (nI (z 5 u)) M) 116 u (nI (e + 1))) 84 16 (nI (30000 + z 0 5))) (sp' := 1) (fp' := 0) t0 (ag3 (by decide) (ag1 (z := zGn z u) hu (by decide) agw_rfl)) ⟨rfl, rfl, rfl, rfl, rfl⟩ (Nat.le_refl _) (Nat.le_refl _)
  have em : gu (gu (oGn (z 0 5) u (z 1 u) (nI (z 5 u)) M) 116 u (nI (e + 1))) 84 16 (nI (30000 + z 0 5)) = mxw (gu (gu (gu (gu (gu M 116 u (nI (e + 1))) 138 (z 0 5) (nI u)) 140 (z 0 5) 0) 134 6 (nI (z 0 5 + 1))) 84 16 (nI (30000 + z 0 5))) (gu (gu (gu (gu M 75 (z 0 5) (nI (z 1 u))) 76 (z 0 5) (nI (z 5 u))) 77 (z 0 5) 0) 46 35 (nI (z 0 5 + 1))) := by
    rw [← mxw_gC rfl, ← mxw_gR rfl, ← mxw_gR rfl, ← mxw_gR rfl, ← mxw_gR rfl, ← mxw_gC rfl, ← mxw_gC rfl, ← mxw_gC rfl, ← mxw_gC rfl, mxw_self]
    unfold oGn
    rw [gu_comm (k := 46) (j := 35) (k' := 116) (j' := u) (by omega), gu_comm (k := 77) (j := z 0 5) (k' := 116) (j' := u) (by omega), gu_comm (k := 76) (j := z 0 5) (k' := 116) (j' := u) (by omega), gu_comm (k := 75) (j := z 0 5) (k' := 116) (j' := u) (by omega), gu_comm (k := 134) (j := 6) (k' := 116) (j' := u) (by omega), gu_comm (k := 140) (j := z 0 5) (k' := 116) (j' := u) (by omega), gu_comm (k := 138) (j := z 0 5) (k' := 116) (j' := u) (by omega)]
  rw [em] at t1
  have hv : vV (zGn z u) (nI (30000 + z 0 5)) := Or.inr (Or.inr ⟨z 0 5, Nat.lt_succ_self _, rfl⟩)
  refine eW_z (z' := zGn z u) (mu_eq rfl rfl) (b_en (q := e + 1) t1 (fun _ _ => rfl) s1 ?_ ⟨c1.1, c1.2.2⟩ hR rfl h15 rfl hv ?_ ?_)
  · rw [gu_oo _ (by decide), gu_oo _ (by decide), gu_oo _ (by decide), gu_oo _ (by decide), gu_kk]
  · repeat (refine kp_gu (by unfold kpc; omega) ?_)
    exact kp_rfl
  · repeat (refine kp_gu (by unfold kpc; omega) ?_)
    exact kp_rfl
/-- GET, HOOK -/
theorem i_get {G : Gt} {u p o : Nat} (h : cAt G u p 27) (hd : G 18 p = nI o) (ho : o < 4) : cS G (gu (gu G 116 u (nI (p + 1))) 84 16 (G 31 o)) := by
  refine cS_c h (by decide) (fun R K hk => ?_)
  obtain ⟨h7, h12, h11, hu6, hp, hp2, hw0⟩ := h
  refine pif_n (by decide) (pif_n (by decide) (pif_n (by decide) (pif_n (by decide) (pif_n (by decide) (pif_n (by decide) (pif_n (by decide) (pif_n (by decide) (pif_n (by decide) (pif_n (by decide) (pif_n (by decide) (pif_p (by decide) ?_)))))))))))
  rw [hd, rat_n ho (by decide)]
  exact ptc rfl hk
theorem i_hook {G : Gt} {u p : Nat} (h : cAt G u p 39) : cS G (gu (gu (gu G 116 u (nI (p + 1))) 19 8 (G 18 p)) 84 16 0) := by
  refine cS_e h (by decide) (fun R K hk => ?_)
  obtain ⟨h7, h12, h11, hu6, hp, hp2, hw0⟩ := h
  refine pif_n (by decide) (pif_n (by decide) (pif_n (by decide) (pif_n (by decide) (pif_n (by decide) (pif_n (by decide) (pif_n (by decide) (pif_n (by decide) (pif_n (by decide) (pif_n (by decide) (pif_p (by decide) ?_))))))))))
  exact ptc rfl (ptc rfl hk)
theorem i_rel_n {G : Gt} {u p l : Nat} (h : cAt G u p 38) (hd : G 18 p = nI l) (hl : l < 6) (h35 : G 35 l = -1) : cS G (oFl u (-1) (gu G 116 u (nI (p + 1)))) := by
  refine cS_e h (by decide) (fun R K hk => ?_)
  obtain ⟨h7, h12, h11, hu6, hp, hp2, hw0⟩ := h
  refine pif_n (by decide) (pif_n (by decide) (pif_n (by decide) (pif_n (by decide) (pif_n (by decide) (pif_n (by decide) (pif_n (by decide) (pif_n (by decide) (pif_n (by decide) (pif_p (by decide) ?_)))))))))
  unfold w_X2_reload
  rw [hd, rat_n hl (by decide)]
  exact pif_p h35 (k_fail (G := gu G 116 u (nI (p + 1))) h11 hu6 hk)
theorem i_rel_y {G : Gt} {u p l : Nat} (h : cAt G u p 38) (hd : G 18 p = nI l) (hl : l < 6) (h35 : ¬ G 35 l = -1) : cS G (gu (gu (gu G 116 u (nI (p + 1))) 35 l (G 84 16)) 84 16 0) := by
  refine cS_e h (by decide) (fun R K hk => ?_)
  obtain ⟨h7, h12, h11, hu6, hp, hp2, hw0⟩ := h
  refine pif_n (by decide) (pif_n (by decide) (pif_n (by decide) (pif_n (by decide) (pif_n (by decide) (pif_n (by decide) (pif_n (by decide) (pif_n (by decide) (pif_n (by decide) (pif_p (by decide) ?_)))))))))
  unfold w_X2_reload
  rw [hd, rat_n hl (by decide)]
  exact pif_n h35 (pcp rfl hl (by decide) rfl (ptc rfl hk))
theorem b_27 {N B : Nat} {z : Zt} {G0 M : Gt} {u e : Nat} (h : bs N B z G0 M 1 u 27 e 0 0) : eW N B z M (bS G0) := by
  obtain ⟨hs, h116, h118, h124, h15, hb, h19, h20, h67, h55⟩ := id h
  obtain ⟨f1, f2, f3, f4, f5, f6, f7, f8, f9, f10, f11, f12, f13, f14⟩ := st_f hs
  have hu := hs.2.1
  have hun := hs.2.2.1
  have h47 := hs.2.2.2.2.2.2.1
  have kk := st_k hs
  obtain ⟨hP, hA, hB, hC, hD, hE, hF, hG, hH, hI, hJ, hK, hL, hM, hN, hO, hPg, hQ, hR', hS, hT, hU⟩ := hs.1.1
  obtain ⟨Q1, Q2, Q3, Q4, Q5, Q6, Q7, Q8, Q9, Q10, Q11, Q12, Q13, Q14, Q15, Q16, Q17, Q18, Q19, Q20, Q21, Q22, Q23, Q24, Q25⟩ := hQ
  have hR1 := hR'.1
  have hR2 := hR'.2.1
  have hR3 := hR'.2.2.1
  obtain ⟨o, ho, eo⟩ := prq (k := 27) (w := 0) (d := 2) (n := 4) (by decide) (by decide) (by decide) (by omega) (Or.inr (Or.inl ⟨rfl, rfl⟩)) kk.1
  have c0 := st_code hs (q := 0) (w := 27) (d := M 48 (z 1 u)) (by rw [cd_27]; rfl)
  have c1 := st_code hs (q := 1) (w := 40) (d := -1) (by rw [cd_27]; rfl)
  rw [Nat.add_zero] at c0
  have s1 := i_get (cat f1 h116 (by omega) c0.1) (c0.2.1.trans eo) ho
  have hR := bN_27 hb h47 eo ho
  obtain ⟨o1, o2⟩ := hU.2.2.2.2.2 o ho
  rw [← o1] at hR
  have hst := st_fr (Gc := gu (gu M 116 u (nI (e + 1))) 84 16 (M 31 o)) (Gr := M) (sp' := 1) (fp' := 0) hs (ag3 (by decide) (ag1 hu (by decide) agw_rfl)) agw_rfl ⟨rfl, rfl, rfl, rfl, rfl⟩ (Nat.le_refl _) (Nat.zero_le _)
  exact b_en hst (fun _ _ => rfl) s1 (by rw [gu_oo _ (by decide), gu_kk]) ⟨c1.1, c1.2.2⟩ hR rfl h15 rfl o2 (kp_gu (by unfold kpc; omega) (kp_gu (by unfold kpc; omega) kp_rfl)) kp_rfl
theorem qU_bd {N : Nat} {z : Zt} {G : Gt} {l y : Nat} (h : qU N z G) (hy : y < N) : qU N z (gu (gu G 35 l (nI y)) 54 l (nI y)) := by
  obtain ⟨u1, u2, u3, u4, u5, u6⟩ := h
  refine ⟨u1, u2, ⟨fun k hk => ?_, u3.2⟩, u4, u5, u6⟩
  by_cases e : k = l
  · subst e; rw [gu_oo _ (by decide), gu_kk, gu_kk]; exact ⟨rfl, Or.inr ⟨y, hy, rfl⟩⟩
  · rw [gu_oo (a := 35) _ (by decide), gu_ko _ e, gu_ko _ e, gu_oo (a := 54) (k := 35) _ (by decide)]; exact u3.1 k hk
theorem qU_hk {N : Nat} {z : Zt} {G : Gt} {v : Int32} (h : qU N z G) (hv : v = -1 ∨ ∃ s, s < 6 ∧ v = nI s) : qU N z (gu (gu G 19 8 v) 46 12 v) := by
  obtain ⟨u1, u2, u3, u4, u5, u6⟩ := h
  exact ⟨u1, u2, ⟨u3.1, u3.2.1, by rw [gu_oo _ (by decide), gu_kk, gu_kk], by rw [gu_kk]; exact hv⟩, u4, u5, u6⟩
theorem r_rel {K : Gt → Prop} {C G H : Gt} {f l : Nat} {y : Int32} (hf : f < 1220) (hl : l < 6) (hH : H = if G 54 l = -1 then oFr f (-1) G else oEn 0 (G 65 f) (gu G 54 l y)) (h : K (mxw C H)) : w_X11_reloads K (nI f) (nI l) y (mxw C G) := by
  unfold w_X11_reloads w_X11_reloads_j32
  rw [nI_clamp (by omega)]
  by_cases c : G 54 l = -1
  · rw [hH, if_pos c] at h; exact ⟨vp_n hl (by decide), pif_p c (r_fails hf h)⟩
  · rw [hH, if_neg c] at h; exact ⟨vp_n hl (by decide), pif_n c ⟨vp_n hl (by decide), ptr rfl (r_ends hf h)⟩⟩
theorem b_39 {N B : Nat} {z : Zt} {G0 M : Gt} {u e : Nat} (h : bs N B z G0 M 1 u 39 e 0 0) : eW N B z M (bS G0) := by
  obtain ⟨hs, h116, h118, h124, h15, hb, h19, h20, h67, h55⟩ := id h
  obtain ⟨f1, f2, f3, f4, f5, f6, f7, f8, f9, f10, f11, f12, f13, f14⟩ := st_f hs
  have hu := hs.2.1
  have hun := hs.2.2.1
  have h47 := hs.2.2.2.2.2.2.1
  have kk := st_k hs
  obtain ⟨hP, hA, hB, hC, hD, hE, hF, hG, hH, hI, hJ, hK, hL, hM, hN, hO, hPg, hQ, hR', hS, hT, hU⟩ := hs.1.1
  obtain ⟨Q1, Q2, Q3, Q4, Q5, Q6, Q7, Q8, Q9, Q10, Q11, Q12, Q13, Q14, Q15, Q16, Q17, Q18, Q19, Q20, Q21, Q22, Q23, Q24, Q25⟩ := hQ
  have hR1 := hR'.1
  have hR2 := hR'.2.1
  have hR3 := hR'.2.2.1
  have c0 := st_code hs (q := 0) (w := 39) (d := M 48 (z 1 u)) (by rw [cd_39]; rfl)
  have c1 := st_code hs (q := 1) (w := 40) (d := -1) (by rw [cd_39]; rfl)
  rw [Nat.add_zero] at c0
  have s1 := i_hook (cat f1 h116 (by omega) c0.1)
  rw [c0.2.1] at s1
  have hR := bN_39 hb h47
  have hst0 := st_u (G' := gu (gu M 116 u (nI (e + 1))) 84 16 0) (sp' := 1) (fp' := 0) hs (ag3 (by decide) (ag1 hu (by decide) agw_rfl)) ⟨rfl, rfl, rfl, rfl, rfl⟩ (Nat.le_refl _) (Nat.zero_le _)
  have hst1 := st_w (G' := gu (gu (gu (gu M 116 u (nI (e + 1))) 84 16 0) 19 8 (M 48 (z 1 u))) 46 12 (M 48 (z 1 u))) (x' := M 31) hst0 (agr_gu (by unfold fr; omega) (agr_gu (by unfold fr; omega) agr_rfl)) (st_s hst0 :) (fun _ _ q => q) (qU_hk (st_qU hst0) (prh kk.1)) (Or.inl (fun _ _ => rfl))
  have em : gu (gu (gu (gu M 116 u (nI (e + 1))) 84 16 0) 19 8 (M 48 (z 1 u))) 46 12 (M 48 (z 1 u)) = mxw (gu (gu (gu M 116 u (nI (e + 1))) 19 8 (M 48 (z 1 u))) 84 16 0) (gu M 46 12 (M 48 (z 1 u))) := by
    rw [gu_comm (k := 84) (j := 16) (k' := 19) (j' := 8) (by decide), ← mxw_gR rfl, ← mxw_gC rfl, ← mxw_gC rfl, ← mxw_gC rfl, mxw_self]
  rw [em] at hst1
  exact b_en hst1 (fun _ _ => rfl) s1 (by rw [gu_oo _ (by decide), gu_oo _ (by decide), gu_kk]) ⟨c1.1, c1.2.2⟩ hR rfl h15 rfl (Or.inl (by unfold isnum; decide)) (kp_gu (by unfold kpc; omega) (kp_gu (by unfold kpc; omega) (kp_gu (by unfold kpc; omega) kp_rfl))) (kp_gu (by unfold kpc; omega) kp_rfl)
theorem b_38 {N B : Nat} {z : Zt} {G0 M : Gt} {u e : Nat} (h : bs N B z G0 M 1 u 38 e 0 0) : eW N B z M (bS G0) := by
  obtain ⟨hs, h116, h118, h124, h15, hb, h19, h20, h67, h55⟩ := id h
  obtain ⟨f1, f2, f3, f4, f5, f6, f7, f8, f9, f10, f11, f12, f13, f14⟩ := st_f hs
  have hu := hs.2.1
  have hun := hs.2.2.1
  have h47 := hs.2.2.2.2.2.2.1
  have kk := st_k hs
  obtain ⟨hP, hA, hB, hC, hD, hE, hF, hG, hH, hI, hJ, hK, hL, hM, hN, hO, hPg, hQ, hR', hS, hT, hU⟩ := hs.1.1
  obtain ⟨Q1, Q2, Q3, Q4, Q5, Q6, Q7, Q8, Q9, Q10, Q11, Q12, Q13, Q14, Q15, Q16, Q17, Q18, Q19, Q20, Q21, Q22, Q23, Q24, Q25⟩ := hQ
  have hR1 := hR'.1
  have hR2 := hR'.2.1
  have hR3 := hR'.2.2.1
  obtain ⟨l, hl, el⟩ := prq (k := 38) (w := 0) (d := 4) (n := 6) (by decide) (by decide) (by decide) (by omega) (Or.inr (Or.inr ⟨rfl, rfl⟩)) kk.1
  obtain ⟨y, hy, ey⟩ := prt (k := 38) (w := 1) (by decide) (by decide) (by decide) (by omega) kk.2.1
  have c0 := st_code hs (q := 0) (w := 0) (d := M 49 (z 1 u)) (by rw [cd_38]; rfl)
  have c1 := st_code hs (q := 1) (w := 38) (d := M 48 (z 1 u)) (by rw [cd_38]; rfl)
  have c2 := st_code hs (q := 2) (w := 40) (d := -1) (by rw [cd_38]; rfl)
  rw [Nat.add_zero] at c0
  have s1 := i_num (cat f1 h116 (by omega) c0.1)
  rw [c0.2.1, ey] at s1
  have hR := bN_38 (H := if M 54 l = -1 then oFr (z 6 u) (-1) M else oEn 0 (M 65 (z 6 u)) (gu M 54 l (nI y))) hb h47 (fun C K hk => by rw [el, ey]; exact r_rel f5 hl rfl hk)
  have h35 := (hU.2.2.1.1 l hl).1
  have ca : cAt (gu (gu M 116 u (nI (e + 1))) 84 16 (nI y)) u (e + 1) 38 := ⟨f1.1, f1.2.1, f1.2.2.1, f1.2.2.2, by rw [gu_oo _ (by decide), gu_kk], c1.2.2, c1.1⟩
  by_cases c : M 54 l = -1
  · rw [if_pos c] at hR
    have s2 := i_rel_n ca (c1.2.1.trans el) hl (h35.trans c)
    have hst := st_fr (Gc := gu (gu (gu M 116 u (nI (e + 1))) 84 16 (nI y)) 116 u (nI (e + 1 + 1))) (Gr := M) (sp' := 1) (fp' := 0) hs (ag1 hu (by decide) (ag3 (by decide) (ag1 hu (by decide) agw_rfl))) agw_rfl ⟨rfl, rfl, rfl, rfl, rfl⟩ (Nat.le_refl _) (Nat.zero_le _)
    exact f_err (t := 2) clo_bS hst (fun _ _ => rfl) (by unfold isnum; decide) ⟨_, s1, cT_1 s2⟩ (by decide) hR (kp_gu (by unfold kpc; omega) (kp_gu (by unfold kpc; omega) (kp_gu (by unfold kpc; omega) kp_rfl))) kp_rfl (by rw [gu_oo _ (by decide), gu_oo _ (by decide), gu_oo _ (by decide)]; exact h118)
  · rw [if_neg c] at hR
    have s2 := i_rel_y ca (c1.2.1.trans el) hl (fun q => c (h35.symm.trans q))
    rw [show (gu (gu M 116 u (nI (e + 1))) 84 16 (nI y)) 84 16 = nI y from rfl] at s2
    have hst0 := st_u (G' := gu (gu (gu (gu M 116 u (nI (e + 1))) 84 16 (nI y)) 116 u (nI (e + 1 + 1))) 84 16 0) (sp' := 1) (fp' := 0) hs (ag3 (by decide) (ag1 hu (by decide) (ag3 (by decide) (ag1 hu (by decide) agw_rfl)))) ⟨rfl, rfl, rfl, rfl, rfl⟩ (Nat.le_refl _) (Nat.zero_le _)
    have hst1 := st_w (G' := gu (gu (gu (gu (gu (gu M 116 u (nI (e + 1))) 84 16 (nI y)) 116 u (nI (e + 1 + 1))) 84 16 0) 35 l (nI y)) 54 l (nI y)) (x' := M 31) hst0 (ag5 (by decide) (ag5 (by decide) agr_rfl)) (st_s hst0 :) (fun k _ q => by
      by_cases e : k = l
      · subst e; rw [gu_kk]; exact nI_neg (by omega)
      · rw [gu_ko _ e]; exact q) (qU_bd (st_qU hst0) hy) (Or.inl (fun _ _ => rfl))
    have em : gu (gu (gu (gu (gu (gu M 116 u (nI (e + 1))) 84 16 (nI y)) 116 u (nI (e + 1 + 1))) 84 16 0) 35 l (nI y)) 54 l (nI y) = mxw (gu (gu (gu (gu (gu M 116 u (nI (e + 1))) 84 16 (nI y)) 116 u (nI (e + 1 + 1))) 35 l (nI y)) 84 16 0) (gu M 54 l (nI y)) := by
      rw [gu_comm (k := 84) (j := 16) (v := 0) (k' := 35) (j' := l) (by omega), ← mxw_gR rfl, ← mxw_gC rfl, ← mxw_gC rfl, ← mxw_gC rfl, ← mxw_gC rfl, ← mxw_gC rfl, mxw_self]
    rw [em] at hst1
    exact f_end (p := e + 2) (t := 2) clo_bS hst1 (fun _ _ => rfl) ⟨_, s1, cT_1 s2⟩ (by decide) (by rw [gu_oo _ (by decide), gu_oo _ (by decide), gu_kk]) ⟨c2.1, c2.2.2⟩ hR rfl h15 rfl (Or.inl (by unfold isnum; decide)) (kp_gu (by unfold kpc; omega) (kp_gu (by unfold kpc; omega) (kp_gu (by unfold kpc; omega) (kp_gu (by unfold kpc; omega) (kp_gu (by unfold kpc; omega) kp_rfl))))) (kp_gu (by unfold kpc; omega) kp_rfl)
theorem b_18_0 {N B : Nat} {z : Zt} {G0 M : Gt} {u e : Nat} (h : bs N B z G0 M 1 u 18 e 0 0) (h49 : M 49 (z 1 u) = -1) : eW N B z M (bS G0) := by
  obtain ⟨hs, h116, h118, h124, h15, hb, h19, h20, h67, h55⟩ := id h
  obtain ⟨f1, f2, f3, f4, f5, f6, f7, f8, f9, f10, f11, f12, f13, f14⟩ := st_f hs
  have hu := hs.2.1
  have hun := hs.2.2.1
  have h47 := hs.2.2.2.2.2.2.1
  have kk := st_k hs
  obtain ⟨hP, hA, hB, hC, hD, hE, hF, hG, hH, hI, hJ, hK, hL, hM, hN, hO, hPg, hQ, hR', hS, hT, hU⟩ := hs.1.1
  obtain ⟨Q1, Q2, Q3, Q4, Q5, Q6, Q7, Q8, Q9, Q10, Q11, Q12, Q13, Q14, Q15, Q16, Q17, Q18, Q19, Q20, Q21, Q22, Q23, Q24, Q25⟩ := hQ
  have hR1 := hR'.1
  have hR2 := hR'.2.1
  have hR3 := hR'.2.2.1
  obtain ⟨l, hl, el⟩ := prq (k := 18) (w := 0) (d := 4) (n := 6) (by decide) (by decide) (by decide) (by omega) (Or.inr (Or.inr ⟨rfl, rfl⟩)) kk.1
  obtain ⟨d0, d1, d2⟩ := dt_l hl
  have c1 := st_code hs (q := 0) (w := 18) (d := 0 * 6 + M 48 (z 1 u)) (by rw [cd_18, if_pos h49]; rfl)
  have c2 := st_code hs (q := 1) (w := 57) (d := -1) (by rw [cd_18, if_pos h49]; rfl)
  have c3 := st_code hs (q := 2) (w := 58) (d := -1) (by rw [cd_18, if_pos h49]; rfl)
  rw [Nat.add_zero] at c1
  have hco : cO (M 49 (z 1 u)) (M 50 (z 1 u)) = 0 := by unfold cO; rw [if_pos h49]
  have hst := st_fr (Gc := gu M 116 u (nI (e + 1))) (Gr := M) (sp' := 1) (fp' := 0) hs (ag1 hu (by decide) agw_rfl) agw_rfl ⟨rfl, rfl, rfl, rfl, rfl⟩ (Nat.le_refl _) (Nat.zero_le _)
  refine call_ev (l := l) (a := 0) (P := e + 1) (t := 1) (fst := 0) (snd := 0) clo_bS hst (fun _ _ => rfl) (Or.inl rfl) hl (by decide) ?_ (gu_kk _ _ _ _) c2.1 ⟨c3.1, c3.2.2⟩ ?_ (fun q => by omega) (fun _ => el) (fun q => by omega) (fun q => by omega) rfl (Or.inl (by unfold isnum; decide)) (fun q => absurd q (by decide)) (fun X hX => cT_1 (i_call (cat f1 h116 (by omega) c1.1) (c1.2.1.trans (by rw [el])) d0.1 d0.2 hX)) (by decide) (fun H hH => ?_) (kp_gu (by unfold kpc; omega) kp_rfl) kp_rfl
  · rw [hco]; rfl
  · rw [gu_oo _ (by decide), if_neg (by decide)]; exact h118
  · exact bN_18_0 hb h47 h49 (fun C K hk => by rw [el]; exact hH C K hk)