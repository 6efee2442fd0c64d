/-! LOOP: left, or begun again -/
theorem i_cau_p {G : Gt} {u p : Nat} (h : cAt G u p 49) (hc : (¬ G 84 15 = 2 ∧ ¬ G 84 15 = 3) ∨ ¬ G 84 18 = nI u) : cS G (gu G 116 u (nI (p + 1))) := by
  refine cS_b h (by decide) (fun R K hk => ?_)
  obtain ⟨h7, h12, h11, hu6, hp, hp2, hw0⟩ := h
  refine pif_n (by decide) (pif_p (by decide) ?_)
  unfold w_X2_catchLeaving w_X2_catchLeaving_j16 w_X2_catchLeaving_j37 w_X2_catchLeaving_j59
  rw [show (mxw (gu G 116 u (nI (p + 1))) R) 84 11 = nI u from h11, show (mxw (gu G 116 u (nI (p + 1))) R) 84 18 = G 84 18 from rfl, show (mxw (gu G 116 u (nI (p + 1))) R) 84 15 = G 84 15 from rfl]
  by_cases c : G 84 18 = nI u
  · rcases hc with q | q
    · exact pif_p c (pif_n (by decide) (pif_n q.1 (pif_n (by decide) (pif_n q.2 hk))))
    · exact absurd c q
  · exact pif_n c (pif_p rfl (pif_p rfl hk))
theorem i_cau_v {G : Gt} {u p : Nat} (h : cAt G u p 49) (h15 : G 84 15 = 2) (h18 : G 84 18 = nI u) : cS G (gu (gu G 116 u (nI (p + 1))) 84 15 0) := by
  refine cS_b h (by decide) (fun R K hk => ?_)
  obtain ⟨h7, h12, h11, hu6, hp, hp2, hw0⟩ := h
  refine pif_n (by decide) (pif_p (by decide) ?_)
  unfold w_X2_catchLeaving w_X2_catchLeaving_j16 w_X2_catchLeaving_j59
  rw [show (mxw (gu G 116 u (nI (p + 1))) R) 84 11 = nI u from h11, show (mxw (gu G 116 u (nI (p + 1))) R) 84 18 = G 84 18 from rfl, show (mxw (gu G 116 u (nI (p + 1))) R) 84 15 = G 84 15 from rfl]
  exact pif_p h18 (pif_n (by decide) (pif_p h15 (ptc rfl hk)))
theorem i_cau_o {G : Gt} {u p : Nat} (h : cAt G u p 49) (h15 : G 84 15 = 3) (h18 : G 84 18 = nI u) : cS G (gu (gu (gu G 116 u (nI (p + 1))) 84 15 0) 116 u (G 18 p)) := by
  refine cS_b h (by decide) (fun R K hk => ?_)
  obtain ⟨h7, h12, h11, hu6, hp, hp2, hw0⟩ := h
  refine pif_n (by decide) (pif_p (by decide) ?_)
  unfold w_X2_catchLeaving w_X2_catchLeaving_j16 w_X2_catchLeaving_j37 w_X2_catchLeaving_j59
  rw [show (mxw (gu G 116 u (nI (p + 1))) R) 84 11 = nI u from h11, show (mxw (gu G 116 u (nI (p + 1))) R) 84 18 = G 84 18 from rfl, show (mxw (gu G 116 u (nI (p + 1))) R) 84 15 = G 84 15 from rfl]
  exact pif_p h18 (pif_n (by decide) (pif_n (by rw [h15]; decide) (pif_n (by decide) (pif_p h15 (ptc rfl (k_jump (G := gu (gu G 116 u (nI (p + 1))) 84 15 0) h11 hu6 hk))))))
theorem n_13_p {N B : Nat} {z : Zt} {G : Gt} {x : Nat → Int32} {sp u e : Nat} (h : na N B z G x sp u 13 e 1) (hc : (¬ G 84 15 = 2 ∧ ¬ G 84 15 = 3) ∨ ¬ G 84 18 = nI u) (h1 : ¬ (G 46 41 = 3 ∧ G 46 43 = G 48 (z 1 u))) (h2 : ¬ (G 46 41 = 4 ∧ G 46 43 = G 48 (z 1 u))) : eW N B z G (rS G) := by
  have hs := na_s h
  obtain ⟨f1, f2, f3, f4, f5, f6, f7, f8, f9, f10, f11, f12, f13, f14⟩ := st_f hs
  have hu := hs.2.1
  have c3 := st_code hs (q := 3) (w := 49) (d := nI e) (by rw [cd_13]; rfl)
  have c4 := st_code hs (q := 4) (w := 40) (d := -1) (by rw [cd_13]; rfl)
  have p1 : G 116 u = nI (e + 3) := h.2.1
  have s1 := i_cau_p (cat f1 p1 c3.2.2 c3.1) hc
  have hX := hX_13_p (na_h h) h1 h2
  have hx := na_x h (by decide)
  have hao := aU_pass (c := u) h.2.2.2.2.1 (by
    intro l _ e43 h41 q
    rcases h41 with y | y
    · exact h1 ⟨y, e43.trans q.2.symm⟩
    · exact h2 ⟨y, e43.trans q.2.symm⟩)
  have hst := st_fr (Gc := gu G 116 u (nI (e + 3 + 1))) (Gr := gu G 46 57 (G 65 (z 6 u))) (sp' := sp) (fp' := 0) hs (ag1 hu (by decide) agw_rfl) (ag4 (by decide) agw_rfl) ⟨rfl, rfl, rfl, rfl, rfl⟩ (Nat.le_refl _) (Nat.le_refl _)
  refine f_out (p := e + 4) (t := 1) clo_rS hst hx (cT_1 s1) (by decide) (by rw [gu_kk]) ⟨c4.1, c4.2.2⟩ hX rfl hao h.2.2.2.1 (kp_gu (by unfold kpc; omega) kp_rfl) (kp_gu (by unfold kpc; omega) kp_rfl)
theorem n_13 {N B : Nat} {z : Zt} {G : Gt} {x : Nat → Int32} {sp u e : Nat} (h : na N B z G x sp u 13 e 1) : eW N B z G (rS G) := by
  have hs := na_s h
  obtain ⟨f1, f2, f3, f4, f5, f6, f7, f8, f9, f10, f11, f12, f13, f14⟩ := st_f hs
  have hu := hs.2.1
  have hun := hs.2.2.1
  have hV := na_V h
  have kk := st_k hs
  have hh := na_h h
  have hx := na_x h (by decide)
  obtain ⟨hP, hA, hB, hC, hD, hE, hF, hG, hH, hI, hJ, hK, hL, hM, hN, hO, hPg, hQ, hR', hS, hT, hU⟩ := hs.1.1
  obtain ⟨Q1, Q2, Q3, Q4, Q5, Q6, Q7, Q8, Q9, Q10, Q11, Q12, Q13, Q14, Q15, Q16, Q17, Q18, Q19, Q20, Q21, Q22, Q23, Q24, Q25⟩ := hQ
  have hR1 := hR'.1
  have hR2 := hR'.2.1
  have hR3 := hR'.2.2.1
  have hpl : ∀ i, i < z 0 0 → z 2 i = 0 → z 3 i < i := fun i hi h2 => ((hC i (by omega)).2.1 h2).1
  obtain ⟨y, hy, ey⟩ := prt (k := 13) (w := 1) (by decide) (by decide) (by decide) (by omega) kk.2.1
  have c0 := st_code hs (q := 0) (w := 47) (d := nI e + 3) (by rw [cd_13]; rfl)
  have c1 := st_code hs (q := 1) (w := 42) (d := G 49 (z 1 u)) (by rw [cd_13]; rfl)
  have c3 := st_code hs (q := 3) (w := 49) (d := nI e) (by rw [cd_13]; rfl)
  have c4 := st_code hs (q := 4) (w := 40) (d := -1) (by rw [cd_13]; rfl)
  have p1 : G 116 u = nI (e + 3) := h.2.1
  have e3 : nI e + 3 = nI (e + 3) := nI_add e 3
  rw [Nat.add_zero] at c0
  have ha := h.2.2.2.2.1
  rcases ha with ⟨a1, a2, _⟩ | ⟨a1, a2, a3, a4, l, t, a5, a6, a7, a8, a9⟩ | ⟨a1, a2, l, t, a5, a6, a7, a8, a9⟩ | ⟨a1, a2, _⟩
  · exact n_13_p h (Or.inl ⟨by rw [a1]; decide, by rw [a1]; decide⟩) (by rw [a2]; exact fun q => absurd q.1 (by decide)) (by rw [a2]; exact fun q => absurd q.1 (by decide))
  · rcases lW_step a9 with ⟨b1, b2⟩ | ⟨b1, b2, b3⟩
    · subst b2
      have s1 := i_cau_v (cat f1 p1 c3.2.2 c3.1) a1 a7
      have hX := hX_13_v hh a2 (a6.trans b1.2.symm)
      rw [oEn_57, ← a3] at hX
      have sp1 : sp = 1 := by
        rcases h.2.2.2.1 with q | q
        · exact q
        · rw [a1] at q; exact absurd q (by decide)
      subst sp1
      have hst := st_fr (Gc := gu (gu G 116 t (nI (e + 3 + 1))) 84 15 0) (Gr := G) (sp' := 1) (fp' := 0) hs (ag3 (by decide) (ag1 hu (by decide) agw_rfl)) agw_rfl ⟨rfl, rfl, rfl, rfl, rfl⟩ (Nat.le_refl _) (Nat.le_refl _)
      exact f_end (p := e + 4) (t := 1) clo_rS hst hx (cT_1 s1) (by decide) (by rw [gu_oo _ (by decide), gu_kk]) ⟨c4.1, c4.2.2⟩ hX rfl rfl rfl a4 (kp_gu (by unfold kpc; omega) (kp_gu (by unfold kpc; omega) kp_rfl)) kp_rfl
    · have t1 := lW_lt hpl (z 3 u) (z 3 u) (Nat.le_refl _) (by have := hpl u hun b2; omega) b3
      have t2 := hpl u hun b2
      refine n_13_p h (Or.inr ?_) (fun q => b1 ⟨hs.2.2.2.2.2.2.1, q.2.symm.trans a6⟩) (by rw [a2]; exact fun q => absurd q.1 (by decide))
      rw [a7]
      intro q
      have := (nI_eq (by omega) (by omega)).mp q
      omega
  · rcases lW_step a9 with ⟨b1, b2⟩ | ⟨b1, b2, b3⟩
    · subst b2
      have s1 := i_cau_o (cat f1 p1 c3.2.2 c3.1) a1 a7
      have hX := hX_13_o hh Q18 (by omega) a2 (a6.trans b1.2.symm)
      rw [ey, f7] at hX
      rw [c3.2.1] at s1
      have sp1 : sp = 1 := by
        rcases h.2.2.2.1 with q | q
        · exact q
        · rw [a1] at q; exact absurd q (by decide)
      subst sp1
      have s2 := i_guard (G := gu (gu (gu G 116 t (nI (e + 3 + 1))) 84 15 0) 116 t (nI e)) (u := t) (p := e) ⟨f1.1, f1.2.1, f1.2.2.1, f1.2.2.2, gu_kk _ _ _ _, by omega, c0.1⟩
      rw [show (gu (gu (gu G 116 t (nI (e + 3 + 1))) 84 15 0) 116 t (nI e)) 18 e = nI (e + 3) from c0.2.1.trans e3] at s2
      have s3 := i_doi (G := gu (gu (gu (gu (gu G 116 t (nI (e + 3 + 1))) 84 15 0) 116 t (nI e)) 116 t (nI (e + 1))) 118 t (nI (e + 3))) (u := t) (p := e + 1) (n := z 0 0) (m := y) (S := z 0 3) ⟨f1.1, f1.2.1, f1.2.2.1, f1.2.2.2, by rw [gu_oo _ (by decide), gu_kk], c1.2.2, c1.1⟩ f10 (by omega) Q19 (by omega) (c1.2.1.trans ey) (by omega)
      have hst := st_sc (oc := nI (z 13 (z 5 t))) (or' := nI (z 5 t)) (sp := 0) (st_u (G' := gu (gu (gu (gu (gu (gu (gu G 116 t (nI (e + 3 + 1))) 84 15 0) 116 t (nI e)) 116 t (nI (e + 1))) 118 t (nI (e + 3))) 116 t (nI (e + 1 + 1))) 46 57 (G 65 (z 6 t))) (sp' := 1) (fp' := 0) hs (ag4 (by decide) (ag1 hu (by decide) (ag1 hu (by decide) (ag1 hu (by decide) (ag1 hu (by decide) (ag3 (by decide) (ag1 hu (by decide) agw_rfl))))))) ⟨rfl, rfl, rfl, rfl, rfl⟩ (Nat.le_refl _) (Nat.le_refl _)) (Or.inr ⟨z 5 t, f8, rfl, rfl⟩)
      have em : oOp (z 0 3) (nI (z 13 (z 5 t))) (oOr (z 0 2) (nI (z 5 t)) (gu (gu (gu (gu (gu (gu (gu G 116 t (nI (e + 3 + 1))) 84 15 0) 116 t (nI e)) 116 t (nI (e + 1))) 118 t (nI (e + 3))) 116 t (nI (e + 1 + 1))) 46 57 (G 65 (z 6 t)))) = mxw (oOp (z 0 3) (nI (z 13 (z 5 t))) (gu (gu (gu (gu (gu (gu G 116 t (nI (e + 3 + 1))) 84 15 0) 116 t (nI e)) 116 t (nI (e + 1))) 118 t (nI (e + 3))) 116 t (nI (e + 1 + 1)))) (oOr (z 0 2) (nI (z 5 t)) (gu G 46 57 (G 65 (z 6 t)))) := by
        rw [mxw_op, mxw_or, ← mxw_gR rfl, ← mxw_gC rfl, ← mxw_gC rfl, ← mxw_gC rfl, ← mxw_gC rfl, ← mxw_gC rfl, ← mxw_gC rfl, mxw_self]
      rw [em] at hst
      refine eW_z (z' := zSc z) (mu_eq rfl rfl) ?_
      refine f_dog (q := e + 2) (y := y) (s := z 0 2) (p' := 1) (t := 3) clo_rS hst hx (by show z 0 2 < z 0 2 + 1; omega) ?_ (by decide) ?_ hy hX ?_ ?_ (Or.inl rfl) (by unfold kP; omega) (by omega) (Or.inl rfl) ?_ ?_
      · rw [zSc_n]
        refine ⟨_, s1, _, s2, _, s3, ?_⟩
        rw [show (gu (gu (gu (gu (gu G 116 t (nI (e + 3 + 1))) 84 15 0) 116 t (nI e)) 116 t (nI (e + 1))) 118 t (nI (e + 3))) 112 t = nI (z 13 (z 5 t)) from f9]
        exact eqc_rfl
      · rw [op_n (by decide), gu_kk]
      · exact kp_op (kp_agw (ag1 hu (by decide) (ag1 hu (by decide) (ag1 hu (by decide) (ag1 hu (by decide) (ag3 (by decide) (ag1 hu (by decide) agw_rfl)))))))
      · exact kp_or (kp_gu (by unfold kpc; omega) kp_rfl)
      · rw [op_n (by decide), gu_oo _ (by decide), gu_kk]
        rfl
      · refine xV_mk (Or.inl rfl) (by decide) (by decide) (by decide) ?_ (fun q => by omega) (fun q => by omega)
        show (oOr (z 0 2) (nI (z 5 t)) (gu G 46 57 (G 65 (z 6 t)))) 67 (z 6 t) = 0
        rw [or_n (by omega), gu_oo _ (by decide)]
        exact xV_67a hV (by decide)
    · have t1 := lW_lt hpl (z 3 u) (z 3 u) (Nat.le_refl _) (by have := hpl u hun b2; omega) b3
      have t2 := hpl u hun b2
      refine n_13_p h (Or.inr ?_) (by rw [a2]; exact fun q => absurd q.1 (by decide)) (fun q => b1 ⟨hs.2.2.2.2.2.2.1, q.2.symm.trans a6⟩)
      rw [a7]
      intro q
      have := (nI_eq (by omega) (by omega)).mp q
      omega
  · exact n_13_p h (Or.inl ⟨by rw [a1]; decide, by rw [a1]; decide⟩) (by rw [a2]; exact fun q => absurd q.1 (by decide)) (by rw [a2]; exact fun q => absurd q.1 (by decide))
/-! TRY -/
/-- a scope that was kept for the handler -/
theorem st_cr {N B : Nat} {z : Zt} {G : Gt} {x : Nat → Int32} {sp fp u k e : Nat} (h : st N B z G x sp fp u k e) (h19 : z 19 u = 1) : st N B (zu z 19 u 0) G x (sp + 1) fp u k e := by
  obtain ⟨⟨⟨hP, hA, hB, hC, hD, hE, hF, hG, hH, hI, hJ, hK, hL, hM, hN, hO, hPg, hQ, hR, hS, hT, hU⟩, hm, h6, h12, hFr⟩, hu, hn, hd, hk, he, h47, h13⟩ := h
  have hX : eX N z G (zu z 19 u 0) G := ⟨⟨Nat.le_refl _, Nat.le_refl _, Nat.le_refl _, Nat.le_refl _, Nat.le_refl _⟩, fun _ _ => ⟨rfl, rfl, rfl, rfl, rfl⟩, fun _ _ _ => rfl, fun _ _ h0 => ⟨h0, rfl⟩, fun _ hs => rfl, fun _ _ => ⟨rfl, rfl, rfl, rfl, rfl⟩, fun _ _ => rfl, fun _ _ h => h⟩
  have hf := fX_of hA hC (by omega)
  obtain ⟨r1, r2, r3, r4⟩ := hR
  have b4 := hQ.1
  have b5 := hQ.2.2.2.1
  have hH' : qH (zu z 19 u 0) G := fun i hi h1 h2 => by
    have ne : ¬ i = u := by
      intro e; subst e
      have h2' : z 9 i ≤ 5 := h2
      rw [hu] at h6; omega
    exact dV_ext hX hf hi (by omega) rfl (by simp [zu, ne]) rfl rfl rfl rfl rfl rfl rfl rfl rfl rfl (hH i hi h1 h2)
  have hS' : qS (zu z 19 u 0) G x := by
    obtain ⟨f', hf'⟩ := hS
    refine ⟨f', fun o ho => ?_⟩
    exact oK_ext (N := N) (z := z) (G := G) (G' := G) (z' := zu z 19 u 0) (Nat.le_refl _) hf.1 (fun _ _ => rfl) (fun _ _ => ⟨rfl, rfl⟩) f' (fun q _ q2 _ _ => ⟨q2, rfl, rfl, rfl⟩) _ _ (hf' o ho)
  have hsm : sm ((zu z 19 u 0) 19) (z 0 0) + 1 = sm (z 19) (z 0 0) := by
    have := sm_up (f := (zu z 19 u 0) 19) (g := z 19) (j := u) (n := z 0 0) hn (fun i _ hne => by simp [zu, hne])
    have e : (zu z 19 u 0) 19 u = 0 := by simp [zu]
    rw [e, h19] at this
    omega
  exact ⟨⟨⟨hP, hA, hB, hC, hD, hE, hF, hG, hH', hI, hJ, hK, hL, hM, hN, hO, hPg, hQ, ⟨by show z 0 3 + sm ((zu z 19 u 0) 19) (z 0 0) + (sp + 1) ≤ 1 + z 0 0; omega, r2, r3, r4⟩, hS', hT, hU⟩, hm, h6, h12, hFr⟩, hu, hn, hd, hk, he, h47, h13⟩
theorem i_cat_n {G : Gt} {u p : Nat} (h : cAt G u p 48) (h15 : ¬ G 84 15 = 1) : cS G (gu (gu G 116 u (nI (p + 1))) 116 u 0) := by
  refine cS_b h (by decide) (fun R K hk => ?_)
  obtain ⟨h7, h12, h11, hu6, hp, hp2, hw0⟩ := h
  refine pif_p (by decide) (pif_n h15 (k_jump (G := gu G 116 u (nI (p + 1))) h11 hu6 hk))
theorem i_cat_y {G : Gt} {u p S S0 j : Nat} (h : cAt G u p 48) (h15 : G 84 15 = 1) (h112 : G 112 u = nI S0) (h129 : G 129 2 = nI S) (hS : S < 1210) (hd : G 18 p = nI j) (hj : j < 8) : cS G (gu (gu (gu (oOp S (nI S0) (gu G 116 u (nI (p + 1)))) 133 (8 * S + j) (G 84 16)) 124 u (nI S)) 84 15 0) := by
  refine cS_b h (by decide) (fun R K hk => ?_)
  obtain ⟨h7, h12, h11, hu6, hp, hp2, hw0⟩ := h
  refine pif_p (by decide) (pif_p h15 ?_)
  rw [rat_u (G := gu G 116 u (nI (p + 1))) h11 hu6, show (mxw (gu G 116 u (nI (p + 1))) R) 112 u = nI S0 from h112]
  refine k_open (G := gu G 116 u (nI (p + 1))) h129 hS ?_
  rw [hd]
  refine k_bind (G := oOp S (nI S0) (gu G 116 u (nI (p + 1)))) hS hj (pcp (i := u) ?_ hu6 (by decide) rfl (ptc rfl hk))
  exact h11
theorem n_20_1 {N B : Nat} {z : Zt} {G : Gt} {x : Nat → Int32} {sp u e : Nat} (h : na N B z G x sp u 20 e 1) : eW N B z G (rS G) := by
  have hs := na_s h
  obtain ⟨f1, f2, f3, f4, f5, f6, f7, f8, f9, f10, f11, f12, f13, f14⟩ := st_f hs
  have hu := hs.2.1
  have hun := hs.2.2.1
  have hV := na_V h
  have kk := st_k hs
  have hh := na_h h
  have hx := na_x h (by decide)
  obtain ⟨hP, hA, hB, hC, hD, hE, hF, hG, hH, hI, hJ, hK, hL, hM, hN, hO, hPg, hQ, hR', hS, hT, hU⟩ := hs.1.1
  obtain ⟨Q1, Q2, Q3, Q4, Q5, Q6, Q7, Q8, Q9, Q10, Q11, Q12, Q13, Q14, Q15, Q16, Q17, Q18, Q19, Q20, Q21, Q22, Q23, Q24, Q25⟩ := hQ
  have hR1 := hR'.1
  have hR2 := hR'.2.1
  have hR3 := hR'.2.2.1
  have c3 := st_code hs (q := 3) (w := 48) (d := G 48 (z 1 u)) (by rw [cd_20]; rfl)
  have c4 := st_code hs (q := 4) (w := 43) (d := G 50 (z 1 u)) (by rw [cd_20]; rfl)
  have p1 : G 116 u = nI (e + 3) := h.2.1
  have ha := h.2.2.2.2.1
  have h41 : G 84 15 = 1 ↔ G 46 41 = 2 := by
    rcases ha with ⟨a1, a2, _⟩ | ⟨a1, a2, _⟩ | ⟨a1, a2, _⟩ | ⟨a1, a2, _⟩ <;> rw [a1, a2] <;> decide
  by_cases c : G 84 15 = 1
  · obtain ⟨y, hy, ey⟩ := prt (k := 20) (w := 2) (by decide) (by decide) (by decide) (by omega) kk.2.2
    obtain ⟨j, hj, ej⟩ := prq (k := 20) (w := 0) (d := 3) (n := 8) (by decide) (by decide) (by decide) (by omega) (Or.inl ⟨rfl, rfl⟩) kk.1
    have hv : G 84 16 = G 46 42 ∧ vV z (G 84 16) := by
      rcases ha with ⟨_, _, a3, a4, _⟩ | ⟨a1, _⟩ | ⟨a1, _⟩ | ⟨a1, _⟩
      · exact ⟨a3, Or.inl a4⟩
      · rw [c] at a1; exact absurd a1 (by decide)
      · rw [c] at a1; exact absurd a1 (by decide)
      · rw [c] at a1; exact absurd a1 (by decide)
    have h19 := ((xV_pc hV) (Or.inl ⟨rfl, rfl⟩)).1
    have s1 := i_cat_y (cat f1 p1 c3.2.2 c3.1) c f9 Q19 (by omega) (c3.2.1.trans ej) hj
    have s2 := i_dh (G := gu (gu (gu (oOp (z 0 3) (nI (z 13 (z 5 u))) (gu G 116 u (nI (e + 3 + 1)))) 133 (8 * z 0 3 + j) (G 84 16)) 124 u (nI (z 0 3))) 84 15 0) (u := u) (p := e + 4) (n := z 0 0) (m := y) ⟨f1.1, f1.2.1, f1.2.2.1, f1.2.2.2, by rw [gu_oo _ (by decide), gu_oo _ (by decide), gu_oo _ (by decide), op_n (by decide), gu_kk], c4.2.2, c4.1⟩ f10 (by omega) (c4.2.1.trans ey) (by omega)
    have hX := hX_20_c hh Q18 (by omega) ej hj (h41.mp c) (xV_67a hV (by decide))
    rw [ey, f7, ← hv.1] at hX
    have t0 := st_u (G' := gu (gu G 116 u (nI (e + 3 + 1))) 46 57 (G 65 (z 6 u))) (sp' := 0) (fp' := 0) hs (ag4 (by decide) (ag1 hu (by decide) agw_rfl)) ⟨rfl, rfl, rfl, rfl, rfl⟩ (Nat.zero_le _) (Nat.le_refl _)
    have t1 := st_sc (oc := nI (z 13 (z 5 u))) (or' := nI (z 5 u)) (st_cr t0 h19) (Or.inr ⟨z 5 u, f8, rfl, rfl⟩)
    have t2 := st_bn (s := z 0 2) (j := j) (v := G 84 16) t1 (Nat.lt_succ_self _) hj hv.2
    rw [show (zSc (zu z 19 u 0)) 13 (z 0 2) = z 0 3 from zSc_n] at t2
    have t3 := st_u (G' := gu (gu (gu (gu (gu (gu (oOp (z 0 3) (nI (z 13 (z 5 u))) (oOr (z 0 2) (nI (z 5 u)) (gu (gu G 116 u (nI (e + 3 + 1))) 46 57 (G 65 (z 6 u))))) 133 (8 * z 0 3 + j) (G 84 16)) 72 (8 * z 0 2 + j) (G 84 16)) 124 u (nI (z 0 3))) 84 15 0) 116 u (nI (e + 4 + 1))) 67 (z 6 u) 1) (sp' := 0) (fp' := 0) t2 (ag2 (z := zSc (zu z 19 u 0)) hu (by decide) (ag1 (z := zSc (zu z 19 u 0)) hu (by decide) (ag3 (by decide) (ag1 (z := zSc (zu z 19 u 0)) hu (by decide) agw_rfl)))) ⟨rfl, rfl, rfl, rfl, rfl⟩ (Nat.le_refl _) (Nat.le_refl _)
    have em : gu (gu (gu (gu (gu (gu (oOp (z 0 3) (nI (z 13 (z 5 u))) (oOr (z 0 2) (nI (z 5 u)) (gu (gu G 116 u (nI (e + 3 + 1))) 46 57 (G 65 (z 6 u))))) 133 (8 * z 0 3 + j) (G 84 16)) 72 (8 * z 0 2 + j) (G 84 16)) 124 u (nI (z 0 3))) 84 15 0) 116 u (nI (e + 4 + 1))) 67 (z 6 u) 1 = mxw (gu (gu (gu (gu (oOp (z 0 3) (nI (z 13 (z 5 u))) (gu G 116 u (nI (e + 3 + 1)))) 133 (8 * z 0 3 + j) (G 84 16)) 124 u (nI (z 0 3))) 84 15 0) 116 u (nI (e + 4 + 1))) (gu (gu (oOr (z 0 2) (nI (z 5 u)) (gu G 46 57 (G 65 (z 6 u)))) 72 (8 * z 0 2 + j) (G 84 16)) 67 (z 6 u) 1) := by
      rw [← mxw_gR rfl, ← mxw_gC rfl, ← mxw_gC rfl, ← mxw_gC rfl, ← mxw_gR rfl, ← mxw_gC rfl, mxw_op, mxw_or, ← mxw_gR rfl, ← mxw_gC rfl, mxw_self]
    rw [em] at t3
    refine eW_z (z' := zSc (zu z 19 u 0)) (mu_eq rfl rfl) ?_
    refine f_dog (q := e + 5) (y := y) (s := z 0 2) (p' := 2) (t := 2) clo_rS t3 hx (by show z 0 2 < z 0 2 + 1; omega) ?_ (by decide) ?_ hy hX ?_ ?_ (Or.inr rfl) (by unfold kP; omega) (by omega) (Or.inl rfl) ?_ ?_
    · rw [show (zSc (zu z 19 u 0)) 13 (z 0 2) = z 0 3 from zSc_n]
      refine ⟨_, s1, _, s2, ?_⟩
      rw [show (gu (gu (gu (oOp (z 0 3) (nI (z 13 (z 5 u))) (gu G 116 u (nI (e + 3 + 1)))) 133 (8 * z 0 3 + j) (G 84 16)) 124 u (nI (z 0 3))) 84 15 0) 124 u = nI (z 0 3) from by rw [gu_oo _ (by decide), gu_kk]]
      exact eqc_rfl
    · rw [gu_kk]
    · exact kp_gu (by unfold kpc; omega) (kp_gu (by unfold kpc; omega) (kp_gu (by unfold kpc; omega) (kp_gu (by unfold kpc; omega) (kp_op (kp_gu (by unfold kpc; omega) kp_rfl)))))
    · exact kp_gu (by unfold kpc; omega) (kp_gu (by unfold kpc; omega) (kp_or (kp_gu (by unfold kpc; omega) kp_rfl)))
    · rw [gu_oo _ (by decide), gu_oo _ (by decide), gu_oo _ (by decide), gu_oo _ (by decide), op_n (by decide), gu_oo _ (by decide)]
      exact h.2.2.1
    · refine xV_mk (Or.inr rfl) (by decide) (by decide) (by decide) ?_ (fun _ q => by omega) (fun q => by omega)
      show (gu (gu (oOr (z 0 2) (nI (z 5 u)) (gu G 46 57 (G 65 (z 6 u)))) 72 (8 * z 0 2 + j) (G 84 16)) 67 (z 6 u) 1) 67 (z 6 u) = 1
      rw [gu_kk]
  · have hao := aU_pass (c := u) ha (na_nl h (by decide))
    have s1 := i_cat_n (cat f1 p1 c3.2.2 c3.1) c
    have hX := hX_20_p hh (fun q => c (h41.mpr q.1))
    have hst := st_fr (Gc := gu (gu G 116 u (nI (e + 3 + 1))) 116 u 0) (Gr := gu G 46 57 (G 65 (z 6 u))) (sp' := sp) (fp' := 0) hs (ag1 hu (by decide) (ag1 hu (by decide) agw_rfl)) (ag4 (by decide) agw_rfl) ⟨rfl, rfl, rfl, rfl, rfl⟩ (Nat.le_refl _) (Nat.le_refl _)
    exact f_out (p := 0) (t := 1) clo_rS hst hx (cT_1 s1) (by decide) (by rw [gu_kk]; rfl) ⟨hP.2.2.2.1, by decide⟩ hX rfl hao h.2.2.2.1 (kp_gu (by unfold kpc; omega) (kp_gu (by unfold kpc; omega) kp_rfl)) (kp_gu (by unfold kpc; omega) kp_rfl)
theorem n_20_2 {N B : Nat} {z : Zt} {G : Gt} {x : Nat → Int32} {sp u e : Nat} (h : na N B z G x sp u 20 e 2) : eW N B z G (rS G) :=
  n_pass h (by decide) rfl (hX_20_p (na_h h) (fun q => by have := q.2; rw [xV_67b (na_V h)] at this; exact absurd this (by decide))) (na_nl h (by decide))
