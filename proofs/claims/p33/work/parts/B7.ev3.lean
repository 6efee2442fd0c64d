/-! VALUE EVENTS: LET, PUT, LOOP, BREAK, RETURN, THROW -/
theorem nI_00 : nI 0 = 0 := rfl
theorem op_n {S : Nat} {o : Int32} {G : Gt} {k j : Nat} (h : ¬ k = 133 ∧ ¬ k = 131 ∧ ¬ k = 129) : (oOp S o G) k j = G k j := by
  unfold oOp
  rw [if_neg h.1, gu_oo _ h.2.1, gu_oo _ h.2.2]
theorem or_n {s : Nat} {o : Int32} {G : Gt} {k j : Nat} (h : ¬ k = 72 ∧ ¬ k = 71 ∧ ¬ (k = 46 ∧ j = 29)) : (oOr s o G) k j = G k j := by
  unfold oOr
  rw [if_neg h.1, gu_n h.2.2, gu_oo _ h.2.1]
theorem st_13 {N B : Nat} {z : Zt} {G : Gt} {x : Nat → Int32} {sp fp u k e : Nat} (h : st N B z G x sp fp u k e) : ∀ s, s < z 0 2 → z 13 s < z 0 3 := fun s hs => (h.1.1.2.2.2.2.2.2.2.2.2.2.2.2.2.2.1.2 s hs).1
theorem v_2_1 {N B : Nat} {z : Zt} {G : Gt} {x : Nat → Int32} {u e : Nat} (h : va N B z G x u 2 e 1) : eW N B z G (rS G) := by
  have hs := va_s h
  obtain ⟨f1, f2, f3, f4, f5, f6, f7, f8, f9, f10, f11, f12, f13, f14⟩ := st_f hs
  have hu := hs.2.1
  have hh := va_h h
  have hV := va_V h
  obtain ⟨v1, v2, v3⟩ := va_v h
  have kk := st_k hs
  have hun := hs.2.2.1
  have hx := va_x h (by decide)
  obtain ⟨j, hj, ej⟩ := prq (k := 2) (w := 0) (d := 3) (n := 8) (by decide) (by decide) (by decide) (by omega) (Or.inl ⟨rfl, rfl⟩) kk.1
  have c1 := st_code hs (q := 1) (w := 2) (d := G 48 (z 1 u)) (by rw [cd_2]; rfl)
  have c2 := st_code hs (q := 2) (w := 40) (d := -1) (by rw [cd_2]; rfl)
  have p1 := va_p h (q := 1) (by decide) rfl
  have s13 := st_13 hs _ f8
  have s1 := i_let (cat f1 p1 c1.2.2 c1.1) f9 (by omega) (c1.2.1.trans ej) hj
  have hR := hV_2 hh f7 ej (by omega) hj
  rw [v2] at hR
  have hst := st_bn (st_u (G' := gu G 116 u (nI (e + 1 + 1))) (sp' := 1) (fp' := 0) hs (ag1 hu (by decide) agw_rfl) ⟨rfl, rfl, rfl, rfl, rfl⟩ (Nat.le_refl _) (Nat.le_refl _)) (s := z 5 u) (j := j) (v := G 84 16) f8 hj v1
  have em : gu (gu (gu G 116 u (nI (e + 1 + 1))) 133 (8 * z 13 (z 5 u) + j) (G 84 16)) 72 (8 * z 5 u + j) (G 84 16) = mxw (gu (gu G 116 u (nI (e + 1 + 1))) 133 (8 * z 13 (z 5 u) + j) (G 84 16)) (gu G 72 (8 * z 5 u + j) (G 84 16)) := by
    rw [← mxw_gR rfl, ← mxw_gC rfl, ← mxw_gC rfl, mxw_self]
  rw [em] at hst
  exact f_end (p := e + 2) (t := 1) clo_rS hst hx (cT_1 s1) (by decide) (by rw [gu_oo _ (by decide), gu_kk]) ⟨c2.1, c2.2.2⟩ hR rfl v3 rfl v1 (kp_gu (by unfold kpc; omega) (kp_gu (by unfold kpc; omega) kp_rfl)) (kp_gu (by unfold kpc; omega) kp_rfl)
theorem i_put_y {G : Gt} {u p S S' j : Nat} (h : cAt G u p 3) (h112 : G 112 u = nI S) (hd : G 18 p = nI j) (hj : j < 8) (hS' : S' < 1210) (hl : ∀ (R : Gt) (K : Int32 → Gt → Prop), K (nI S') (mxw (gu G 116 u (nI (p + 1))) R) → w_X7_holderOf K (nI S) (nI j) (mxw (gu G 116 u (nI (p + 1))) R)) : cS G (gu (gu G 116 u (nI (p + 1))) 133 (8 * S' + j) (G 84 16)) := by
  refine cS_r h (by decide) (fun R K hk => ?_)
  obtain ⟨h7, h12, h11, hu6, hp, hp2, hw0⟩ := h
  rw [hd]
  refine pif_n (by decide) (pif_n (by decide) (pif_n (by decide) (pif_p (by decide) ?_)))
  rw [rat_u (G := gu G 116 u (nI (p + 1))) h11 hu6, show (mxw (gu G 116 u (nI (p + 1))) R) 112 u = nI S from h112]
  refine hl R _ (pif_n ?_ (k_bind (G := gu G 116 u (nI (p + 1))) hS' hj hk))
  intro q
  exact absurd q (nI_neg (by omega))
theorem i_put_n {G : Gt} {u p S j : Nat} (h : cAt G u p 3) (h112 : G 112 u = nI S) (hd : G 18 p = nI j) (hl : ∀ (R : Gt) (K : Int32 → Gt → Prop), K (-1) (mxw (gu G 116 u (nI (p + 1))) R) → w_X7_holderOf K (nI S) (nI j) (mxw (gu G 116 u (nI (p + 1))) R)) : cS G (oFl u (-1) (gu G 116 u (nI (p + 1)))) := by
  refine cS_r h (by decide) (fun R K hk => ?_)
  obtain ⟨h7, h12, h11, hu6, hp, hp2, hw0⟩ := h
  rw [hd]
  refine pif_n (by decide) (pif_n (by decide) (pif_n (by decide) (pif_p (by decide) ?_)))
  rw [rat_u (G := gu G 116 u (nI (p + 1))) h11 hu6, show (mxw (gu G 116 u (nI (p + 1))) R) 112 u = nI S from h112]
  exact hl R _ (pif_p rfl (k_fail (G := gu G 116 u (nI (p + 1))) h11 hu6 hk))
theorem v_3_1 {N B : Nat} {z : Zt} {G : Gt} {x : Nat → Int32} {u e : Nat} (h : va N B z G x u 3 e 1) : eW N B z G (rS G) := by
  have hs := va_s h
  obtain ⟨f1, f2, f3, f4, f5, f6, f7, f8, f9, f10, f11, f12, f13, f14⟩ := st_f hs
  have hu := hs.2.1
  have hh := va_h h
  have hV := va_V h
  obtain ⟨v1, v2, v3⟩ := va_v h
  have kk := st_k hs
  have hun := hs.2.2.1
  have hx := va_x h (by decide)
  obtain ⟨hP, hA, hB, hC, hD, hE, hF, hG, hH, hI, hJ, hK, hL, hM, hN, hO, hPg, hQ, hR', hS, hT, hU⟩ := hs.1.1
  obtain ⟨Q1, Q2, Q3, Q4, Q5, Q6, Q7, Q8, Q9, Q10, Q11, Q12, Q13, Q14, Q15, Q16, Q17, Q18, Q19, Q20, Q21, Q22, Q23, Q24, Q25⟩ := hQ
  have hR1 := hR'.1
  have hR2 := hR'.2.1
  have hR3 := hR'.2.2.1
  obtain ⟨j, hj, ej⟩ := prq (k := 3) (w := 0) (d := 3) (n := 8) (by decide) (by decide) (by decide) (by omega) (Or.inl ⟨rfl, rfl⟩) kk.1
  have c1 := st_code hs (q := 1) (w := 3) (d := G 48 (z 1 u)) (by rw [cd_3]; rfl)
  have c2 := st_code hs (q := 2) (w := 40) (d := -1) (by rw [cd_3]; rfl)
  have p1 := va_p h (q := 1) (by decide) rfl
  have hl := va_l h (show lao 3 1 = 0 from rfl)
  have hst0 := st_u (G' := gu G 116 u (nI (e + 1 + 1))) (sp' := 1) (fp' := 0) hs (ag1 hu (by decide) agw_rfl) ⟨rfl, rfl, rfl, rfl, rfl⟩ (Nat.le_refl _) (Nat.le_refl _)
  have em0 : gu G 116 u (nI (e + 1 + 1)) = mxw (gu G 116 u (nI (e + 1 + 1))) G := by rw [← mxw_gC rfl, mxw_self]
  rcases lookV (Gc := gu G 116 u (nI (e + 1 + 1))) (Gr := G) hN (by omega) (by omega) (by omega) (by omega) hj rfl rfl rfl rfl (z 5 u) (z 5 u) (Nat.le_refl _) f8 with ⟨s', q1, q2, q3, q4, q5⟩ | ⟨q4, q5⟩
  · have hS' : z 13 s' < 1210 := by have := (hN.2 s' q1).1; omega
    have s1 := i_put_y (S' := z 13 s') (cat f1 p1 c1.2.2 c1.1) f9 (c1.2.1.trans ej) hj hS' (fun R K hk => ⟨z 5 u + 2, q4 R K (z 5 u + 2) 0 (Nat.le_refl _) (by omega) hk⟩)
    have hR := hV_3 (H := oEn (G 46 42) (G 65 (z 6 u)) (gu G 72 (8 * s' + j) (G 46 42))) hh (fun C K hk => by
      rw [f7, ej]
      refine ⟨z 5 u + 2, q5 C _ (z 5 u + 2) (Nat.le_refl _) ?_⟩
      refine pif_n (nI_neg (by omega)) ?_
      have := ptri (C := C) (R := G) (k := 72) (i := 8 * s' + j) (N := 4960) (x := nI (8 * s' + j)) (v := G 46 42) (F := fun G1 => w_X11_ends (fun G2 => w_X11_puts_j27 K G2) (nI (z 6 u)) (G 46 42) G1) rfl (by omega) (by decide) rfl (r_ends f5 hk)
      exact this)
    rw [v2] at hR
    have hst := st_bn hst0 (s := s') (j := j) (v := G 84 16) q1 hj v1
    have em : gu (gu (gu G 116 u (nI (e + 1 + 1))) 133 (8 * z 13 s' + j) (G 84 16)) 72 (8 * s' + j) (G 84 16) = mxw (gu (gu G 116 u (nI (e + 1 + 1))) 133 (8 * z 13 s' + j) (G 84 16)) (gu G 72 (8 * s' + j) (G 84 16)) := by
      rw [← mxw_gR rfl, ← mxw_gC rfl, ← mxw_gC rfl, mxw_self]
    rw [em] at hst
    exact f_end (p := e + 2) (t := 1) clo_rS hst hx (cT_1 s1) (by decide) (by rw [gu_oo _ (by decide), gu_kk]) ⟨c2.1, c2.2.2⟩ hR rfl v3 rfl v1 (kp_gu (by unfold kpc; omega) (kp_gu (by unfold kpc; omega) kp_rfl)) (kp_gu (by unfold kpc; omega) kp_rfl)
  · have s1 := i_put_n (cat f1 p1 c1.2.2 c1.1) f9 (c1.2.1.trans ej) (fun R K hk => ⟨z 5 u + 2, q4 R K (z 5 u + 2) 0 (Nat.le_refl _) (by omega) hk⟩)
    have hR := hV_3 (H := oFr (z 6 u) (-1) G) hh (fun C K hk => by
      rw [f7, ej]
      exact ⟨z 5 u + 2, q5 C _ (z 5 u + 2) (Nat.le_refl _) (pif_p rfl (r_fails f5 hk))⟩)
    rw [em0] at hst0
    exact f_err (t := 1) clo_rS hst0 hx (by unfold isnum; decide) (cT_1 s1) (by decide) hR (kp_agw (ag1 hu (by decide) agw_rfl)) (kp_agw (z := z) agw_rfl) (by rw [gu_oo _ (by decide)]; exact hl)
theorem v_13_1 {N B : Nat} {z : Zt} {G : Gt} {x : Nat → Int32} {u e : Nat} (h : va N B z G x u 13 e 1) : eW N B z G (rS G) := by
  have hs := va_s h
  obtain ⟨f1, f2, f3, f4, f5, f6, f7, f8, f9, f10, f11, f12, f13, f14⟩ := st_f hs
  have hu := hs.2.1
  have hh := va_h h
  have hV := va_V h
  obtain ⟨v1, v2, v3⟩ := va_v h
  have kk := st_k hs
  have hun := hs.2.2.1
  have hx := va_x h (by decide)
  obtain ⟨hP, hA, hB, hC, hD, hE, hF, hG, hH, hI, hJ, hK, hL, hM, hN, hO, hPg, hQ, hR', hS, hT, hU⟩ := hs.1.1
  obtain ⟨Q1, Q2, Q3, Q4, Q5, Q6, Q7, Q8, Q9, Q10, Q11, Q12, Q13, Q14, Q15, Q16, Q17, Q18, Q19, Q20, Q21, Q22, Q23, Q24, Q25⟩ := hQ
  have hR1 := hR'.1
  have hR2 := hR'.2.1
  have hR3 := hR'.2.2.1
  obtain ⟨y, hy, ey⟩ := prt (k := 13) (w := 1) (by decide) (by decide) (by decide) (by omega) kk.2.1
  have c0 := st_code hs (q := 0) (w := 47) (d := nI e + 3) (by rw [cd_13]; rfl)
  have c1 := st_code hs (q := 1) (w := 42) (d := G 49 (z 1 u)) (by rw [cd_13]; rfl)
  have c2 := st_code hs (q := 2) (w := 45) (d := nI e) (by rw [cd_13]; rfl)
  have p1 := va_p h (q := 2) (by decide) rfl
  have e3 : nI e + 3 = nI (e + 3) := nI_add e 3
  rw [Nat.add_zero] at c0
  have s1 := i_jump (cat f1 p1 c2.2.2 c2.1)
  rw [c2.2.1] at s1
  have s2 := i_guard (G := gu (gu G 116 u (nI (e + 2 + 1))) 116 u (nI e)) (u := u) (p := e) ⟨f1.1, f1.2.1, f1.2.2.1, f1.2.2.2, gu_kk _ _ _ _, by omega, c0.1⟩
  rw [show (gu (gu G 116 u (nI (e + 2 + 1))) 116 u (nI e)) 18 e = nI (e + 3) from c0.2.1.trans e3] at s2
  have s3 := i_doi (G := gu (gu (gu (gu G 116 u (nI (e + 2 + 1))) 116 u (nI e)) 116 u (nI (e + 1))) 118 u (nI (e + 3))) (u := u) (p := e + 1) (n := z 0 0) (m := y) (S := z 0 3) ⟨f1.1, f1.2.1, f1.2.2.1, f1.2.2.2, by rw [gu_oo _ (by decide), gu_kk], c1.2.2, c1.1⟩ f10 (by omega) Q19 (by omega) (c1.2.1.trans ey) (by omega)
  have hst := st_sc (oc := nI (z 13 (z 5 u))) (or' := nI (z 5 u)) (sp := 0) (st_u (G' := gu (gu (gu (gu (gu G 116 u (nI (e + 2 + 1))) 116 u (nI e)) 116 u (nI (e + 1))) 118 u (nI (e + 3))) 116 u (nI (e + 1 + 1))) (sp' := 1) (fp' := 0) hs (ag1 hu (by decide) (ag1 hu (by decide) (ag1 hu (by decide) (ag1 hu (by decide) (ag1 hu (by decide) agw_rfl))))) ⟨rfl, rfl, rfl, rfl, rfl⟩ (Nat.le_refl _) (Nat.le_refl _)) (Or.inr ⟨z 5 u, f8, rfl, rfl⟩)
  have em : oOp (z 0 3) (nI (z 13 (z 5 u))) (oOr (z 0 2) (nI (z 5 u)) (gu (gu (gu (gu (gu G 116 u (nI (e + 2 + 1))) 116 u (nI e)) 116 u (nI (e + 1))) 118 u (nI (e + 3))) 116 u (nI (e + 1 + 1)))) = mxw (oOp (z 0 3) (nI (z 13 (z 5 u))) (gu (gu (gu (gu (gu G 116 u (nI (e + 2 + 1))) 116 u (nI e)) 116 u (nI (e + 1))) 118 u (nI (e + 3))) 116 u (nI (e + 1 + 1)))) (oOr (z 0 2) (nI (z 5 u)) G) := by
    rw [mxw_op, mxw_or, ← mxw_gC rfl, ← mxw_gC rfl, ← mxw_gC rfl, ← mxw_gC rfl, ← mxw_gC rfl, mxw_self]
  rw [em] at hst
  have hR := hV_13 hh Q18 (by omega)
  rw [ey, f7] at hR
  refine eW_z (z' := zSc z) (mu_eq rfl rfl) ?_
  refine f_dog (q := e + 2) (y := y) (s := z 0 2) (p' := 1) (t := 3) clo_rS hst hx (by show z 0 2 < z 0 2 + 1; omega) ?_ (by decide) ?_ hy hR ?_ ?_ (Or.inl rfl) (by unfold kP; omega) (by omega) (Or.inl rfl) ?_ ?_
  · rw [zSc_n]
    refine ⟨_, s1, _, s2, _, s3, ?_⟩
    rw [show (gu (gu (gu (gu G 116 u (nI (e + 2 + 1))) 116 u (nI e)) 116 u (nI (e + 1))) 118 u (nI (e + 3))) 112 u = nI (z 13 (z 5 u)) from f9]
    exact eqc_rfl
  · rw [op_n (by decide), gu_kk]
  · exact kp_op (kp_agw (ag1 hu (by decide) (ag1 hu (by decide) (ag1 hu (by decide) (ag1 hu (by decide) (ag1 hu (by decide) agw_rfl))))))
  · exact kp_or kp_rfl
  · rw [op_n (by decide), gu_oo _ (by decide), gu_kk]
    rfl
  · refine xV_mk (Or.inl rfl) (by decide) (by decide) (by decide) ?_ (fun q => by omega) (fun q => by omega)
    show (oOr (z 0 2) (nI (z 5 u)) G) 67 (z 6 u) = 0
    rw [or_n (by omega)]
    exact xV_67a hV (by decide)
/-- leaving for a LOOP -/
theorem i_lv_y {G : Gt} {u p w l t : Nat} {how : Int32} (h : cAt G u p w) (hw : (w = 14 ∧ how = 2) ∨ (w = 15 ∧ how = 3)) (hd : G 18 p = nI l) (ht : t < 601) (hl : ∀ (R : Gt) (K : Int32 → Gt → Prop), K (nI t) (mxw (gu G 116 u (nI (p + 1))) R) → (mxw (gu G 116 u (nI (p + 1))) R) 84 11 = nI u → w_X2_loopWith K (nI l) (mxw (gu G 116 u (nI (p + 1))) R)) : cS G (gu (gu (gu G 116 u (nI (p + 1))) 84 15 how) 84 18 (nI t)) := by
  have h0 := h
  obtain ⟨h7, h12, h11, hu6, hp, hp2, hw0⟩ := h
  rcases hw with ⟨rfl, rfl⟩ | ⟨rfl, rfl⟩
  · refine cS_c h0 (by decide) (fun R K hk => ?_)
    rw [hd]
    refine pif_p (by decide) (hl R _ (pif_n (nI_neg (by omega)) (ptc rfl (ptc rfl hk))) h11)
  · refine cS_c h0 (by decide) (fun R K hk => ?_)
    rw [hd]
    refine pif_n (by decide) (pif_p (by decide) (hl R _ (pif_n (nI_neg (by omega)) (ptc rfl (ptc rfl hk))) h11))
theorem i_lv_n {G : Gt} {u p w l : Nat} (h : cAt G u p w) (hw : w = 14 ∨ w = 15) (hd : G 18 p = nI l) (hl : ∀ (R : Gt) (K : Int32 → Gt → Prop), K (-1) (mxw (gu G 116 u (nI (p + 1))) R) → (mxw (gu G 116 u (nI (p + 1))) R) 84 11 = nI u → w_X2_loopWith K (nI l) (mxw (gu G 116 u (nI (p + 1))) R)) : cS G (oFl u (-6) (gu G 116 u (nI (p + 1)))) := by
  have h0 := h
  obtain ⟨h7, h12, h11, hu6, hp, hp2, hw0⟩ := h
  rcases hw with rfl | rfl
  · refine cS_c h0 (by decide) (fun R K hk => ?_)
    rw [hd]
    exact pif_p (by decide) (hl R _ (pif_p rfl (k_fail (G := gu G 116 u (nI (p + 1))) h11 hu6 hk)) h11)
  · refine cS_c h0 (by decide) (fun R K hk => ?_)
    rw [hd]
    exact pif_n (by decide) (pif_p (by decide) (hl R _ (pif_p rfl (k_fail (G := gu G 116 u (nI (p + 1))) h11 hu6 hk)) h11))
theorem v_14_1 {N B : Nat} {z : Zt} {G : Gt} {x : Nat → Int32} {u e : Nat} (h : va N B z G x u 14 e 1) : eW N B z G (rS G) := by
  have hs := va_s h
  obtain ⟨f1, f2, f3, f4, f5, f6, f7, f8, f9, f10, f11, f12, f13, f14⟩ := st_f hs
  have hu := hs.2.1
  have hh := va_h h
  have hV := va_V h
  obtain ⟨v1, v2, v3⟩ := va_v h
  have kk := st_k hs
  have hun := hs.2.2.1
  have hx := va_x h (by decide)
  obtain ⟨hP, hA, hB, hC, hD, hE, hF, hG, hH, hI, hJ, hK, hL, hM, hN, hO, hPg, hQ, hR', hS, hT, hU⟩ := hs.1.1
  obtain ⟨Q1, Q2, Q3, Q4, Q5, Q6, Q7, Q8, Q9, Q10, Q11, Q12, Q13, Q14, Q15, Q16, Q17, Q18, Q19, Q20, Q21, Q22, Q23, Q24, Q25⟩ := hQ
  have hR1 := hR'.1
  have hR2 := hR'.2.1
  have hR3 := hR'.2.2.1
  obtain ⟨l, hl4, el⟩ := prq (k := 14) (w := 0) (d := 2) (n := 4) (by decide) (by decide) (by decide) (by omega) (Or.inr (Or.inl ⟨rfl, rfl⟩)) kk.1
  have c1 := st_code hs (q := 1) (w := 14) (d := G 48 (z 1 u)) (by rw [cd_14]; rfl)
  have c2 := st_code hs (q := 2) (w := 40) (d := -1) (by rw [cd_14]; rfl)
  have p1 := va_p h (q := 1) (by decide) rfl
  have hl := va_l h (show lao 14 1 = 0 from rfl)
  rcases lookT (Gc := gu G 116 u (nI (e + 1 + 1))) (Gr := G) hl4 (st_frm hs) ⟨rfl, rfl, rfl, rfl, rfl⟩ ⟨rfl, rfl, rfl, rfl⟩ hs.2.2.1 hs.2.2.2.2.2.2.1 (by decide) (by decide) with ⟨t, q1, q2, q3, q4, q5⟩ | ⟨q4, q5⟩
  · have s1 := i_lv_y (cat f1 p1 c1.2.2 c1.1) (Or.inl ⟨rfl, rfl⟩) (c1.2.1.trans el) (by omega) q4
    have hR := hV_14 (H := oLv 3 (nI l) (G 46 42) (G 65 (z 6 u)) G) hh (fun C K hk => by
      rw [el]
      exact q5 C _ (pif_n (by decide) (r_leaves f5 hk)))
    have hst := st_fr (Gc := gu (gu (gu G 116 u (nI (e + 1 + 1))) 84 15 2) 84 18 (nI t)) (Gr := oLv 3 (nI l) (G 46 42) (G 65 (z 6 u)) G) (sp' := 1) (fp' := 0) hs (ag3 (by decide) (ag3 (by decide) (ag1 hu (by decide) agw_rfl))) (ag4 (by decide) (ag4 (by decide) (ag4 (by decide) (ag4 (by decide) agw_rfl)))) ⟨rfl, rfl, rfl, rfl, rfl⟩ (Nat.le_refl _) (Nat.le_refl _)
    refine f_out (p := e + 2) (t := 1) clo_rS hst hx (cT_1 s1) (by decide) (by rw [gu_oo _ (by decide), gu_oo _ (by decide), gu_kk]) ⟨c2.1, c2.2.2⟩ hR rfl (Or.inr (Or.inr (Or.inl ⟨rfl, rfl, v2.symm, v1, q2, l, t, hl4, rfl, rfl, q1, q3⟩))) (Or.inl rfl) (kp_agw (ag3 (by decide) (ag3 (by decide) (ag1 hu (by decide) agw_rfl)))) (kp_agw (z := z) (ag4 (by decide) (ag4 (by decide) (ag4 (by decide) (ag4 (by decide) agw_rfl)))))
  · have s1 := i_lv_n (cat f1 p1 c1.2.2 c1.1) (Or.inl rfl) (c1.2.1.trans el) q4
    have hR := hV_14 (H := oFr (z 6 u) (-6) G) hh (fun C K hk => by
      rw [el]
      exact q5 C _ (pif_p rfl (r_fails f5 hk)))
    have hst := st_fr (Gc := gu G 116 u (nI (e + 1 + 1))) (Gr := G) (sp' := 1) (fp' := 0) hs (ag1 hu (by decide) agw_rfl) agw_rfl ⟨rfl, rfl, rfl, rfl, rfl⟩ (Nat.le_refl _) (Nat.le_refl _)
    exact f_err (t := 1) clo_rS hst hx (by unfold isnum; decide) (cT_1 s1) (by decide) hR (kp_agw (ag1 hu (by decide) agw_rfl)) (kp_agw (z := z) agw_rfl) (by rw [gu_oo _ (by decide)]; exact hl)
theorem i_ret {G : Gt} {u p r b : Nat} (h : cAt G u p 19) (hr : r < 601) (h114 : G 114 r = nI b) (hb : b < 10000) (hl : ∀ (R : Gt) (K : Int32 → Gt → Prop), K (nI r) (mxw (gu G 116 u (nI (p + 1))) R) → w_X1_rootOf K (nI u) (mxw (gu G 116 u (nI (p + 1))) R)) : cS G (if b < 3 then oFl u (-6) (gu G 116 u (nI (p + 1))) else gu (gu (gu G 116 u (nI (p + 1))) 84 15 4) 84 18 (nI r)) := by
  refine cS_c h (by decide) (fun R K hk => ?_)
  obtain ⟨h7, h12, h11, hu6, hp, hp2, hw0⟩ := h
  refine pif_n (by decide) (pif_n (by decide) (pif_n (by decide) (pif_n (by decide) (pif_n (by decide) (pif_p (by decide) ?_)))))
  unfold w_X2_bodyToReturn w_X2_bodyToReturn_j32
  rw [show (mxw (gu G 116 u (nI (p + 1))) R) 84 11 = nI u from h11]
  refine hl R _ ?_
  rw [rat_n hr (by decide), show (mxw (gu G 116 u (nI (p + 1))) R) 114 r = nI b from h114]
  have q := nI_ltL (w := b) (a := 3) (b := 3) rfl (by omega) (by decide)
  by_cases c : b < 3
  · rw [if_pos c] at hk
    exact pif_p (q.mpr c) (pif_p rfl (k_fail (G := gu G 116 u (nI (p + 1))) h11 hu6 hk))
  · rw [if_neg c] at hk
    exact pif_n (fun y => c (q.mp y)) (pif_n (nI_neg (by omega)) (ptc rfl (ptc rfl hk)))
theorem v_19_1 {N B : Nat} {z : Zt} {G : Gt} {x : Nat → Int32} {u e : Nat} (h : va N B z G x u 19 e 1) : eW N B z G (rS G) := by
  have hs := va_s h
  obtain ⟨f1, f2, f3, f4, f5, f6, f7, f8, f9, f10, f11, f12, f13, f14⟩ := st_f hs
  have hu := hs.2.1
  have hh := va_h h
  have hV := va_V h
  obtain ⟨v1, v2, v3⟩ := va_v h
  have kk := st_k hs
  have hun := hs.2.2.1
  have hx := va_x h (by decide)
  obtain ⟨hP, hA, hB, hC, hD, hE, hF, hG, hH, hI, hJ, hK, hL, hM, hN, hO, hPg, hQ, hR', hS, hT, hU⟩ := hs.1.1
  obtain ⟨Q1, Q2, Q3, Q4, Q5, Q6, Q7, Q8, Q9, Q10, Q11, Q12, Q13, Q14, Q15, Q16, Q17, Q18, Q19, Q20, Q21, Q22, Q23, Q24, Q25⟩ := hQ
  have hR1 := hR'.1
  have hR2 := hR'.2.1
  have hR3 := hR'.2.2.1
  have c1 := st_code hs (q := 1) (w := 19) (d := -1) (by rw [cd_19]; rfl)
  have c2 := st_code hs (q := 2) (w := 40) (d := -1) (by rw [cd_19]; rfl)
  have p1 := va_p h (q := 1) (by decide) rfl
  have hl := va_l h (show lao 19 1 = 0 from rfl)
  obtain ⟨q1, q2, q3, q4⟩ := lookB (Gc := gu G 116 u (nI (e + 1 + 1))) (Gr := G) (st_frm hs) ⟨rfl, rfl, rfl, rfl, rfl⟩ ⟨rfl, rfl, rfl, rfl⟩ (u + 1) u (by omega) hs.2.2.1
  have hc8 := hC (z 8 u) (by omega)
  obtain ⟨g1, g2, g3, g4, g5⟩ := hF (z 8 u) (by omega) q2
  have hg := (hG.2.2 (z 8 u) q1)
  have s1 := i_ret (cat f1 p1 c1.2.2 c1.1) (r := z 8 u) (b := z 2 (z 8 u)) (by omega) hc8.1 (by have := hc8.2.2.2.1; omega) (fun R K hk => ⟨u + 2, q3 R K (u + 2) 0 (Nat.le_refl _) (by omega) hk⟩)
  have hbo : ∀ (C : Gt) (K : Int32 → Gt → Prop), K (nI (z 6 (z 8 u) - 1)) (mxw C G) → w_X11_bodyOf K (nI (z 6 u)) (mxw C G) := fun C K hk => ⟨u + 2, q4 C K (u + 2) (Nat.le_refl _) hk⟩
  have hb12 : z 6 (z 8 u) - 1 < 1220 := by
    have := hs.1.2.2.2.2
    omega
  by_cases c : z 2 (z 8 u) < 3
  · rw [if_pos c] at s1
    have hR := hV_19_n hh hb12 hbo (by
      rw [g3]
      have : z 2 (z 8 u) = 1 ∨ z 2 (z 8 u) = 2 := by omega
      rcases this with q | q <;> rw [q] <;> decide)
    have hst := st_fr (Gc := gu G 116 u (nI (e + 1 + 1))) (Gr := G) (sp' := 1) (fp' := 0) hs (ag1 hu (by decide) agw_rfl) agw_rfl ⟨rfl, rfl, rfl, rfl, rfl⟩ (Nat.le_refl _) (Nat.le_refl _)
    exact f_err (t := 1) clo_rS hst hx (by unfold isnum; decide) (cT_1 s1) (by decide) hR (kp_agw (ag1 hu (by decide) agw_rfl)) (kp_agw (z := z) agw_rfl) (by rw [gu_oo _ (by decide)]; exact hl)
  · rw [if_neg c] at s1
    have hR := hV_19_y hh hb12 hbo (by
      rw [g3]
      by_cases d : z 2 (z 8 u) = 3
      · rw [d]; exact Or.inl rfl
      · right
        unfold wH
        rw [if_neg (by omega), if_neg (by omega), if_neg (by omega)]; rfl)
    have hst := st_fr (Gc := gu (gu (gu G 116 u (nI (e + 1 + 1))) 84 15 4) 84 18 (nI (z 8 u))) (Gr := oLv 5 0 (G 46 42) (G 65 (z 6 u)) G) (sp' := 1) (fp' := 0) hs (ag3 (by decide) (ag3 (by decide) (ag1 hu (by decide) agw_rfl))) (ag4 (by decide) (ag4 (by decide) (ag4 (by decide) (ag4 (by decide) agw_rfl)))) ⟨rfl, rfl, rfl, rfl, rfl⟩ (Nat.le_refl _) (Nat.le_refl _)
    have hw : (z 2 (z 8 u) = 3 ∧ G 84 16 = G 46 42 ∧ vV z (G 84 16)) ∨ 4 ≤ z 2 (z 8 u) := by
      by_cases d : z 2 (z 8 u) = 3
      · exact Or.inl ⟨d, v2.symm, v1⟩
      · right; omega
    exact f_out (p := e + 2) (t := 1) clo_rS hst hx (cT_1 s1) (by decide) (by rw [gu_oo _ (by decide), gu_oo _ (by decide), gu_kk]) ⟨c2.1, c2.2.2⟩ hR rfl (Or.inr (Or.inr (Or.inr (Or.inr ⟨rfl, rfl, hw⟩)))) (Or.inl rfl) (kp_agw (ag3 (by decide) (ag3 (by decide) (ag1 hu (by decide) agw_rfl)))) (kp_agw (z := z) (ag4 (by decide) (ag4 (by decide) (ag4 (by decide) (ag4 (by decide) agw_rfl)))))
theorem i_thr {G : Gt} {u p : Nat} (h : cAt G u p 22) : cS G (oFl u (if inm (G 84 16) = 0 then -3 else G 84 16) (gu G 116 u (nI (p + 1)))) := by
  refine cS_c h (by decide) (fun R K hk => ?_)
  obtain ⟨h7, h12, h11, hu6, hp, hp2, hw0⟩ := h
  refine pif_n (by decide) (pif_n (by decide) (pif_n (by decide) (pif_n (by decide) (pif_n (by decide) (pif_n (by decide) (pif_p (by decide) ?_))))))
  rw [show (mxw (gu G 116 u (nI (p + 1))) R) 84 16 = G 84 16 from rfl]
  by_cases c : inm (G 84 16) = 0
  · rw [if_pos c] at hk; exact pif_p c (k_fail (G := gu G 116 u (nI (p + 1))) h11 hu6 hk)
  · rw [if_neg c] at hk; exact pif_n c (k_fail (G := gu G 116 u (nI (p + 1))) h11 hu6 hk)
theorem v_22_1 {N B : Nat} {z : Zt} {G : Gt} {x : Nat → Int32} {u e : Nat} (h : va N B z G x u 22 e 1) : eW N B z G (rS G) := by
  have hs := va_s h
  obtain ⟨f1, f2, f3, f4, f5, f6, f7, f8, f9, f10, f11, f12, f13, f14⟩ := st_f hs
  have hu := hs.2.1
  have hh := va_h h
  have hV := va_V h
  obtain ⟨v1, v2, v3⟩ := va_v h
  have kk := st_k hs
  have hun := hs.2.2.1
  have hx := va_x h (by decide)
  have c1 := st_code hs (q := 1) (w := 22) (d := -1) (by rw [cd_22]; rfl)
  have p1 := va_p h (q := 1) (by decide) rfl
  have hl := va_l h (show lao 22 1 = 0 from rfl)
  have s1 := i_thr (cat f1 p1 c1.2.2 c1.1)
  have hst := st_fr (Gc := gu G 116 u (nI (e + 1 + 1))) (Gr := G) (sp' := 1) (fp' := 0) hs (ag1 hu (by decide) agw_rfl) agw_rfl ⟨rfl, rfl, rfl, rfl, rfl⟩ (Nat.le_refl _) (Nat.le_refl _)
  rcases st_vv hs v1 with ⟨a1, a2, a3⟩ | ⟨a1, a2, a3⟩
  · have hR := hV_22_y (H := oFr (z 6 u) (G 46 42) G) hh (by rw [v2]; exact a3) (fun C K hk => pif_p rfl (r_fails f5 hk))
    rw [v2] at hR
    rw [if_neg (by rw [a2]; decide)] at s1
    exact f_err (t := 1) clo_rS hst hx a1 (cT_1 s1) (by decide) hR (kp_agw (ag1 hu (by decide) agw_rfl)) (kp_agw (z := z) agw_rfl) (by rw [gu_oo _ (by decide)]; exact hl)
  · have hR := hV_22_n hh (by rw [v2]; exact a3)
    rw [if_pos a2] at s1
    exact f_err (t := 1) clo_rS hst hx (by unfold isnum; decide) (cT_1 s1) (by decide) hR (kp_agw (ag1 hu (by decide) agw_rfl)) (kp_agw (z := z) agw_rfl) (by rw [gu_oo _ (by decide)]; exact hl)
