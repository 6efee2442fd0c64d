/-! YIELD -/
theorem nI_n0 {a : Nat} (h : a < 2 ^ 31) : ¬ nI a < 0 := nI_nltx (b := 0) rfl (Nat.zero_le _) h
theorem nI_m4 {b : Nat} (hb : 4 ≤ b) : nI b - 4 = nI (b - 4) := by
  have : nI b = nI (b - 4) + 4 := by
    rw [show (4 : Int32) = nI 4 from rfl, nI_add]
    have : b - 4 + 4 = b := by omega
    rw [this]
  rw [this, Int32.add_sub_cancel]
theorem nI_m4n {b : Nat} (hb : b < 4) : nI b - 4 < 0 := by
  have : b = 0 ∨ b = 1 ∨ b = 2 ∨ b = 3 := by omega
  rcases this with q | q | q | q <;> rw [q] <;> decide
theorem i_yl_n {G : Gt} {u p r b : Nat} (h : cAt G u p 24) (hr : r < 601) (h114 : G 114 r = nI b) (hl : ∀ (R : Gt) (K : Int32 → Gt → Prop), K (nI r) (mxw (gu G 116 u (nI (p + 1))) R) → w_X1_rootOf K (nI u) (mxw (gu G 116 u (nI (p + 1))) R))
    (hc : b < 4 ∨ (4 ≤ b ∧ b - 4 < 601 ∧ ¬ G 140 (b - 4) = 2) ∨ (4 ≤ b ∧ b - 4 < 601 ∧ ∀ (R : Gt) (K : Int32 → Gt → Prop), K 1 (mxw (gu G 116 u (nI (p + 1))) R) → w_X2_isBarred K (mxw (gu G 116 u (nI (p + 1))) R))) : cS G (oFl u (-6) (gu G 116 u (nI (p + 1)))) := by
  refine cS_c h (by decide) (fun R K hk => ?_)
  obtain ⟨h7, h12, h11, hu6, hp, hp2, hw0⟩ := h
  refine pif_n (by decide) (pif_n (by decide) (pif_n (by decide) (pif_n (by decide) (pif_n (by decide) (pif_n (by decide) (pif_n (by decide) (pif_n (by decide) (pif_p (by decide) ?_))))))))
  unfold w_X2_rest w_X2_rest_j52
  rw [show (mxw (gu G 116 u (nI (p + 1))) R) 84 11 = nI u from h11]
  refine hl R _ ?_
  rw [rat_n hr (by decide), show (mxw (gu G 116 u (nI (p + 1))) R) 114 r = nI b from h114]
  rcases hc with c | ⟨c, c2, c3⟩ | ⟨c, c2, c3⟩
  · exact pif_p (nI_m4n c) (k_fail (G := gu G 116 u (nI (p + 1))) h11 hu6 hk)
  · rw [nI_m4 c]
    refine pif_n (nI_n0 (by omega)) ?_
    rw [rat_n c2 (by decide)]
    exact pif_n c3 (k_fail (G := gu G 116 u (nI (p + 1))) h11 hu6 hk)
  · rw [nI_m4 c]
    refine pif_n (nI_n0 (by omega)) ?_
    rw [rat_n c2 (by decide)]
    by_cases c4 : (mxw (gu G 116 u (nI (p + 1))) R) 140 (b - 4) = 2
    · exact pif_p c4 (c3 R _ (pif_n (by decide) (k_fail (G := gu G 116 u (nI (p + 1))) h11 hu6 hk)))
    · exact pif_n c4 (k_fail (G := gu G 116 u (nI (p + 1))) h11 hu6 hk)
theorem i_yl_y {G : Gt} {u p r b c d : Nat} (h : cAt G u p 24) (hr : r < 601) (h114 : G 114 r = nI b) (hl : ∀ (R : Gt) (K : Int32 → Gt → Prop), K (nI r) (mxw (gu G 116 u (nI (p + 1))) R) → w_X1_rootOf K (nI u) (mxw (gu G 116 u (nI (p + 1))) R))
    (hb : 4 ≤ b) (hb6 : b - 4 < 601) (h140 : G 140 (b - 4) = 2) (hbar : ∀ (R : Gt) (K : Int32 → Gt → Prop), K 0 (mxw (gu G 116 u (nI (p + 1))) R) → w_X2_isBarred K (mxw (gu G 116 u (nI (p + 1))) R)) (h110 : G 110 r = nI c) (hc : c < 601) (h8 : G 84 8 = nI (d + 1)) : cS G (gu (oEC c d (gu (gu (gu G 116 u (nI (p + 1))) 140 (b - 4) 1) 144 (b - 4) (nI u))) 84 11 (nI c)) := by
  refine cS_c h (by decide) (fun R K hk => ?_)
  obtain ⟨h7, h12, h11, hu6, hp, hp2, hw0⟩ := h
  refine pif_n (by decide) (pif_n (by decide) (pif_n (by decide) (pif_n (by decide) (pif_n (by decide) (pif_n (by decide) (pif_n (by decide) (pif_n (by decide) (pif_p (by decide) ?_))))))))
  unfold w_X2_rest
  rw [show (mxw (gu G 116 u (nI (p + 1))) R) 84 11 = nI u from h11]
  refine hl R _ ?_
  rw [rat_n hr (by decide), show (mxw (gu G 116 u (nI (p + 1))) R) 114 r = nI b from h114, nI_m4 hb]
  refine pif_n (nI_n0 (by omega)) ?_
  rw [rat_n hb6 (by decide)]
  refine pif_p h140 (hbar R _ (pif_p rfl ?_))
  rw [show rat (mxw (gu G 116 u (nI (p + 1))) R) 110 601 (nI r) = nI c by rw [rat_n hr (by decide)]; exact h110]
  refine pcp rfl hb6 (by decide) rfl ?_
  rw [show (mxw (gu (gu G 116 u (nI (p + 1))) 140 (b - 4) 1) R) 84 11 = nI u from h11]
  refine pcp rfl hb6 (by decide) rfl ?_
  exact k_ec (d := d) hc h8 (ptc rfl hk)
theorem r_yl_n {K : Gt → Prop} {C G : Gt} {f F g : Nat} {v : Int32} (hf : f < 1220) (hF : F < 1220) (hbo : ∀ (C : Gt) (K : Int32 → Gt → Prop), K (nI F) (mxw C G) → w_X11_bodyOf K (nI f) (mxw C G))
    (hc : ¬ G 67 F = 2 ∨ (∀ (C : Gt) (K : Int32 → Gt → Prop), K 1 (mxw C G) → w_X11_isBound K (nI f) (mxw C G)) ∨ ((∀ (C : Gt) (K : Int32 → Gt → Prop), K 0 (mxw C G) → w_X11_isBound K (nI f) (mxw C G)) ∧ G 68 F = nI g ∧ g < 610 ∧ G 77 g = 3)) (h : K (mxw C (oFr f (-6) G))) : w_X11_yields K (nI f) v (mxw C G) := by
  have eF : (nI F).toNatClampNeg = F := nI_clamp (by omega)
  unfold w_X11_yields w_X11_yields_j39
  refine hbo C _ ?_
  rw [eF]
  refine ⟨vp_n hF (by decide), ?_⟩
  by_cases c0 : (mxw C G) 67 F = 2
  · rcases hc with c | c | ⟨c1, c2, c3, c4⟩
    · exact absurd c0 c
    · exact pif_p c0 (c C _ (pif_n (by decide) (r_fails hf h)))
    · refine pif_p c0 (c1 C _ (pif_p rfl ?_))
      rw [show (mxw C G) 68 F = nI g from c2, nI_clamp (by omega)]
      exact ⟨vp_n hF (by decide), vp_n c3 (by decide), pif_p c4 (r_fails hf h)⟩
  · exact pif_n c0 (r_fails hf h)
theorem r_yl_y {K : Gt → Prop} {C G : Gt} {f F g fc d : Nat} {v : Int32} (hf : f < 1220) (hF : F < 1220) (hbo : ∀ (C : Gt) (K : Int32 → Gt → Prop), K (nI F) (mxw C G) → w_X11_bodyOf K (nI f) (mxw C G))
    (h67 : G 67 F = 2) (hb : ∀ (C : Gt) (K : Int32 → Gt → Prop), K 0 (mxw C G) → w_X11_isBound K (nI f) (mxw C G)) (h68 : G 68 F = nI g) (hg : g < 610) (h77 : ¬ G 77 g = 3) (h65 : G 65 F = nI fc) (hfc : fc < 1220) (h50 : G 46 50 = nI (d + 1)) (h : K (mxw C (oEn v (G 65 fc) (oCb fc d (gu (gu G 77 g 1) 78 g (nI f)))))) : w_X11_yields K (nI f) v (mxw C G) := by
  have eF : (nI F).toNatClampNeg = F := nI_clamp (by omega)
  have eg : (nI g).toNatClampNeg = g := nI_clamp (by omega)
  unfold w_X11_yields
  refine hbo C _ ?_
  rw [eF]
  refine ⟨vp_n hF (by decide), pif_p h67 (hb C _ (pif_p rfl ?_))⟩
  rw [show (mxw C G) 68 F = nI g from h68, eg]
  refine ⟨vp_n hF (by decide), vp_n hg (by decide), pif_n h77 ⟨vp_n hF (by decide), vp_n hg (by decide), ptr rfl ⟨vp_n hF (by decide), ?_⟩⟩⟩
  rw [show (mxw C (gu G 77 g 1)) 68 F = nI g from h68, eg]
  refine ⟨vp_n hg (by decide), ptr rfl ⟨vp_n hF (by decide), ?_⟩⟩
  rw [show (mxw C (gu (gu G 77 g 1) 78 g (nI f))) 65 F = nI fc from h65]
  refine r_cb (d := d) hfc h50 ⟨vp_n hF (by decide), ?_⟩
  rw [show (mxw C (oCb fc d (gu (gu G 77 g 1) 78 g (nI f)))) 65 F = nI fc from h65]
  exact r_ends hfc h
/-- no OPTION's last part is around a frame that no OPTION is around -/
theorem no_opt {z : Zt} {G : Gt} {u : Nat} (hC : qC z G) (hI : qI z) (hJ : qJ z) (hK : qK z) (hT : qT z G) (hm : z 0 8 = z 0 0) (hu : u < z 0 0) (h3 : 3 ≤ z 9 u) (h22 : z 22 u = 0) : ∀ k j, z 0 0 - j ≤ k → j < z 0 0 → ¬ z 9 j = 0 → z 8 j = z 8 u → (¬ z 22 j = 0 ∨ (z 9 j = 2 ∧ G 47 (z 1 j) = 26)) → False := by
  intro k
  induction k with
  | zero => intro j h1 h2; omega
  | succ k ih =>
    intro j h1 h2 h9 h8 ho
    by_cases c : 3 ≤ z 9 j
    · have e := hK.1 j u (by omega) (by omega) c h3 h8
      subst e
      rcases ho with q | q
      · exact q h22
      · omega
    · have c2 : z 9 j = 1 ∨ z 9 j = 2 := by omega
      obtain ⟨j1, j2, j3, j4, j5⟩ := hJ j (by omega) c2
      have t := (hT.1 (z 10 j) j2 j3).1 j4
      rw [j5] at t
      have hc := ((hC (z 10 j) j2).2.1 j4).2
      rw [j5] at hc
      refine ih (z 10 j) (by omega) (by omega) j3 (hc.trans h8) (Or.inl ?_)
      rw [t]
      split
      · omega
      · rename_i q
        rcases ho with y | y
        · exact y
        · exact absurd ⟨y.2, y.1⟩ q
theorem oEn_57 {v a y : Int32} {G : Gt} : oEn v a (gu G 46 57 y) = oEn v a G := by
  unfold oEn
  rw [gu_comm (k := 46) (j := 57) (k' := 46) (j' := 41) (by decide), gu_comm (k := 46) (j := 57) (k' := 46) (j' := 42) (by decide), gu_gu]
theorem v_24_1 {N B : Nat} {z : Zt} {G : Gt} {x : Nat → Int32} {u e : Nat} (h : va N B z G x u 24 e 1) : eW N B z G (rS G) := by
  have hs := va_s h
  obtain ⟨f1, f2, f3, f4, f5, f6, f7, f8, f9, f10, f11, f12, f13, f14⟩ := st_f hs
  have hu := hs.2.1
  have hh := va_h h
  have hV := va_V h
  obtain ⟨v1, v2, v3⟩ := va_v h
  have kk := st_k hs
  have hun := hs.2.2.1
  have hx := va_x h (by decide)
  obtain ⟨hP, hA, hB, hC, hD, hE, hF, hG, hH, hI, hJ, hK, hL, hM, hN, hO, hPg, hQ, hR', hS, hT, hU⟩ := hs.1.1
  obtain ⟨Q1, Q2, Q3, Q4, Q5, Q6, Q7, Q8, Q9, Q10, Q11, Q12, Q13, Q14, Q15, Q16, Q17, Q18, Q19, Q20, Q21, Q22, Q23, Q24, Q25⟩ := hQ
  have hR1 := hR'.1
  have hR2 := hR'.2.1
  have hR3 := hR'.2.2.1
  have c1 := st_code hs (q := 1) (w := 24) (d := -1) (by rw [cd_24]; rfl)
  have p1 := va_p h (q := 1) (by decide) rfl
  have hl := va_l h (show lao 24 1 = 0 from rfl)
  obtain ⟨q1, q2, q3, q4⟩ := lookB (Gc := gu G 116 u (nI (e + 1 + 1))) (Gr := G) (st_frm hs) ⟨rfl, rfl, rfl, rfl, rfl⟩ ⟨rfl, rfl, rfl, rfl⟩ (u + 1) u (by omega) hs.2.2.1
  have h9u : z 9 u = 6 := by have := hs.1.2.2.1; rw [hu] at this; exact this
  have hc8 := hC (z 8 u) (by omega)
  obtain ⟨g1, g2, g3, g4, g5⟩ := hF (z 8 u) (by omega) q2
  have hg := (hG.2.2 (z 8 u) q1)
  have hro : ∀ (R : Gt) (K : Int32 → Gt → Prop), K (nI (z 8 u)) (mxw (gu G 116 u (nI (e + 1 + 1))) R) → w_X1_rootOf K (nI u) (mxw (gu G 116 u (nI (e + 1 + 1))) R) := fun R K hk => ⟨u + 2, q3 R K (u + 2) 0 (Nat.le_refl _) (by omega) hk⟩
  have hbo : ∀ (C : Gt) (K : Int32 → Gt → Prop), K (nI (z 6 (z 8 u) - 1)) (mxw C G) → w_X11_bodyOf K (nI (z 6 u)) (mxw C G) := fun C K hk => ⟨u + 2, q4 C K (u + 2) (Nat.le_refl _) hk⟩
  have hb12 : z 6 (z 8 u) - 1 < 1220 := by
    have := hs.1.2.2.2.2
    omega
  have hZ := lookZ (Gc := gu G 116 u (nI (e + 1 + 1))) (Gr := G) (st_frm hs) ⟨rfl, rfl, rfl, rfl, rfl⟩ ⟨rfl, rfl, rfl, rfl⟩ rfl rfl hH hI hT (by omega) hun (by omega) hs.2.2.2.2.2.2.1
  have hr0 := live_root hC hI u u (Nat.le_refl _) (by omega) (by omega)
  have hnr := cur_nrst (N := N) hC hI hK hPg (by omega)
  rw [hu] at hnr
  obtain ⟨I1, I2, I3, I4, I5⟩ := hI (z 8 u) (by omega) hr0
  have er : cS G (oFl u (-6) (gu G 116 u (nI (e + 1 + 1)))) → rS G (oFr (z 6 u) (-6) G) → eW N B z G (rS G) := fun a b => va_er h (by decide) (by unfold isnum; decide) a b rfl
  by_cases b4 : 4 ≤ z 2 (z 8 u)
  · obtain ⟨i1, i2, i3⟩ := I5 b4
    obtain ⟨P1, P2, P3, P4, P5, P6, P7, P8, P9, P10⟩ := hPg (z 2 (z 8 u) - 4) i1
    have hw2 : wH (z 2 (z 8 u)) = 2 := by unfold wH; rw [if_neg (by omega), if_neg (by omega), if_neg (by omega)]
    have g5' := g5 b4
    have ng : z 2 (z 8 u) - 4 < 601 := by omega
    rcases hZ with ⟨z1, z2⟩ | ⟨z1, z2, z3⟩
    · exact er (i_yl_n (cat f1 p1 c1.2.2 c1.1) (by omega) hc8.1 hro (Or.inr (Or.inr ⟨b4, ng, fun R K hk => z1 R K hk f1.2.2.1⟩))) (hV_24 hh (fun C K hk => r_yl_n (g := 0) f5 hb12 hbo (Or.inr (Or.inl z2)) hk))
    · rcases i3 with i3 | ⟨i3, i4⟩ | ⟨i3, i4⟩
      · exact absurd ⟨b4, i3⟩ hnr
      · -- it rests
        obtain ⟨d, d1, d2, d3, d4⟩ := qL_d hs
        rw [hu] at d2
        have lq := ((hL.1 (z 8 u) (by omega) hr0 q2 hnr).2 i4).2 (by omega)
        obtain ⟨c, hc⟩ : ∃ c, z 4 (z 8 u) = c + 1 := ⟨z 4 (z 8 u) - 1, by omega⟩
        have hc1 : z 4 (z 8 u) - 1 = c := by omega
        rw [hc1] at lq
        obtain ⟨d', hd'⟩ : ∃ d', z 12 (z 8 u) = d' + 1 := ⟨z 12 (z 8 c), lq.2⟩
        obtain ⟨_, _, _, _, _, m6⟩ := P9 (by omega)
        obtain ⟨m1, m2⟩ := m6 i3
        rw [i2, hc1] at m1 m2
        obtain ⟨m3, m4⟩ := I2 q2 i4 hnr
        rw [hc1, if_neg (by omega)] at m3
        obtain ⟨kc, ec, e1, e2, e3, e4, e5, e6, e7, e8⟩ := hH c m1 (by omega) (by omega)
        have k25 : kc = 25 := by rw [e3] at m2; exact (nI_eqL (w := kc) (a := 25) (b := 25) rfl (by omega) (by decide)).mp m2
        subst k25
        rw [m3] at e5 e6 e7
        have hcu : ¬ c = u := by intro q; rw [q] at m3; omega
        have huc : ¬ u = c := fun q => hcu q.symm
        have hD8 : G 110 (z 8 u) = nI c := by
          have := (hD (z 8 u) (by omega)).2 q2
          rw [this, hc]; rfl
        have h65F : G 65 (z 6 (z 8 u) - 1) = nI (z 6 c) := by rw [g4, hc]; rfl
        have hg6c := hG.2.2 c m1
        have hFr := hs.1.2.2.2.2
        have h6c : z 6 c < 1220 := by omega
        have s1 := i_yl_y (d := d') (cat f1 p1 c1.2.2 c1.1) (by omega) hc8.1 hro b4 ng (by rw [P7, i3]; rfl) (fun R K hk => z2 R K hk f1.2.2.1) hD8 (by omega) (by rw [d3, ← d2, hd'])
        have hR := hV_24 hh (fun C K hk => r_yl_y (d := d') f5 hb12 hbo (by rw [g3, hw2]; rfl) z3 g5' (by omega) (by rw [P8, i3]; decide) h65F h6c (by rw [d4, ← d2, hd']) hk)
        rw [v2] at hR
        have hst := st_fr (Gc := gu G 116 u (nI (e + 1 + 1))) (Gr := G) (sp' := 1) (fp' := 0) hs (ag1 hu (by decide) agw_rfl) agw_rfl ⟨rfl, rfl, rfl, rfl, rfl⟩ (Nat.le_refl _) (Nat.le_refl _)
        have z9 : (zBk z 5) 9 u = 5 := by simp [zBk, hu, hc, huc]
        have zc : (zBk z 5) 0 7 = c := by simp [zBk, hu, hc]
        have zcc : (zBk z 5) 9 ((zBk z 5) 0 7) = 6 := by rw [zc]; simp [zBk, hu, hc]
        have T := t_bk (G := mxw (gu G 116 u (nI (e + 1 + 1))) G) (G' := mxw (gu (oEC c d' (gu (gu (gu G 116 u (nI (e + 1 + 1))) 140 (z 2 (z 8 u) - 4) 1) 144 (z 2 (z 8 u) - 4) (nI u))) 84 11 (nI c)) (oCb (z 6 c) d' (gu (gu G 77 (z 2 (z 8 u) - 4) 1) 78 (z 2 (z 8 u) - 4) (nI (z 6 u))))) (pi := 5) (b := z 2 (z 8 u)) hst.1.1 hs.1.2.1 hs.1.2.2.1 hu rfl hc rfl (Or.inr ⟨rfl, b4, z1⟩) (agp_mx ?_ ?_) rfl (fun q => absurd q (by omega)) (fun _ => ⟨d', hd', rfl, rfl, rfl, rfl⟩) (fun _ => ⟨?_, ?_, fun _ => ⟨?_, ?_⟩⟩) (fun _ => ?_) (fun _ j hj h9 hk h8 => no_opt hC hI hJ hK hT (by omega) hun (by omega) z1 (z 0 0) j (by omega) hj (by omega) h8 (Or.inr ⟨h9, hk⟩))
        · obtain ⟨T1, T2, T3, T4, T5, T6, T7⟩ := T
          rw [if_neg (by decide)] at T7
          have T1' := sIM_x (x' := G 31) T1 (fun o ho => (hx o ho).symm)
          have hA2 : aST N B (zBk z 5) (mxw (gu (oEC c d' (gu (gu (gu G 116 u (nI (e + 1 + 1))) 140 (z 2 (z 8 u) - 4) 1) 144 (z 2 (z 8 u) - 4) (nI u))) 84 11 (nI c)) (oCb (z 6 c) d' (gu (gu G 77 (z 2 (z 8 u) - 4) 1) 78 (z 2 (z 8 u) - 4) (nI (z 6 u))))) (G 31) 1 0 := ⟨T1', hs.1.2.1, zcc, hs.1.2.2.2.1, hs.1.2.2.2.2⟩
          refine eW_m (z' := zBk z 5) (by omega) (be_val (k := 25) (e := ec) (w := G 84 16) hA2 zc (by exact m1) (by omega) (by decide) e2 e5 e3 e4 (hA c (by omega)).2 s1 v3 rfl v1 ?_ rfl (fun q => by omega) ?_ ?_ ?_)
          · rw [gu_oo _ (by decide)]
            unfold oEC
            rw [gu_oo _ (by decide), gu_oo _ (by decide), gu_oo _ (by decide), gu_oo _ (by decide), gu_ko _ hcu]
            rcases e6 with q | q
            · exact q
            · exact absurd q.1 (by decide)
          · unfold oEC
            repeat (refine kp_gu (by unfold kpc; omega) ?_)
            exact kp_rfl
          · unfold oCb
            repeat (refine kp_gu (by unfold kpc; omega) ?_)
            exact kp_rfl
          · rw [if_neg (by decide), if_neg (by decide), gu_sf (G := oCb (z 6 c) d' (gu (gu G 77 (z 2 (z 8 u) - 4) 1) 78 (z 2 (z 8 u) - 4) (nI (z 6 u)))) (k := 46) (j := 51) rfl, oEn_57]
            exact hR
        · unfold oEC
          exact agp_gu (Or.inl ⟨rfl, by decide⟩) (agp_gu (Or.inl ⟨rfl, by decide⟩) (agp_gu (Or.inl ⟨rfl, by decide⟩) (agp_gu (Or.inr (Or.inr ⟨by decide, b4, rfl⟩)) (agp_gu (Or.inr (Or.inr ⟨by decide, b4, rfl⟩)) agp_rfl))))
        · unfold oCb
          exact agp_gu (Or.inr (Or.inl ⟨rfl, by decide⟩)) (agp_gu (Or.inr (Or.inl ⟨rfl, by decide⟩)) (agp_gu (Or.inr (Or.inr ⟨by decide, b4, rfl⟩)) (agp_gu (Or.inr (Or.inr ⟨by decide, b4, rfl⟩)) agp_rfl)))
        · rw [mx_C rfl, gu_oo _ (by decide)]
          unfold oEC
          rw [gu_oo _ (by decide), gu_oo _ (by decide), gu_oo _ (by decide), gu_kk]; rfl
        · rw [mx_R rfl]
          unfold oCb
          rw [gu_oo _ (by decide), gu_oo _ (by decide), gu_oo _ (by decide), gu_kk]; rfl
        · rw [mx_C rfl, gu_oo _ (by decide)]
          unfold oEC
          rw [gu_oo _ (by decide), gu_oo _ (by decide), gu_kk]
        · rw [mx_R rfl]
          unfold oCb
          rw [gu_oo _ (by decide), gu_oo _ (by decide), gu_kk]
        · refine ⟨24, e, by decide, hs.2.2.2.2.2.1, hs.2.2.2.2.2.2.1, hs.2.2.2.2.2.2.2, ?_, Or.inl ?_, ?_, ?_⟩
          · rw [z9]; unfold kP; omega
          · rw [z9, mx_C rfl, gu_oo _ (by decide)]
            unfold oEC
            rw [gu_oo _ (by decide), gu_oo _ (by decide), gu_oo _ (by decide), gu_oo _ (by decide), gu_kk]; rfl
          · rw [z9, mx_C rfl, gu_oo _ (by decide)]
            unfold oEC
            rw [gu_oo _ (by decide), gu_oo _ (by decide), gu_oo _ (by decide), gu_oo _ (by decide), gu_oo _ (by decide)]; exact hl
          · rw [z9]
            exact ⟨⟨fun q => by omega, fun q => by omega⟩, fun q => by omega, fun q => by omega, fun q => by omega, fun q => by omega, fun q => by omega, fun q => by omega, fun q => by omega, fun q => by omega⟩
      · exact er (i_yl_n (cat f1 p1 c1.2.2 c1.1) (by omega) hc8.1 hro (Or.inr (Or.inl ⟨b4, ng, by rw [P7, i3]; decide⟩))) (hV_24 hh (fun C K hk => r_yl_n (g := z 2 (z 8 u) - 4) f5 hb12 hbo (Or.inr (Or.inr ⟨z3, g5', by omega, by rw [P8, i3]; rfl⟩)) hk))
  · exact er (i_yl_n (cat f1 p1 c1.2.2 c1.1) (by omega) hc8.1 hro (Or.inl (by omega))) (hV_24 hh (fun C K hk => r_yl_n (g := 0) f5 hb12 hbo (Or.inl (by
      rw [g3]
      have : z 2 (z 8 u) = 1 ∨ z 2 (z 8 u) = 2 ∨ z 2 (z 8 u) = 3 := by omega
      rcases this with q | q | q <;> rw [q] <;> decide)) hk))
