/-! INSERT -/
theorem ibl_26 {v : Int32} : ibl v 26 = 0 ↔ ¬ (0 ≤ v ∧ v < 26) := by rw [ibl_bi]; exact bi_z
/-- it can't -/
theorem i_ins_n {G : Gt} {u p b l : Nat} {er : Int32} (h : cAt G u p 29) (ht : txo 19 (G 19 7) = 20 + 5 * b) (hx : tx (20 + 5 * b)) (hl : G (20 + 5 * b) 2 = nI l) (hl4 : l ≤ 40) (hc : (inm (G 84 16) = 0 ∧ er = -3) ∨ (¬ inm (G 84 16) = 0 ∧ (¬ (0 ≤ G 84 16 ∧ G 84 16 < 26) ∨ l = 40) ∧ er = -4)) : cS G (oFl u er (gu G 116 u (nI (p + 1)))) := by
  refine cS_e h (by decide) (fun R K hk => ?_)
  obtain ⟨h7, h12, h11, hu6, hp, hp2, hw0⟩ := h
  obtain ⟨g1, g2, g3⟩ := tx_f hx
  have hx' := hx
  unfold tx at hx'
  refine pif_p (by decide) ?_
  rw [show txo 19 ((mxw (gu G 116 u (nI (p + 1))) R) 19 7) = 20 + 5 * b from ht]
  unfold w_X2_insert w_X2_insert_j38
  rw [show (mxw (gu G 116 u (nI (p + 1))) R) 84 16 = G 84 16 from rfl, show (mxw (gu G 116 u (nI (p + 1))) R) (20 + 5 * b) 2 = nI l from by rw [mx_C g1, gu_oo _ (by omega)]; exact hl]
  rcases hc with ⟨c1, c2⟩ | ⟨c1, c2, c3⟩
  · rw [c2] at hk; exact pif_p c1 (k_fail (G := gu G 116 u (nI (p + 1))) h11 hu6 hk)
  · rw [c3] at hk
    refine pif_n c1 ?_
    by_cases c4 : 0 ≤ G 84 16 ∧ G 84 16 < 26
    · have c5 : l = 40 := by
        rcases c2 with q | q
        · exact absurd c4 q
        · exact q
      refine pif_n (fun q => ibl_26.mp q c4) (pif_n (fun q => ?_) (k_fail (G := gu G 116 u (nI (p + 1))) h11 hu6 hk))
      have := (nI_ltL (w := l) (a := 40) (b := 40) rfl (by omega) (by decide)).mp q
      omega
    · exact pif_p (ibl_26.mpr c4) (k_fail (G := gu G 116 u (nI (p + 1))) h11 hu6 hk)
/-- it can -/
theorem i_ins_y {G H : Gt} {u p b c h l y : Nat} (hh : cAt G u p 29) (ht : txo 19 (G 19 7) = 20 + 5 * b) (hx : tx (20 + 5 * b)) (hl : G (20 + 5 * b) 2 = nI l) (hl4 : l < 40) (h3 : G (20 + 5 * b) 3 = nI c) (hc4 : c < 4) (hp0 : G (20 + 5 * b + 4) c = nI h) (hhl : h ≤ l) (hy : y < 26) (hv : G 84 16 = nI y)
    (hH1 : (G 19 8 = -1 ∨ ¬ G 84 14 = 0) → H = gu (gIc (20 + 5 * b) c h l (nI y) (gu G 116 u (nI (p + 1)))) 116 u 0)
    (hH2 : ¬ G 19 8 = -1 → G 84 14 = 0 → ∀ (R : Gt) (K : Gt → Prop), K (mxw H R) → w_X2_invoke K (G 19 8) 1 (mxw (gu (gu (gu (gIc (20 + 5 * b) c h l (nI y) (gu G 116 u (nI (p + 1)))) 84 14 1) 122 u (nI y)) 118 u (G 18 p)) R)) : cS G H := by
  refine cS_e hh (by decide) (fun R K hk => ?_)
  obtain ⟨h7, h12, h11, hu6, hp, hp2, hw0⟩ := hh
  obtain ⟨g1, g2, g3⟩ := tx_f hx
  have hx' := hx
  unfold tx at hx'
  have o : ∀ k j, ¬ tC b k j → (gIc (20 + 5 * b) c h l (nI y) (gu G 116 u (nI (p + 1)))) k j = (gu G 116 u (nI (p + 1))) k j := fun k j q => gIc_o q
  refine pif_p (by decide) ?_
  rw [show txo 19 ((mxw (gu G 116 u (nI (p + 1))) R) 19 7) = 20 + 5 * b from ht]
  unfold w_X2_insert w_X2_insert_j71
  rw [show (mxw (gu G 116 u (nI (p + 1))) R) 84 16 = nI y from hv, show (mxw (gu G 116 u (nI (p + 1))) R) (20 + 5 * b) 2 = nI l from by rw [mx_C g1, gu_oo _ (by omega)]; exact hl]
  have hin : 0 ≤ nI y ∧ nI y < 26 := ⟨nI_pos' (by omega), nI_ltx (b := 26) rfl hy (by decide)⟩
  have hnum : ¬ inm (nI y) = 0 := by
    rw [inm_bi, bi_z]
    exact fun q => q (isn_n (by omega))
  refine pif_n hnum (pif_n (fun q => ibl_26.mp q hin) (pif_p (nI_ltx (b := 40) rfl hl4 (by decide)) ?_))
  refine k_il (G := gu G 116 u (nI (p + 1))) hx (by rw [gu_oo _ (by omega)]; exact hl) hl4 (by rw [gu_oo _ (by omega)]; exact h3) hc4 (by rw [gu_oo _ (by omega)]; exact hp0) hhl ?_
  have e8 : (mxw (gIc (20 + 5 * b) c h l (nI y) (gu G 116 u (nI (p + 1)))) R) 19 8 = G 19 8 := by rw [mx_C rfl, o 19 8 (by unfold tC; omega)]; rfl
  have e14 : (mxw (gIc (20 + 5 * b) c h l (nI y) (gu G 116 u (nI (p + 1)))) R) 84 14 = G 84 14 := by rw [mx_C rfl, o 84 14 (by unfold tC; omega)]; rfl
  have e11 : (gIc (20 + 5 * b) c h l (nI y) (gu G 116 u (nI (p + 1)))) 84 11 = nI u := by rw [o 84 11 (by unfold tC; omega)]; exact h11
  have e16 : (gIc (20 + 5 * b) c h l (nI y) (gu G 116 u (nI (p + 1)))) 84 16 = nI y := by rw [o 84 16 (by unfold tC; omega)]; exact hv
  rw [e8, e14]
  by_cases c1 : G 19 8 = -1
  · rw [hH1 (Or.inl c1)] at hk
    exact pif_p c1 (k_jump e11 hu6 hk)
  · by_cases c2 : G 84 14 = 0
    · refine pif_n c1 (pif_p c2 (ptc rfl (pcp (i := u) e11 hu6 (by decide) rfl ?_)))
      rw [show (mxw (gu (gIc (20 + 5 * b) c h l (nI y) (gu G 116 u (nI (p + 1)))) 84 14 1) R) 84 16 = nI y from e16]
      refine pcp (i := u) e11 hu6 (by decide) rfl ?_
      rw [show (mxw (gu (gu (gu (gIc (20 + 5 * b) c h l (nI y) (gu G 116 u (nI (p + 1)))) 84 14 1) 122 u (nI y)) 118 u (G 18 p)) R) 19 8 = G 19 8 from e8]
      exact hH2 c1 c2 R K hk
    · rw [hH1 (Or.inr c2)] at hk
      exact pif_n c1 (pif_n c2 (k_jump e11 hu6 hk))
theorem i25 {v : Int32} : (0 ≤ v ∧ v ≤ 25) ↔ (0 ≤ v ∧ v < 26) := by
  have e : v ≤ 25 ↔ v < 26 := by
    rw [Int32.le_iff_toInt_le, Int32.lt_iff_toInt_lt, show (25 : Int32).toInt = 25 by decide, show (26 : Int32).toInt = 26 by decide]
    omega
  rw [e]
theorem r_ins_n {K : Gt → Prop} {C G : Gt} {f b l : Nat} {v : Int32} (hf : f < 1220) (hb : G 46 14 = nI b) (hb2 : b < 2) (hl : G 59 b = nI l) (hl4 : l ≤ 40) (hc : ¬ (0 ≤ v ∧ v < 26) ∨ l = 40) (hk : K (mxw C (oFr f (-4) G))) : w_X11_takes K (nI f) (nI 29) v (mxw C G) := by
  unfold w_X11_takes w_X11_takes_j211
  refine pif_n (by decide) (pif_n (by decide) (pif_p (by decide) ?_))
  unfold w_X11_putsLetter w_X11_putsLetter_j24
  refine s11_in ?_
  by_cases c : 0 ≤ v ∧ v ≤ 25
  · rw [bi_T c]
    have hl' : l = 40 := by
      rcases hc with q | q
      · exact absurd (i25.mp c) q
      · exact q
    refine pif_n (by decide) ?_
    rw [show (mxw C G) 46 14 = nI b from hb, nI_clamp (by omega), show (mxw C G) 59 b = nI l from hl]
    exact ⟨vp_n hb2 (by decide), pif_p (by rw [hl']; rfl) (r_fails hf hk)⟩
  · rw [bi_F c]
    exact pif_p rfl (r_fails hf hk)
theorem r_ins_y {K : Gt → Prop} {C G : Gt} {f b c h l y : Nat} (hf : f < 1220) (hb : G 46 14 = nI b) (hb2 : b < 2) (hl : G 59 b = nI l) (hl4 : l < 40) (hc : G 61 b = nI c) (hc4 : c < 4) (hp : G 60 (4 * b + c) = nI h) (hhl : h ≤ l) (hy : y < 26)
    (h1 : (G 46 12 = -1 ∨ ¬ G 46 51 = 0) → K (mxw C (oEn (nI y) (G 65 f) (gu (gIr b c h l (nI y) G) 68 f (nI y)))))
    (h2 : ¬ G 46 12 = -1 → G 46 51 = 0 → w_X11_callsSlot K (nI f) (G 46 12) 1 (nI y) 0 (mxw C (gu (gu (gu (gIr b c h l (nI y) G) 68 f (nI y)) 46 51 1) 67 f (10 + G 46 12)))) : w_X11_takes K (nI f) (nI 29) (nI y) (mxw C G) := by
  have o : ∀ k j, ¬ tC b k j → (gIr b c h l (nI y) G) k j = G k j := fun k j q => gIr_o hhl hl4 q
  have hin : 0 ≤ nI y ∧ nI y < 26 := ⟨nI_pos' (by omega), nI_ltx (b := 26) rfl hy (by decide)⟩
  unfold w_X11_takes w_X11_takes_j211
  refine pif_n (by decide) (pif_n (by decide) (pif_p (by decide) ?_))
  unfold w_X11_putsLetter w_X11_putsLetter_j59 w_X11_putsLetter_j98
  refine s11_in ?_
  rw [bi_T (i25.mpr hin)]
  refine pif_n (by decide) ?_
  rw [show (mxw C G) 46 14 = nI b from hb, nI_clamp (by omega), show (mxw C G) 59 b = nI l from hl]
  refine ⟨vp_n hb2 (by decide), pif_n (fun q => by have := (nI_eqL (w := l) (a := 40) (b := 40) rfl (by omega) (by decide)).mp q; omega) ?_⟩
  refine r_il hb hb2 hl hl4 hc hc4 hp hhl ⟨vp_n hf (by decide), ?_⟩
  rw [nI_clamp (by omega)]
  refine ptr rfl ?_
  have e12 : (mxw C (gu (gIr b c h l (nI y) G) 68 f (nI y))) 46 12 = G 46 12 := by rw [mx_R rfl, gu_oo _ (by decide), o 46 12 (by unfold tC; omega)]
  have e51 : (mxw C (gu (gIr b c h l (nI y) G) 68 f (nI y))) 46 51 = G 46 51 := by rw [mx_R rfl, gu_oo _ (by decide), o 46 51 (by unfold tC; omega)]
  have e65 : (gu (gIr b c h l (nI y) G) 68 f (nI y)) 65 f = G 65 f := by rw [gu_oo _ (by decide), o 65 f (by unfold tC; omega)]
  rw [e12, e51]
  by_cases c1 : G 46 12 = -1
  · refine pif_p c1 (r_ends hf ?_)
    rw [e65]; exact h1 (Or.inl c1)
  · by_cases c2 : G 46 51 = 0
    · refine pif_n c1 (pif_p c2 (ptr rfl ⟨vp_n hf (by decide), ?_⟩))
      rw [show (mxw C (gu (gu (gIr b c h l (nI y) G) 68 f (nI y)) 46 51 1)) 46 12 = G 46 12 from e12]
      refine ptr rfl ?_
      rw [show (mxw C (gu (gu (gu (gIr b c h l (nI y) G) 68 f (nI y)) 46 51 1) 67 f (10 + G 46 12))) 46 12 = G 46 12 from e12]
      exact h2 c1 c2
    · refine pif_n c1 (pif_n c2 (r_ends hf ?_))
      rw [e65]; exact h1 (Or.inr c2)
theorem v_29_1 {N B : Nat} {z : Zt} {G : Gt} {x : Nat → Int32} {u e : Nat} (h : va N B z G x u 29 e 1) : eW N B z G (rS G) := by
  have hs := va_s h
  obtain ⟨f1, f2, f3, f4, f5, f6, f7, f8, f9, f10, f11, f12, f13, f14⟩ := st_f hs
  have hu := hs.2.1
  have hh := va_h h
  have hV := va_V h
  obtain ⟨v1, v2, v3⟩ := va_v h
  have kk := st_k hs
  have hun := hs.2.2.1
  have hx := va_x h (by decide)
  have c1 := st_code hs (q := 1) (w := 29) (d := nI e + 5) (by rw [cd_29]; rfl)
  have c2 := st_code hs (q := 2) (w := 57) (d := -1) (by rw [cd_29]; rfl)
  have c3 := st_code hs (q := 3) (w := 58) (d := -1) (by rw [cd_29]; rfl)
  have c5 := st_code hs (q := 5) (w := 60) (d := -1) (by rw [cd_29]; rfl)
  have c6 := st_code hs (q := 6) (w := 40) (d := -1) (by rw [cd_29]; rfl)
  have p1 := va_p h (q := 1) (by decide) rfl
  have hl := va_l h (show lao 29 1 = 0 from rfl)
  have hP := hs.1.1.1
  obtain ⟨b, l, c, b2, l4, c4, t1, t2, t3, t4, t5, t6, t7, t8, t9, p, t10, t11, t12⟩ := txc (st_qU hs)
  rcases st_vv hs v1 with ⟨n1, n2, n3⟩ | ⟨n1, n2, n3⟩
  · by_cases d : ¬ (0 ≤ G 84 16 ∧ G 84 16 < 26) ∨ l = 40
    · have s1 := i_ins_n (cat f1 p1 c1.2.2 c1.1) t3 t4 t6 l4 (Or.inr ⟨by rw [n2]; decide, d, rfl⟩)
      have hR := hV_29_y (H := oFr (z 6 u) (-4) G) hh (by rw [v2]; exact n3) (fun C K hk => by rw [v2]; exact r_ins_n f5 t2 b2 t7 l4 d hk)
      exact va_er h (by decide) (by unfold isnum; decide) s1 hR rfl
    · have d1 : 0 ≤ G 84 16 ∧ G 84 16 < 26 := Classical.byContradiction (fun q => d (Or.inl q))
      have d2 : l < 40 := by
        have : ¬ l = 40 := fun q => d (Or.inr q)
        omega
      obtain ⟨y, hy, ey⟩ := nI_ex (n := 26) d1.1 d1.2 (by decide)
      obtain ⟨q1, q2, q3, q4⟩ := st_s hs
      obtain ⟨hk1, hk2⟩ := (st_qU hs).2.2.1.2.2
      have o1 : ∀ k j, ¬ tC b k j → (gIc (20 + 5 * b) c p l (nI y) (gu G 116 u (nI (e + 1 + 1)))) k j = (gu G 116 u (nI (e + 1 + 1))) k j := fun k j q => gIc_o q
      have o2 : ∀ k j, ¬ tC b k j → (gIr b c p l (nI y) G) k j = G k j := fun k j q => gIr_o t10 d2 q
      have hst := st_fr (Gc := gu G 116 u (nI (e + 1 + 1))) (Gr := G) (sp' := 1) (fp' := 0) hs (ag1 hu (by decide) agw_rfl) agw_rfl ⟨rfl, rfl, rfl, rfl, rfl⟩ (Nat.le_refl _) (Nat.le_refl _)
      obtain ⟨g1, g2, g3⟩ := tx_f t4
      have gX : gT (20 + 5 * b) b (gu G 116 u (nI (e + 1 + 1))) G := gT_eq t5 (fun k j q => by rw [gu_oo _ (by have := tC_r b2 q; omega)]) (fun _ _ _ => rfl)
      have hT := gT_ins gX b2 (by rw [gu_oo _ (by omega)]; exact t6) d2 (by rw [gu_oo _ (by omega)]; exact t8) c4 t10 hy
      have hst1 := st_t (G' := mxw (gIc (20 + 5 * b) c p l (nI y) (gu G 116 u (nI (e + 1 + 1)))) (gIr b c p l (nI y) G)) hst b2 (gT_mx b2 hT) (mx_o o1 o2)
      have kp1 : kp G (gIc (20 + 5 * b) c p l (nI y) (gu G 116 u (nI (e + 1 + 1)))) := fun k j q => (o1 k j (by unfold kpc at q; unfold tC; omega)).trans (gu_oo _ (by unfold kpc at q; omega))
      have kp2 : kp G (gIr b c p l (nI y) G) := fun k j q => o2 k j (by unfold kpc at q; unfold tC; omega)
      by_cases d3 : G 19 8 = -1 ∨ ¬ G 84 14 = 0
      · have s1 := i_ins_y (H := gu (gIc (20 + 5 * b) c p l (nI y) (gu G 116 u (nI (e + 1 + 1)))) 116 u 0) (cat f1 p1 c1.2.2 c1.1) t3 t4 t6 d2 t8 c4 t11 t10 hy ey (fun _ => rfl) (fun w1 w2 => absurd d3 (fun w => by
          rcases w with w | w
          · exact w1 w
          · exact w w2))
        have hR := hV_29_y (H := oEn (nI y) (G 65 (z 6 u)) (gu (gIr b c p l (nI y) G) 68 (z 6 u) (nI y))) hh (by rw [v2]; exact n3) (fun C K hk => by
          rw [v2, ey]
          refine r_ins_y f5 t2 b2 t7 d2 t9 c4 t12 t10 hy (fun _ => hk) (fun w1 w2 => absurd d3 (fun w => ?_))
          rcases w with w | w
          · exact w1 (hk1.symm.trans w)
          · exact w (q1.trans w2))
        have hst2 := st_u (G' := mxw (gu (gIc (20 + 5 * b) c p l (nI y) (gu G 116 u (nI (e + 1 + 1)))) 116 u 0) (gu (gIr b c p l (nI y) G) 68 (z 6 u) (nI y))) (sp' := 1) (fp' := 0) hst1 (by rw [← mxw_gC (k := 116) (j := u) rfl, ← mxw_gR (k := 68) (j := z 6 u) rfl]; exact ag1 hu (by decide) (ag2 hu (by decide) agw_rfl)) ⟨rfl, rfl, rfl, rfl, rfl⟩ (Nat.le_refl _) (Nat.le_refl _)
        have e65 : (gu (gIr b c p l (nI y) G) 68 (z 6 u) (nI y)) 65 (z 6 u) = G 65 (z 6 u) := by rw [gu_oo _ (by decide), o2 65 _ (by unfold tC; omega)]
        refine f_end (p := 0) (t := 1) (v := nI y) clo_rS hst2 (fun o ho => ?_) (cT_1 s1) (by decide) (by rw [gu_kk]; rfl) ⟨?_, by decide⟩ (by rw [e65]; exact hR) e65 ?_ ?_ (Or.inl (isn_n (by omega))) (kp_gu (by unfold kpc; omega) kp1) (kp_gu (by unfold kpc; omega) kp2)
        · rw [gu_oo _ (by decide), o1 31 _ (by unfold tC; omega)]; exact hx o ho
        · rw [gu_oo _ (by decide), o1 16 _ (by unfold tC; omega), gu_oo _ (by decide)]; exact hP.2.2.2.1
        · rw [gu_oo _ (by decide), o1 84 15 (by unfold tC; omega), gu_oo _ (by decide)]; exact v3
        · rw [gu_oo _ (by decide), o1 84 16 (by unfold tC; omega), gu_oo _ (by decide)]; exact ey
      · have d4 : ¬ G 19 8 = -1 := fun q => d3 (Or.inl q)
        have d5 : G 84 14 = 0 := Classical.byContradiction (fun q => d3 (Or.inr q))
        obtain ⟨lh, hlh, elh⟩ : ∃ s, s < 6 ∧ G 46 12 = nI s := by
          rcases hk2 with q | q
          · exact absurd (hk1.trans q) d4
          · exact q
        have e198 : G 19 8 = nI lh := hk1.trans elh
        have e5 : G 18 (e + 1) = nI (e + 5) := c1.2.1.trans (nI_add e 5)
        have hst2 := st_w (G' := mxw (gu (gu (gu (gIc (20 + 5 * b) c p l (nI y) (gu G 116 u (nI (e + 1 + 1)))) 84 14 1) 122 u (nI y)) 118 u (nI (e + 5))) (gu (gu (gu (gIr b c p l (nI y) G) 68 (z 6 u) (nI y)) 46 51 1) 67 (z 6 u) (nI (10 + lh)))) (x' := x) hst1 ?_ ⟨rfl, bz_1, ?_, ?_⟩ ?_ ?_ (Or.inl (fun _ _ => rfl))
        · have h15 : (gu (gu (gu (gIc (20 + 5 * b) c p l (nI y) (gu G 116 u (nI (e + 1 + 1)))) 84 14 1) 122 u (nI y)) 118 u (nI (e + 5))) 84 15 = 0 := by
            rw [gu_oo _ (by decide), gu_oo _ (by decide), gu_ko _ (by decide), o1 84 15 (by unfold tC; omega), gu_oo _ (by decide)]; exact v3
          have r16 : ∀ q, (gu (gu (gu (gIc (20 + 5 * b) c p l (nI y) (gu G 116 u (nI (e + 1 + 1)))) 84 14 1) 122 u (nI y)) 118 u (nI (e + 5))) 16 q = G 16 q := fun q => by
            rw [gu_oo _ (by decide), gu_oo _ (by decide), gu_oo _ (by decide), o1 16 _ (by unfold tC; omega), gu_oo _ (by decide)]
          refine call_ev (l := lh) (a := 1) (P := e + 2) (t := 1) (fst := nI y) (snd := 0) clo_rS hst2 (fun o ho => ?_) (Or.inr rfl) hlh (by decide) rfl ?_ ?_ ⟨?_, c3.2.2⟩ ?_ (fun _ => ⟨?_, ?_, c6.2.2⟩) (fun q => by omega) (fun _ => ?_) (fun _ => ⟨?_, ?_⟩) ?_ (Or.inl (isn_n (by omega))) (fun q => by omega) (fun X hX => cT_1 (i_ins_y (cat f1 p1 c1.2.2 c1.1) t3 t4 t6 d2 t8 c4 t11 t10 hy ey (fun w => absurd w d3) (fun _ _ R K hk => by rw [e198, e5]; exact hX R K hk))) (by decide) (fun H hH => ?_) ?_ ?_ h15
          · rw [gu_oo _ (by decide), gu_oo _ (by decide), gu_oo _ (by decide), o1 31 _ (by unfold tC; omega)]; exact hx o ho
          · rw [gu_oo _ (by decide), gu_oo _ (by decide), gu_oo _ (by decide), o1 116 _ (by unfold tC; omega), gu_kk]
          · rw [r16]; exact c2.1
          · rw [r16]; exact c3.1
          · rw [gu_kk, if_pos rfl]
          · rw [r16]; exact c5.1
          · rw [r16]; exact c6.1
          · rw [gu_kk]
          · rw [gu_oo _ (by decide), gu_kk, gu_oo _ (by decide), gu_oo _ (by decide), gu_kk]
          · rw [gu_oo _ (by decide), gu_kk]; exact isn_n (by omega)
          · rw [if_neg (by decide), if_pos rfl, if_neg (by decide), gu_oo _ (by decide), gu_oo _ (by decide), gu_ko _ (by decide), o1 84 16 (by unfold tC; omega), gu_oo _ (by decide)]; exact ey
          · refine hV_29_y hh (by rw [v2]; exact n3) (fun C K hk => ?_)
            rw [v2, ey]
            refine r_ins_y f5 t2 b2 t7 d2 t9 c4 t12 t10 hy (fun w => absurd d3 (fun q => q ?_)) (fun _ _ => ?_)
            · rcases w with w | w
              · exact Or.inl (hk1.trans w)
              · exact Or.inr (fun q => w (q1.symm.trans q))
            · rw [elh, show (10 : Int32) + nI lh = nI (10 + lh) from nI_a 10 lh _ rfl]
              exact hH C K hk
          · exact kp_gu (by unfold kpc; omega) (kp_gu (by unfold kpc; omega) (kp_gu (by unfold kpc; omega) kp1))
          · exact kp_gu (by unfold kpc; omega) (kp_gu (by unfold kpc; omega) (kp_gu (by unfold kpc; omega) kp2))
        · refine agr_agw (agp_mx (P := frw z) ?_ ?_)
          · exact agp_gu (fw1 hu (by decide)) (agp_gu (fw1 hu (by decide)) (agp_gu (fw84 (by decide)) agp_rfl))
          · exact agp_gu (Or.inr (Or.inl ⟨by decide, by rw [hu]⟩)) (agp_gu (fw46 (by decide)) (agp_gu (Or.inr (Or.inl ⟨by decide, by rw [hu]⟩)) agp_rfl))
        · exact (st_s hst1).2.2.1
        · exact (st_s hst1).2.2.2
        · exact fun l _ q => q
        · refine qU_eq (st_qU hst1) (fun k j q => ?_)
          cases hk : isR k
          · rw [mx_C hk, mx_C hk, gu_n (by omega), gu_n (by omega), gu_n (by omega)]
          · rw [mx_R hk, mx_R hk, gu_n (by omega), gu_n (by omega), gu_n (by omega)]
  · have s1 := i_ins_n (cat f1 p1 c1.2.2 c1.1) t3 t4 t6 l4 (Or.inl ⟨n2, rfl⟩)
    exact va_er h (by decide) (by unfold isnum; decide) s1 (hV_29_n hh (by rw [v2]; exact n3)) rfl
