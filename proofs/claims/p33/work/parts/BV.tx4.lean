/-! ERASE, HERE, LETTER, LENGTH -/
theorem isn_n {n : Nat} (h : n ≤ 9999) : isnum (nI n) := by
  unfold isnum
  rw [i_ile, i_ile, i_99.1, i_99.2, nI_toInt (by omega)]
  omega
theorem i_era_n {G : Gt} {u p b c : Nat} (h : cAt G u p 30) (ht : txo 19 (G 19 7) = 20 + 5 * b) (hx : tx (20 + 5 * b)) (h3 : G (20 + 5 * b) 3 = nI c) (hc4 : c < 4) (hp0 : G (20 + 5 * b + 4) c = 0) : cS G (oFl u (-4) (gu G 116 u (nI (p + 1)))) := by
  refine cS_e h (by decide) (fun R K hk => ?_)
  obtain ⟨h7, h12, h11, hu6, hp, hp2, hw0⟩ := h
  obtain ⟨g1, g2, g3⟩ := tx_f hx
  refine pif_n (by decide) (pif_p (by decide) ?_)
  rw [show txo 19 ((mxw (gu G 116 u (nI (p + 1))) R) 19 7) = 20 + 5 * b from ht]
  unfold w_X8_activePlace
  have e1 : rat (mxw (gu G 116 u (nI (p + 1))) R) (20 + 5 * b + 4) 4 ((mxw (gu G 116 u (nI (p + 1))) R) (20 + 5 * b) 3) = 0 := by
    unfold tx at hx
    rw [mx_C g1, gu_oo _ (by omega), h3, rat_n hc4 (by decide), mx_C g3, gu_oo _ (by omega)]; exact hp0
  rw [e1]
  exact pif_n (by decide) (k_fail (G := gu G 116 u (nI (p + 1))) h11 hu6 hk)
theorem i_era_y {G : Gt} {u p b c h l : Nat} (hh : cAt G u p 30) (ht : txo 19 (G 19 7) = 20 + 5 * b) (hx : tx (20 + 5 * b)) (h3 : G (20 + 5 * b) 3 = nI c) (hc4 : c < 4) (hl : G (20 + 5 * b) 2 = nI l) (hl4 : l ≤ 40) (hp0 : G (20 + 5 * b + 4) c = nI h) (h1 : 1 ≤ h) (hhl : h ≤ l) : cS G (gu (gEc (20 + 5 * b) c h l (gu G 116 u (nI (p + 1)))) 84 16 (G (20 + 5 * b + 2) (h - 1))) := by
  refine cS_e hh (by decide) (fun R K hk => ?_)
  obtain ⟨h7, h12, h11, hu6, hp, hp2, hw0⟩ := hh
  obtain ⟨g1, g2, g3⟩ := tx_f hx
  have hx' := hx
  unfold tx at hx'
  refine pif_n (by decide) (pif_p (by decide) ?_)
  rw [show txo 19 ((mxw (gu G 116 u (nI (p + 1))) R) 19 7) = 20 + 5 * b from ht]
  unfold w_X8_activePlace
  have e1 : rat (mxw (gu G 116 u (nI (p + 1))) R) (20 + 5 * b + 4) 4 ((mxw (gu G 116 u (nI (p + 1))) R) (20 + 5 * b) 3) = nI h := by
    rw [mx_C g1, gu_oo _ (by omega), h3, rat_n hc4 (by decide), mx_C g3, gu_oo _ (by omega)]; exact hp0
  rw [e1]
  refine pif_p ((nI_leL (w := 1) (a := h) (b := nI h) rfl (by decide) (by omega)).mpr h1) ?_
  refine k_el (G := gu G 116 u (nI (p + 1))) hx (by rw [gu_oo _ (by omega)]; exact hl) hl4 (by rw [gu_oo _ (by omega)]; exact h3) hc4 (by rw [gu_oo _ (by omega)]; exact hp0) h1 hhl ?_
  rw [gu_oo (a := 20 + 5 * b + 2) _ (by omega)]
  exact ptc rfl hk
theorem r_lk_30 {K : Gt → Prop} {C G H : Gt} {f b c h l : Nat} (hf : f < 1220) (hb : G 46 14 = nI b) (hb2 : b < 2) (hl : G 59 b = nI l) (hl4 : l ≤ 40) (hc : G 61 b = nI c) (hc4 : c < 4) (hp : G 60 (4 * b + c) = nI h) (hhl : h ≤ l) (hH : H = if h = 0 then oFr f (-4) G else oEn (G 58 (40 * b + (h - 1))) (G 65 f) (gEr b c h l G)) (hk : K (mxw C H)) : w_X11_looks K (nI f) (nI 30) (mxw C G) := by
  unfold w_X11_looks w_X11_looks_j23 w_X11_looks_j73 w_X11_looks_j76
  refine pif_p (by decide) (r_place hb hb2 hc hc4 hp ?_)
  by_cases q : h = 0
  · rw [hH, if_pos q] at hk
    rw [q]; exact pif_p rfl (r_fails hf hk)
  · rw [hH, if_neg q] at hk
    refine pif_n (fun y => q ((nI_eqL (w := h) (a := 0) (b := 0) rfl (by omega) (by decide)).mp y)) (pif_p (by decide) ?_)
    refine r_el hb hb2 hl hl4 hc hc4 hp (by omega) hhl (r_ends hf ?_)
    rw [show (gEr b c h l G) 65 f = G 65 f from gEr_o hl4 (by unfold tC; omega)]
    exact hk
theorem r_lk_32 {K : Gt → Prop} {C G : Gt} {f b c : Nat} {x : Int32} (hf : f < 1220) (hb : G 46 14 = nI b) (hb2 : b < 2) (hc : G 61 b = nI c) (hc4 : c < 4) (hp : G 60 (4 * b + c) = x) (hk : K (mxw C (oEn x (G 65 f) G))) : w_X11_looks K (nI f) (nI 32) (mxw C G) := by
  unfold w_X11_looks w_X11_looks_j23 w_X11_looks_j73 w_X11_looks_j76
  exact pif_n (by decide) (pif_n (by decide) (pif_p (by decide) (r_place hb hb2 hc hc4 hp (r_ends hf hk))))
theorem r_lk_33 {K : Gt → Prop} {C G H : Gt} {f b c h l : Nat} (hf : f < 1220) (hb : G 46 14 = nI b) (hb2 : b < 2) (hl : G 59 b = nI l) (hl4 : l ≤ 40) (hc : G 61 b = nI c) (hc4 : c < 4) (hp : G 60 (4 * b + c) = nI h) (hhl : h ≤ l) (hH : H = if l ≤ h then oEn (-1) (G 65 f) G else oEn (G 58 (40 * b + h)) (G 65 f) G) (hk : K (mxw C H)) : w_X11_looks K (nI f) (nI 33) (mxw C G) := by
  unfold w_X11_looks w_X11_looks_j23 w_X11_looks_j73 w_X11_looks_j76 w_X11_letterHere w_X11_letterHere_j37
  refine pif_n (by decide) (pif_n (by decide) (pif_n (by decide) (pif_p (by decide) (r_place hb hb2 hc hc4 hp ?_))))
  rw [show (mxw C G) 46 14 = nI b from hb, nI_clamp (by omega), show (mxw C G) 59 b = nI l from hl]
  have q := nI_leL (w := l) (a := h) (b := nI h) rfl (by omega) (by omega)
  by_cases d : l ≤ h
  · rw [hH, if_pos d] at hk
    exact ⟨vp_n hb2 (by decide), pif_p (q.mpr d) (r_ends hf hk)⟩
  · rw [hH, if_neg d] at hk
    refine ⟨vp_n hb2 (by decide), pif_n (fun y => d (q.mp y)) (r_place hb hb2 hc hc4 hp ?_)⟩
    rw [e40, nI_clamp (by omega)]
    exact ⟨vp_n (by omega) (by decide), r_ends hf hk⟩
theorem r_lk_34 {K : Gt → Prop} {C G : Gt} {f b : Nat} {x : Int32} (hf : f < 1220) (hb : G 46 14 = nI b) (hb2 : b < 2) (hl : G 59 b = x) (hk : K (mxw C (oEn x (G 65 f) G))) : w_X11_looks K (nI f) (nI 34) (mxw C G) := by
  unfold w_X11_looks w_X11_looks_j23 w_X11_looks_j73 w_X11_looks_j76
  refine pif_n (by decide) (pif_n (by decide) (pif_n (by decide) (pif_n (by decide) ?_)))
  rw [show (mxw C G) 46 14 = nI b from hb, nI_clamp (by omega), show (mxw C G) 59 b = x from hl]
  exact ⟨vp_n hb2 (by decide), r_ends hf hk⟩
theorem i_her {G : Gt} {u p b c : Nat} {x : Int32} (h : cAt G u p 32) (ht : txo 19 (G 19 7) = 20 + 5 * b) (hx : tx (20 + 5 * b)) (h3 : G (20 + 5 * b) 3 = nI c) (hc4 : c < 4) (hp0 : G (20 + 5 * b + 4) c = x) : cS G (gu (gu G 116 u (nI (p + 1))) 84 16 x) := by
  refine cS_e h (by decide) (fun R K hk => ?_)
  obtain ⟨h7, h12, h11, hu6, hp, hp2, hw0⟩ := h
  obtain ⟨g1, g2, g3⟩ := tx_f hx
  refine pif_n (by decide) (pif_n (by decide) (pif_n (by decide) (pif_p (by decide) ?_)))
  rw [show txo 19 ((mxw (gu G 116 u (nI (p + 1))) R) 19 7) = 20 + 5 * b from ht]
  unfold w_X8_activePlace
  have e1 : rat (mxw (gu G 116 u (nI (p + 1))) R) (20 + 5 * b + 4) 4 ((mxw (gu G 116 u (nI (p + 1))) R) (20 + 5 * b) 3) = x := by
    unfold tx at hx
    rw [mx_C g1, gu_oo _ (by omega), h3, rat_n hc4 (by decide), mx_C g3, gu_oo _ (by omega)]; exact hp0
  rw [e1]
  exact ptc rfl hk
theorem i_lth {G : Gt} {u p b : Nat} {x : Int32} (h : cAt G u p 34) (ht : txo 19 (G 19 7) = 20 + 5 * b) (hx : tx (20 + 5 * b)) (h2 : G (20 + 5 * b) 2 = x) : cS G (gu (gu G 116 u (nI (p + 1))) 84 16 x) := by
  refine cS_e h (by decide) (fun R K hk => ?_)
  obtain ⟨h7, h12, h11, hu6, hp, hp2, hw0⟩ := h
  obtain ⟨g1, g2, g3⟩ := tx_f hx
  refine pif_n (by decide) (pif_n (by decide) (pif_n (by decide) (pif_n (by decide) (pif_n (by decide) (pif_p (by decide) ?_)))))
  rw [show txo 19 ((mxw (gu G 116 u (nI (p + 1))) R) 19 7) = 20 + 5 * b from ht]
  have e1 : (mxw (gu G 116 u (nI (p + 1))) R) (20 + 5 * b) 2 = x := by
    unfold tx at hx
    rw [mx_C g1, gu_oo _ (by omega)]; exact h2
  rw [e1]
  exact ptc rfl hk
theorem i_ltr {G : Gt} {u p b c h l : Nat} (hh : cAt G u p 33) (ht : txo 19 (G 19 7) = 20 + 5 * b) (hx : tx (20 + 5 * b)) (h3 : G (20 + 5 * b) 3 = nI c) (hc4 : c < 4) (hl : G (20 + 5 * b) 2 = nI l) (hl4 : l ≤ 40) (hp0 : G (20 + 5 * b + 4) c = nI h) (hhl : h ≤ l) : cS G (gu (gu G 116 u (nI (p + 1))) 84 16 (if l ≤ h then -1 else G (20 + 5 * b + 2) h)) := by
  refine cS_e hh (by decide) (fun R K hk => ?_)
  obtain ⟨h7, h12, h11, hu6, hp, hp2, hw0⟩ := hh
  obtain ⟨g1, g2, g3⟩ := tx_f hx
  unfold tx at hx
  refine pif_n (by decide) (pif_n (by decide) (pif_n (by decide) (pif_n (by decide) (pif_p (by decide) ?_))))
  rw [show txo 19 ((mxw (gu G 116 u (nI (p + 1))) R) 19 7) = 20 + 5 * b from ht]
  unfold w_X8_activePlace w_X2_performEditing_j159 w_X2_performEditing_j264
  have e1 : rat (mxw (gu G 116 u (nI (p + 1))) R) (20 + 5 * b + 4) 4 ((mxw (gu G 116 u (nI (p + 1))) R) (20 + 5 * b) 3) = nI h := by
    rw [mx_C g1, gu_oo _ (by omega), h3, rat_n hc4 (by decide), mx_C g3, gu_oo _ (by omega)]; exact hp0
  have e2 : (mxw (gu G 116 u (nI (p + 1))) R) (20 + 5 * b) 2 = nI l := by
    rw [mx_C g1, gu_oo _ (by omega)]; exact hl
  rw [e1]
  dsimp only
  rw [e2, e1]
  have q := nI_leL (w := l) (a := h) (b := nI h) rfl (by omega) (by omega)
  by_cases d : l ≤ h
  · rw [if_pos d] at hk
    exact pif_p (q.mpr d) (ptc rfl hk)
  · rw [if_neg d] at hk
    refine pif_n (fun y => d (q.mp y)) ?_
    rw [rat_n (by omega) (by decide), mx_C g2, gu_oo _ (by omega)]
    exact ptc rfl hk
theorem b_30 {N B : Nat} {z : Zt} {G0 M : Gt} {u e : Nat} (h : bs N B z G0 M 1 u 30 e 0 0) : eW N B z M (bS G0) := by
  obtain ⟨hs, h116, h118, h124, h15, hb, h19, h20, h67, h55⟩ := id h
  obtain ⟨f1, f2, f3, f4, f5, f6, f7, f8, f9, f10, f11, f12, f13, f14⟩ := st_f hs
  have hu := hs.2.1
  have hun := hs.2.2.1
  have h47 := hs.2.2.2.2.2.2.1
  obtain ⟨b, l, c, b2, l4, c4, t1, t2, t3, t4, t5, t6, t7, t8, t9, p, t10, t11, t12⟩ := txc (st_qU hs)
  have c0 := st_code hs (q := 0) (w := 30) (d := M 48 (z 1 u)) (by rw [cd_30]; rfl)
  have c1 := st_code hs (q := 1) (w := 40) (d := -1) (by rw [cd_30]; rfl)
  rw [Nat.add_zero] at c0
  have hR := bN_30 (H := if p = 0 then oFr (z 6 u) (-4) M else oEn (M 58 (40 * b + (p - 1))) (M 65 (z 6 u)) (gEr b c p l M)) hb h47 (fun C K hk => r_lk_30 f5 t2 b2 t7 l4 t9 c4 t12 t10 rfl hk)
  have hst := st_fr (Gc := gu M 116 u (nI (e + 1))) (Gr := M) (sp' := 1) (fp' := 0) hs (ag1 hu (by decide) agw_rfl) agw_rfl ⟨rfl, rfl, rfl, rfl, rfl⟩ (Nat.le_refl _) (Nat.zero_le _)
  by_cases d : p = 0
  · rw [if_pos d] at hR
    subst d
    exact b_er h (by unfold isnum; decide) hst rfl (by rw [gu_oo _ (by decide)]; exact h118) (i_era_n (cat f1 h116 (by omega) c0.1) t3 t4 t8 c4 t11) (kp_gu (by unfold kpc; omega) kp_rfl) hR
  · rw [if_neg d] at hR
    have s1 := i_era_y (cat f1 h116 (by omega) c0.1) t3 t4 t8 c4 t6 l4 t11 (by omega) t10
    obtain ⟨g1, g2, g3⟩ := tx_f t4
    have gX : gT (20 + 5 * b) b (gu M 116 u (nI (e + 1))) M := gT_eq t5 (fun k j q => by rw [gu_oo _ (by have := tC_r b2 q; omega)]) (fun _ _ _ => rfl)
    have hT := gT_era gX b2 (by rw [gu_oo _ (by omega)]; exact t6) (by rw [gu_oo _ (by omega)]; exact t8) c4 (by omega : 1 ≤ p) t10 l4 t12
    have hst1 := st_t (G' := mxw (gEc (20 + 5 * b) c p l (gu M 116 u (nI (e + 1)))) (gEr b c p l M)) hst b2 (gT_mx b2 hT) (mx_o (fun k j q => gEc_o q) (fun k j q => gEr_o l4 q))
    have hst2 := st_u (G' := mxw (gu (gEc (20 + 5 * b) c p l (gu M 116 u (nI (e + 1)))) 84 16 (M (20 + 5 * b + 2) (p - 1))) (gEr b c p l M)) (sp' := 1) (fp' := 0) hst1 (by rw [← mxw_gC rfl]; exact ag3 (by decide) agw_rfl) ⟨rfl, rfl, rfl, rfl, rfl⟩ (Nat.le_refl _) (Nat.le_refl _)
    have ev : M 58 (40 * b + (p - 1)) = M (20 + 5 * b + 2) (p - 1) ∧ ∃ y, y < 26 ∧ M (20 + 5 * b + 2) (p - 1) = nI y := by
      obtain ⟨q1, y, q2, q3⟩ := t5.2 (p - 1) (by omega)
      exact ⟨q1.symm, y, q2, q1.trans q3⟩
    obtain ⟨y, y1, y2⟩ := ev.2
    rw [ev.1] at hR
    have o1 : ∀ k j, ¬ tC b k j → (gEc (20 + 5 * b) c p l (gu M 116 u (nI (e + 1)))) k j = (gu M 116 u (nI (e + 1))) k j := fun k j q => gEc_o q
    have o2 : ∀ k j, ¬ tC b k j → (gEr b c p l M) k j = M k j := fun k j q => gEr_o l4 q
    refine b_en hst2 (fun o _ => ?_) s1 ?_ ⟨?_, c1.2.2⟩ (by rw [o2 65 _ (by unfold tC; omega)]; exact hR) (o2 65 _ (by unfold tC; omega)) ?_ (by rw [gu_kk]) (by rw [y2]; exact Or.inl (isn_n (by omega))) (kp_gu (by unfold kpc; omega) (fun k j q => (o1 k j (by unfold kpc at q; unfold tC; omega)).trans (gu_oo _ (by unfold kpc at q; omega)))) (fun k j q => o2 k j (by unfold kpc at q; unfold tC; omega))
    · rw [gu_oo _ (by decide), o1 31 _ (by unfold tC; omega)]; rfl
    · rw [gu_oo _ (by decide), o1 116 _ (by unfold tC; omega), gu_kk]
    · rw [gu_oo _ (by decide), o1 16 _ (by unfold tC; omega), gu_oo _ (by decide)]; exact c1.1
    · rw [gu_ko _ (by decide), o1 84 _ (by unfold tC; omega), gu_oo _ (by decide)]; exact h15
theorem b_32 {N B : Nat} {z : Zt} {G0 M : Gt} {u e : Nat} (h : bs N B z G0 M 1 u 32 e 0 0) : eW N B z M (bS G0) := by
  obtain ⟨hs, h116, h118, h124, h15, hb, h19, h20, h67, h55⟩ := id h
  obtain ⟨f1, f2, f3, f4, f5, f6, f7, f8, f9, f10, f11, f12, f13, f14⟩ := st_f hs
  have hu := hs.2.1
  have hun := hs.2.2.1
  have h47 := hs.2.2.2.2.2.2.1
  obtain ⟨b, l, c, b2, l4, c4, t1, t2, t3, t4, t5, t6, t7, t8, t9, p, t10, t11, t12⟩ := txc (st_qU hs)
  have c0 := st_code hs (q := 0) (w := 32) (d := M 48 (z 1 u)) (by rw [cd_32]; rfl)
  have c1 := st_code hs (q := 1) (w := 40) (d := -1) (by rw [cd_32]; rfl)
  rw [Nat.add_zero] at c0
  have s1 := i_her (cat f1 h116 (by omega) c0.1) t3 t4 t8 c4 t11
  have hR := bN_32 (H := oEn (nI p) (M 65 (z 6 u)) M) hb h47 (fun C K hk => r_lk_32 f5 t2 b2 t9 c4 t12 hk)
  have hst := st_fr (Gc := gu (gu M 116 u (nI (e + 1))) 84 16 (nI p)) (Gr := M) (sp' := 1) (fp' := 0) hs (ag3 (by decide) (ag1 hu (by decide) agw_rfl)) agw_rfl ⟨rfl, rfl, rfl, rfl, rfl⟩ (Nat.le_refl _) (Nat.zero_le _)
  exact b_en hst (fun _ _ => rfl) s1 (by rw [gu_oo _ (by decide), gu_kk]) ⟨c1.1, c1.2.2⟩ hR rfl h15 rfl (Or.inl (isn_n (by omega))) (kp_gu (by unfold kpc; omega) (kp_gu (by unfold kpc; omega) kp_rfl)) kp_rfl
theorem b_34 {N B : Nat} {z : Zt} {G0 M : Gt} {u e : Nat} (h : bs N B z G0 M 1 u 34 e 0 0) : eW N B z M (bS G0) := by
  obtain ⟨hs, h116, h118, h124, h15, hb, h19, h20, h67, h55⟩ := id h
  obtain ⟨f1, f2, f3, f4, f5, f6, f7, f8, f9, f10, f11, f12, f13, f14⟩ := st_f hs
  have hu := hs.2.1
  have hun := hs.2.2.1
  have h47 := hs.2.2.2.2.2.2.1
  obtain ⟨b, l, c, b2, l4, c4, t1, t2, t3, t4, t5, t6, t7, t8, t9, p, t10, t11, t12⟩ := txc (st_qU hs)
  have c0 := st_code hs (q := 0) (w := 34) (d := M 48 (z 1 u)) (by rw [cd_34]; rfl)
  have c1 := st_code hs (q := 1) (w := 40) (d := -1) (by rw [cd_34]; rfl)
  rw [Nat.add_zero] at c0
  have s1 := i_lth (cat f1 h116 (by omega) c0.1) t3 t4 t6
  have hR := bN_34 (H := oEn (nI l) (M 65 (z 6 u)) M) hb h47 (fun C K hk => r_lk_34 f5 t2 b2 t7 hk)
  have hst := st_fr (Gc := gu (gu M 116 u (nI (e + 1))) 84 16 (nI l)) (Gr := M) (sp' := 1) (fp' := 0) hs (ag3 (by decide) (ag1 hu (by decide) agw_rfl)) agw_rfl ⟨rfl, rfl, rfl, rfl, rfl⟩ (Nat.le_refl _) (Nat.zero_le _)
  exact b_en hst (fun _ _ => rfl) s1 (by rw [gu_oo _ (by decide), gu_kk]) ⟨c1.1, c1.2.2⟩ hR rfl h15 rfl (Or.inl (isn_n (by omega))) (kp_gu (by unfold kpc; omega) (kp_gu (by unfold kpc; omega) kp_rfl)) kp_rfl
theorem b_33 {N B : Nat} {z : Zt} {G0 M : Gt} {u e : Nat} (h : bs N B z G0 M 1 u 33 e 0 0) : eW N B z M (bS G0) := by
  obtain ⟨hs, h116, h118, h124, h15, hb, h19, h20, h67, h55⟩ := id h
  obtain ⟨f1, f2, f3, f4, f5, f6, f7, f8, f9, f10, f11, f12, f13, f14⟩ := st_f hs
  have hu := hs.2.1
  have hun := hs.2.2.1
  have h47 := hs.2.2.2.2.2.2.1
  obtain ⟨b, l, c, b2, l4, c4, t1, t2, t3, t4, t5, t6, t7, t8, t9, p, t10, t11, t12⟩ := txc (st_qU hs)
  have c0 := st_code hs (q := 0) (w := 33) (d := M 48 (z 1 u)) (by rw [cd_33]; rfl)
  have c1 := st_code hs (q := 1) (w := 40) (d := -1) (by rw [cd_33]; rfl)
  rw [Nat.add_zero] at c0
  have s1 := i_ltr (cat f1 h116 (by omega) c0.1) t3 t4 t8 c4 t6 l4 t11 t10
  have hR := bN_33 (H := if l ≤ p then oEn (-1) (M 65 (z 6 u)) M else oEn (M 58 (40 * b + p)) (M 65 (z 6 u)) M) hb h47 (fun C K hk => r_lk_33 f5 t2 b2 t7 l4 t9 c4 t12 t10 rfl hk)
  have hv : ∃ v, (if l ≤ p then -1 else M (20 + 5 * b + 2) p) = v ∧ isnum v ∧ bS G0 (oEn v (M 65 (z 6 u)) M) := by
    by_cases d : l ≤ p
    · rw [if_pos d] at hR ⊢
      exact ⟨_, rfl, by unfold isnum; decide, hR⟩
    · rw [if_neg d] at hR ⊢
      obtain ⟨q1, y, q2, q3⟩ := t5.2 p (by omega)
      refine ⟨_, rfl, ?_, by rw [q1]; exact hR⟩
      rw [q1, q3]; exact isn_n (by omega)
  obtain ⟨v, v1, v2, v3⟩ := hv
  rw [v1] at s1
  have hst := st_fr (Gc := gu (gu M 116 u (nI (e + 1))) 84 16 v) (Gr := M) (sp' := 1) (fp' := 0) hs (ag3 (by decide) (ag1 hu (by decide) agw_rfl)) agw_rfl ⟨rfl, rfl, rfl, rfl, rfl⟩ (Nat.le_refl _) (Nat.zero_le _)
  exact b_en hst (fun _ _ => rfl) s1 (by rw [gu_oo _ (by decide), gu_kk]) ⟨c1.1, c1.2.2⟩ v3 rfl h15 rfl (Or.inl v2) (kp_gu (by unfold kpc; omega) (kp_gu (by unfold kpc; omega) kp_rfl)) kp_rfl
