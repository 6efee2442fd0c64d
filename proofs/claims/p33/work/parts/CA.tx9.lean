/-! EACH -/
theorem i_nx {G H : Gt} {u p : Nat} (h : cAt G u p 54) (hh : ∀ (R : Gt) (K : Gt → Prop), K (mxw H R) → w_X2_chooseNextCursor K (G 18 p) (mxw (gu G 116 u (nI (p + 1))) R)) : cS G H := by
  refine cS_b h (by decide) (fun R K hk => ?_)
  exact pif_n (by decide) (pif_n (by decide) (pif_n (by decide) (pif_n (by decide) (pif_n (by decide) (pif_n (by decide) (pif_p (by decide) (hh R K hk)))))))
theorem i_cnt {G : Gt} {u p : Nat} (h : cAt G u p 55) : cS G (gu (gu G 116 u (nI (p + 1))) 84 16 (G 124 u)) := by
  refine cS_b h (by decide) (fun R K hk => ?_)
  obtain ⟨h7, h12, h11, hu6, hp, hp2, hw0⟩ := h
  refine pif_n (by decide) (pif_n (by decide) (pif_n (by decide) (pif_n (by decide) (pif_n (by decide) (pif_n (by decide) (pif_n (by decide) (pif_p (by decide) ?_)))))))
  rw [rat_u (G := gu G 116 u (nI (p + 1))) h11 hu6]
  exact ptc rfl hk
theorem i_lea {G Xr : Gt} {u p b c s : Nat} (h : cAt G u p 56) (hb2 : b < 2) (hc : c < 4) (h126 : G 126 u = nI (2 * c + b)) (hs : sbk Xr b c s) (hpl : ∀ k, k < 4 → G (20 + 5 * b + 4) k = Xr 60 (4 * b + k)) : cS G (gu (gu G 116 u (nI (p + 1))) (20 + 5 * b) 3 (nI s)) := by
  refine cS_b h (by decide) (fun R K hk => ?_)
  obtain ⟨h7, h12, h11, hu6, hp, hp2, hw0⟩ := h
  have hd := d2_k ⟨b, hb2⟩ ⟨c, hc⟩
  simp only at hd
  have htx : txo 19 (nI b) = 20 + 5 * b := by
    have : b = 0 ∨ b = 1 := by omega
    rcases this with rfl | rfl <;> rfl
  refine pif_n (by decide) (pif_n (by decide) (pif_n (by decide) (pif_n (by decide) (pif_n (by decide) (pif_n (by decide) (pif_n (by decide) (pif_n (by decide) (pif_p (by decide) ?_))))))))
  unfold w_X2_leaveEach
  rw [rat_u (G := gu G 116 u (nI (p + 1))) h11 hu6, show (mxw (gu G 116 u (nI (p + 1))) R) 126 u = nI (2 * c + b) from h126, hd.2.1, hd.1, htx]
  exact k_sb (Xr := Xr) hb2 hc hs (fun k hk => by rw [gu_oo _ (by omega)]; exact hpl k hk) hk
theorem i_each {G : Gt} {u p b c : Nat} {w : Int32} (h : cAt G u p 36) (ht : txo 19 (G 19 7) = 20 + 5 * b) (hb2 : b < 2) (hc : c < 4) (h7b : G 19 7 = nI b) (h3 : G (20 + 5 * b) 3 = nI c) (hw : ∀ (R : Gt) (K : Int32 → Gt → Prop), K w (mxw (gu G 116 u (nI (p + 1))) R) → w_X8_packedOrder (20 + 5 * b) K (mxw (gu G 116 u (nI (p + 1))) R)) : cS G (gu (gu (gu G 116 u (nI (p + 1))) 122 u w) 126 u (nI (2 * c + b))) := by
  refine cS_e h (by decide) (fun R K hk => ?_)
  obtain ⟨h7, h12, h11, hu6, hp, hp2, hw0⟩ := h
  have hd := d2_k ⟨b, hb2⟩ ⟨c, hc⟩
  simp only at hd
  obtain ⟨g1, g2, g3⟩ := tx_f (tx_20 hb2)
  refine pif_n (by decide) (pif_n (by decide) (pif_n (by decide) (pif_n (by decide) (pif_n (by decide) (pif_n (by decide) (pif_n (by decide) (pif_p (by decide) ?_)))))))
  rw [show txo 19 ((mxw (gu G 116 u (nI (p + 1))) R) 19 7) = 20 + 5 * b from ht]
  refine hw R _ (pcp (i := u) h11 hu6 (by decide) rfl ?_)
  have e3 : (mxw (gu (gu G 116 u (nI (p + 1))) 122 u w) R) (20 + 5 * b) 3 = nI c := by rw [mx_C g1, gu_oo _ (by omega), gu_oo _ (by omega)]; exact h3
  rw [e3, show (mxw (gu (gu G 116 u (nI (p + 1))) 122 u w) R) 19 7 = nI b from h7b, hd.2.2.1]
  exact pcp (i := u) h11 hu6 (by decide) rfl hk
theorem tx_any {N b : Nat} {z : Zt} {C R : Gt} (h : qU N z (mxw C R)) (hb2 : b < 2) : gT (20 + 5 * b) b C R := by
  have : b = 0 ∨ b = 1 := by omega
  rcases this with rfl | rfl
  · exact h.1
  · exact h.2.1
theorem gT_pc {b : Nat} {C R : Gt} (h : gT (20 + 5 * b) b C R) : ∀ k, k < 4 → C (20 + 5 * b + 4) k = R 60 (4 * b + k) := by
  obtain ⟨⟨l', c', g1, g2, g3, g4, g5, g6, g7, g8⟩, g9⟩ := h
  exact fun k hk => (g8 k hk).1
theorem ea_ev {N B : Nat} {z : Zt} {G X Gr : Gt} {Rr : Gt → Prop} {x : Nat → Int32} {u e b c m d q t : Nat} (hcl : clo Rr) (hst : st N B z (mxw X Gr) x 1 0 u 36 e) (hx : ∀ o, o < 4 → x o = X 31 o) (hb2 : b < 2) (hc4 : c < 4) (hd : dG d q) (hmd : m + d ≤ 4) (hq : q < 4096) (h116 : X 116 u = nI (e + 2)) (h118 : X 118 u = nI (e + 6)) (h122 : X 122 u = nI q) (h126 : X 126 u = nI (2 * c + b)) (h124 : X 124 u = nI m) (h15 : X 84 15 = 0) (h68 : Gr 68 (z 6 u) = nI q) (h69 : Gr 69 (z 6 u) = nI (8 * b + c)) (h67 : Gr 67 (z 6 u) = nI m) (h65 : Gr 65 (z 6 u) = G 65 (z 6 u)) (hct : cT t G X) (ht : t ≤ 5)
    (hR : ∀ H, (∀ (C : Gt) (K : Gt → Prop), K (mxw C H) → w_X11_goesOn K (nI (z 6 u)) (mxw C Gr)) → Rr H) (hk1 : kp G X) (hk2 : kp G Gr) : eW N B z G Rr := by
  obtain ⟨f1, f2, f3, f4, f5, f6, f7, f8, f9, f10, f11, f12, f13, f14⟩ := st_f hst
  have hu := hst.2.1
  have hun := hst.2.2.1
  have kk := st_k hst
  have hf1 : ct X u := f1
  have hT := tx_any (st_qU hst) hb2
  have hpc := gT_pc hT
  have hds := d2_k ⟨b, hb2⟩ ⟨c, hc4⟩
  simp only at hds
  have htx := tx_20 hb2
  obtain ⟨g1, g2, g3⟩ := tx_f htx
  have cd := fun (q : Nat) (w d : Int32) (hq : (codeOf (nI 36) ((mxw X Gr) 48 (z 1 u)) ((mxw X Gr) 49 (z 1 u)) ((mxw X Gr) 50 (z 1 u)) (nI e))[q]? = some (w, d)) => st_code hst hq
  have c2 := cd 2 54 (nI e + 5) (by rw [cd_36]; rfl)
  have c3 := cd 3 41 ((mxw X Gr) 48 (z 1 u)) (by rw [cd_36]; rfl)
  have c5 := cd 5 55 (-1) (by rw [cd_36]; rfl)
  have c6 := cd 6 56 (-1) (by rw [cd_36]; rfl)
  have c7 := cd 7 40 (-1) (by rw [cd_36]; rfl)
  obtain ⟨y, hy, ey⟩ := prt (k := 36) (w := 0) (by decide) (by decide) (by decide) (by omega) kk.1
  have e5 : X 18 (e + 2) = nI (e + 5) := c2.2.1.trans (nI_add e 5)
  have hv := vp_n f5 (by decide : (1220 : Nat) < 2 ^ 31)
  have hcat : cAt X u (e + 2) 54 := cat hf1 h116 c2.2.2 c2.1
  have gsf : gu Gr 68 (z 6 u) (nI q) = Gr := gu_sf h68
  -- what begins the reference's
  have rgo : ∀ (C : Gt) (K : Gt → Prop), w_X11_goesOn_h12 K 7 (nI (z 6 u)) (nI b) 0 (mxw C (gu Gr 68 (z 6 u) (nI q))) → w_X11_goesOn K (nI (z 6 u)) (mxw C Gr) := by
    intro C K hk
    unfold w_X11_goesOn
    rw [nI_clamp (by omega), show (mxw C Gr) 69 (z 6 u) = nI (8 * b + c) from h69, hds.2.2.2.1]
    rw [gsf] at hk
    exact ⟨hv, 7, hk⟩
  have cgo : ∀ (R : Gt) (K : Gt → Prop), w_X2_chooseNextCursor_h45 K 7 (nI (e + 5)) (nI q) (nI 0) (mxw (gu X 116 u (nI (e + 2 + 1))) R) → w_X2_chooseNextCursor K (X 18 (e + 2)) (mxw (gu X 116 u (nI (e + 2 + 1))) R) := by
    intro R K hk
    unfold w_X2_chooseNextCursor
    rw [e5, rat_u (G := gu X 116 u (nI (e + 2 + 1))) hf1.2.2.1 hf1.2.2.2, show (mxw (gu X 116 u (nI (e + 2 + 1))) R) 122 u = nI q from h122]
    exact ⟨7, hk⟩
  have hs8 : (2 * c + b) % 2 = b := by omega
  rcases nx (l := 0) (s := 2 * c + b) (about := nI (e + 5)) (Xc := gu X 116 u (nI (e + 2 + 1))) (Xr := Gr) (u := u) (f := z 6 u) hb2 (by omega) hs8 hf1.2.2.1 hf1.2.2.2 h126 f5 (fun k hk => by rw [gu_oo _ (by omega)]; exact hpc k hk) d q 0 hd (by omega) hq with ⟨q', c', d', w1, w2, w3, w4, w5, w6, w7⟩ | ⟨w6, w7⟩
  · -- there is one
    have s1 := i_nx (H := gu (gu (gu (gu X 116 u (nI (e + 2 + 1))) 122 u (nI q')) 124 u (nI (m + 1))) (20 + 5 * b) 3 (nI c')) hcat (fun R K hk => cgo R K (w6 R K 7 (by omega) (by
      rw [show (gu X 116 u (nI (e + 2 + 1))) 124 u = nI m from h124, nI_1]; exact hk)))
    have hr := hR (oAk (nI y) (nI (z 6 u)) (nI (z 5 u)) (gu (gu Gr 68 (z 6 u) (nI q')) 61 b (nI c'))) (fun C K hk => rgo C K (w7 C K 7 (by omega) (by
      unfold w_X11_goesOn_j77 w_X11_goesOn_j122
      rw [nI_clamp (by omega), show (mxw C (gu (gu Gr 68 (z 6 u) (nI q')) 61 b (nI c'))) 64 (z 6 u) = nI (z 1 u) from f6, nI_clamp (by omega), show (mxw C (gu (gu Gr 68 (z 6 u) (nI q')) 61 b (nI c'))) 48 (z 1 u) = nI y from ey, show (mxw C (gu (gu Gr 68 (z 6 u) (nI q')) 61 b (nI c'))) 67 (z 6 u) = nI m from h67]
      refine pif_n (by decide) ⟨hv, vp_n (by omega) (by decide), hv, r_parts f5 ?_⟩
      rw [gu_sf (G := gu (gu Gr 68 (z 6 u) (nI q')) 61 b (nI c')) (k := 67) (j := z 6 u) (v := nI m) h67, show (gu (gu Gr 68 (z 6 u) (nI q')) 61 b (nI c')) 66 (z 6 u) = nI (z 5 u) from f7]
      exact hk)))
    have t1 := st_u (G' := mxw (gu (gu (gu X 116 u (nI (e + 2 + 1))) 122 u (nI q')) 124 u (nI (m + 1))) (gu Gr 68 (z 6 u) (nI q'))) (sp' := 1) (fp' := 0) hst (by
      refine agp_mx (P := frw z) (agp_gu (fw1 hu (by decide)) (agp_gu (fw1 hu (by decide)) (agp_gu (fw1 hu (by decide)) agp_rfl))) (agp_gu (Or.inr (Or.inl ⟨by decide, by rw [hu]⟩)) agp_rfl)) ⟨rfl, rfl, rfl, rfl, rfl⟩ (Nat.le_refl _) (Nat.le_refl _)
    have hT1 : gT (20 + 5 * b) b (gu (gu (gu X 116 u (nI (e + 2 + 1))) 122 u (nI q')) 124 u (nI (m + 1))) (gu Gr 68 (z 6 u) (nI q')) := gT_eq hT (fun k j w => by have := tC_r hb2 w; rw [gu_oo _ (by omega), gu_oo _ (by omega), gu_oo _ (by omega)]) (fun k j w => by have := tC_r hb2 w; rw [gu_oo _ (by omega)])
    have hT2 := gT_ch (k := c') hT1 w4 (by rw [gu_oo _ (by decide)]; exact w5)
    have t2 := st_t (G' := mxw (gu (gu (gu (gu X 116 u (nI (e + 2 + 1))) 122 u (nI q')) 124 u (nI (m + 1))) (20 + 5 * b) 3 (nI c')) (gu (gu Gr 68 (z 6 u) (nI q')) 61 b (nI c'))) t1 hb2 (gT_mx hb2 hT2) (mx_o (fun k j w => gu_n (by unfold tC at w; omega)) (fun k j w => gu_n (by unfold tC at w; omega)))
    refine f_do (p := e + 3) (y := y) (p' := 1) (t := t + 1) hcl t2 (fun o ho => ?_) ?_ (by omega) ?_ ⟨?_, ?_, c3.2.2⟩ hy hr ?_ ?_ (Or.inl rfl) (by unfold kP; omega) (by omega) (Or.inl rfl) ?_ ?_ ?_
    · rw [gu_oo _ (by omega), gu_oo _ (by decide), gu_oo _ (by decide), gu_oo _ (by decide)]; exact hx o ho
    · have := cT_tr hct (cT_1 s1)
      rw [Nat.add_comm] at this; exact this
    · rw [gu_oo _ (by omega), gu_oo _ (by decide), gu_oo _ (by decide), gu_kk]
    · rw [gu_oo _ (by omega), gu_oo _ (by decide), gu_oo _ (by decide), gu_oo _ (by decide)]; exact c3.1
    · rw [gu_oo _ (by omega), gu_oo _ (by decide), gu_oo _ (by decide), gu_oo _ (by decide)]; exact c3.2.1.trans ey
    · exact kp_gu (by unfold kpc; omega) (kp_gu (by unfold kpc; omega) (kp_gu (by unfold kpc; omega) (kp_gu (by unfold kpc; omega) hk1)))
    · exact kp_gu (by unfold kpc; omega) (kp_gu (by unfold kpc; omega) hk2)
    · rw [gu_oo _ (by omega), gu_oo _ (by decide), gu_oo _ (by decide), gu_oo _ (by decide)]; exact h118
    · refine ⟨⟨fun _ w => absurd rfl w, fun w => by omega⟩, fun _ => ⟨b, c, m, d', q', hb2, hc4, by omega, w2, w3, ?_, ?_, ?_, ?_, ?_, ?_⟩, fun w => by omega, fun w => by omega, fun w => by omega, fun w => by omega, fun w => by omega, fun w => by omega, fun w => by omega⟩
      · rw [mx_C rfl, gu_oo _ (by omega), gu_oo _ (by decide), gu_kk]
      · rw [mx_R rfl, gu_oo _ (by decide), gu_kk]
      · rw [mx_C rfl, gu_oo _ (by omega), gu_oo _ (by decide), gu_oo _ (by decide), gu_oo _ (by decide)]; exact h126
      · rw [mx_R rfl, gu_oo _ (by decide), gu_oo _ (by decide)]; exact h69
      · rw [mx_C rfl, gu_oo _ (by omega), gu_kk]
      · rw [mx_R rfl, gu_oo _ (by decide), gu_oo _ (by decide)]; exact h67
    · rw [gu_oo _ (by omega), gu_oo _ (by decide), gu_oo _ (by decide), gu_oo _ (by decide)]; exact h15
  · -- there is none
    obtain ⟨s, hs⟩ := sbk_ex hT hc4
    have s1 := i_nx (H := gu (gu X 116 u (nI (e + 2 + 1))) 116 u (nI (e + 5))) hcat (fun R K hk => cgo R K (w6 R K 7 (by omega) hk))
    have s2 := i_cnt (G := gu (gu X 116 u (nI (e + 2 + 1))) 116 u (nI (e + 5))) (u := u) (p := e + 5) ⟨hf1.1, hf1.2.1, hf1.2.2.1, hf1.2.2.2, gu_kk _ _ _ _, c5.2.2, c5.1⟩
    rw [show (gu (gu X 116 u (nI (e + 2 + 1))) 116 u (nI (e + 5))) 124 u = nI m from h124] at s2
    have s3 := i_lea (G := gu (gu (gu (gu X 116 u (nI (e + 2 + 1))) 116 u (nI (e + 5))) 116 u (nI (e + 5 + 1))) 84 16 (nI m)) (Xr := Gr) (u := u) (p := e + 6) (b := b) (c := c) (s := s) ⟨hf1.1, hf1.2.1, hf1.2.2.1, hf1.2.2.2, by rw [gu_oo _ (by decide), gu_kk], c6.2.2, c6.1⟩ hb2 hc4 h126 hs (fun k hk => by rw [gu_oo _ (by omega), gu_oo _ (by omega), gu_oo _ (by omega), gu_oo _ (by omega)]; exact hpc k hk)
    have hr := hR (oEn (nI m) (Gr 65 (z 6 u)) (gu (gu Gr 68 (z 6 u) 0) 61 b (nI s))) (fun C K hk => rgo C K (w7 C K 7 (by omega) (by
      unfold w_X11_goesOn_j77 w_X11_goesOn_j122
      refine pif_p rfl (r_sb (G := gu Gr 68 (z 6 u) 0) f5 hb2 hc4 (by rw [gu_oo _ (by decide)]; exact h69) hs ?_)
      rw [nI_clamp (by omega), show (mxw C (gu (gu Gr 68 (z 6 u) 0) 61 b (nI s))) 67 (z 6 u) = nI m from h67]
      exact ⟨hv, r_ends f5 hk⟩)))
    have t1 := st_u (G' := mxw (gu (gu (gu (gu (gu X 116 u (nI (e + 2 + 1))) 116 u (nI (e + 5))) 116 u (nI (e + 5 + 1))) 84 16 (nI m)) 116 u (nI (e + 6 + 1))) (gu Gr 68 (z 6 u) 0)) (sp' := 1) (fp' := 0) hst (by
      refine agp_mx (P := frw z) (agp_gu (fw1 hu (by decide)) (agp_gu (fw84 (by decide)) (agp_gu (fw1 hu (by decide)) (agp_gu (fw1 hu (by decide)) (agp_gu (fw1 hu (by decide)) agp_rfl))))) (agp_gu (Or.inr (Or.inl ⟨by decide, by rw [hu]⟩)) agp_rfl)) ⟨rfl, rfl, rfl, rfl, rfl⟩ (Nat.le_refl _) (Nat.le_refl _)
    have hT1 : gT (20 + 5 * b) b (gu (gu (gu (gu (gu X 116 u (nI (e + 2 + 1))) 116 u (nI (e + 5))) 116 u (nI (e + 5 + 1))) 84 16 (nI m)) 116 u (nI (e + 6 + 1))) (gu Gr 68 (z 6 u) 0) := gT_eq hT (fun k j w => by have := tC_r hb2 w; rw [gu_oo _ (by omega), gu_oo _ (by omega), gu_oo _ (by omega), gu_oo _ (by omega), gu_oo _ (by omega)]) (fun k j w => by have := tC_r hb2 w; rw [gu_oo _ (by omega)])
    have hT2 := gT_ch (k := s) hT1 hs.1 (by rw [gu_oo _ (by decide)]; exact hs.2.1)
    have t2 := st_t (G' := mxw (gu (gu (gu (gu (gu (gu X 116 u (nI (e + 2 + 1))) 116 u (nI (e + 5))) 116 u (nI (e + 5 + 1))) 84 16 (nI m)) 116 u (nI (e + 6 + 1))) (20 + 5 * b) 3 (nI s)) (gu (gu Gr 68 (z 6 u) 0) 61 b (nI s))) t1 hb2 (gT_mx hb2 hT2) (mx_o (fun k j w => gu_n (by unfold tC at w; omega)) (fun k j w => gu_n (by unfold tC at w; omega)))
    refine f_end (p := e + 7) (t := t + 3) (v := nI m) hcl t2 (fun o ho => ?_) ?_ (by omega) ?_ ⟨?_, c7.2.2⟩ hr ?_ ?_ ?_ (Or.inl (isn_n (by omega))) ?_ ?_
    · rw [gu_oo _ (by omega), gu_oo _ (by decide), gu_oo _ (by decide), gu_oo _ (by decide), gu_oo _ (by decide), gu_oo _ (by decide)]; exact hx o ho
    · have h3 : cT 3 X (gu (gu (gu (gu (gu (gu X 116 u (nI (e + 2 + 1))) 116 u (nI (e + 5))) 116 u (nI (e + 5 + 1))) 84 16 (nI m)) 116 u (nI (e + 6 + 1))) (20 + 5 * b) 3 (nI s)) := ⟨_, s1, _, s2, _, s3, eqc_rfl⟩
      have := cT_tr hct h3
      rw [Nat.add_comm] at this; exact this
    · rw [gu_oo _ (by omega), gu_kk]
    · rw [gu_oo _ (by omega), gu_oo _ (by decide), gu_oo _ (by decide), gu_oo _ (by decide), gu_oo _ (by decide), gu_oo _ (by decide)]; exact c7.1
    · rw [gu_oo _ (by decide), gu_oo _ (by decide)]; exact h65
    · rw [gu_oo _ (by omega), gu_oo _ (by decide), gu_ko _ (by decide), gu_oo _ (by decide), gu_oo _ (by decide), gu_oo _ (by decide)]; exact h15
    · rw [gu_oo _ (by omega), gu_oo _ (by decide), gu_kk]
    · exact kp_gu (by unfold kpc; omega) (kp_gu (by unfold kpc; omega) (kp_gu (by unfold kpc; omega) (kp_gu (by unfold kpc; omega) (kp_gu (by unfold kpc; omega) (kp_gu (by unfold kpc; omega) hk1)))))
    · exact kp_gu (by unfold kpc; omega) (kp_gu (by unfold kpc; omega) hk2)
theorem v_36_1 {N B : Nat} {z : Zt} {G : Gt} {x : Nat → Int32} {u e : Nat} (h : va N B z G x u 36 e 1) : eW N B z G (rS G) := by
  have hs := va_s h
  obtain ⟨f1, f2, f3, f4, f5, f6, f7, f8, f9, f10, f11, f12, f13, f14⟩ := st_f hs
  have hu := hs.2.1
  have hh := va_h h
  have hV := va_V h
  obtain ⟨v1, v2, v3⟩ := va_v h
  have kk := st_k hs
  have hun := hs.2.2.1
  have hx := va_x h (by decide)
  have c4 := st_code hs (q := 4) (w := 45) (d := nI e + 2) (by rw [cd_36]; rfl)
  have p1 := va_p h (q := 4) (by decide) rfl
  have hl := va_l' h (show lao 36 1 = 6 from rfl) (by decide)
  obtain ⟨b, c, n, d, q, b2, cc4, hnd, hd, hq, x122, x68, x126, x69, x124, x67⟩ := hV.2.1 rfl
  have s1 := i_jump (cat f1 p1 c4.2.2 c4.1)
  rw [c4.2.1, show nI e + 2 = nI (e + 2) from nI_add e 2] at s1
  have hst := st_fr (Gc := gu (gu G 116 u (nI (e + 4 + 1))) 116 u (nI (e + 2))) (Gr := gu G 67 (z 6 u) (G 67 (z 6 u) + 1)) (sp' := 1) (fp' := 0) hs (ag1 hu (by decide) (ag1 hu (by decide) agw_rfl)) (ag2 hu (by decide) agw_rfl) ⟨rfl, rfl, rfl, rfl, rfl⟩ (Nat.le_refl _) (Nat.le_refl _)
  refine ea_ev (m := n + 1) (t := 1) clo_rS hst hx b2 cc4 hd hnd hq (gu_kk _ _ _ _) ?_ ?_ ?_ ?_ ?_ ?_ ?_ ?_ rfl (cT_1 s1) (by decide) (fun H hH => hV_36 hh hH) (kp_gu (by unfold kpc; omega) (kp_gu (by unfold kpc; omega) kp_rfl)) (kp_gu (by unfold kpc; omega) kp_rfl)
  · rw [gu_oo _ (by decide), gu_oo _ (by decide)]; exact hl
  · rw [gu_oo _ (by decide), gu_oo _ (by decide)]; exact x122
  · rw [gu_oo _ (by decide), gu_oo _ (by decide)]; exact x126
  · rw [gu_oo _ (by decide), gu_oo _ (by decide)]; exact x124
  · exact v3
  · rw [gu_oo _ (by decide)]; exact x68
  · rw [gu_oo _ (by decide)]; exact x69
  · rw [gu_kk, x67, nI_1]
theorem n_36 {N B : Nat} {z : Zt} {G : Gt} {x : Nat → Int32} {sp u e : Nat} (h : na N B z G x sp u 36 e 1) : eW N B z G (rS G) := by
  have hs := na_s h
  obtain ⟨f1, f2, f3, f4, f5, f6, f7, f8, f9, f10, f11, f12, f13, f14⟩ := st_f hs
  have hu := hs.2.1
  have hun := hs.2.2.1
  have hh := na_h h
  have hV := na_V h
  have hx := na_x h (by decide)
  have hao := aU_pass (c := u) h.2.2.2.2.1 (na_nl h (by decide))
  have c6 := st_code hs (q := 6) (w := 56) (d := -1) (by rw [cd_36]; rfl)
  have c7 := st_code hs (q := 7) (w := 40) (d := -1) (by rw [cd_36]; rfl)
  have p1 : G 116 u = nI (e + 6) := h.2.1
  obtain ⟨b, c, n, d, q, b2, cc4, hnd, hd, hq, x122, x68, x126, x69, x124, x67⟩ := hV.2.1 rfl
  have hqU := st_qU hs
  have hT : gT (20 + 5 * b) b G G := by
    have : b = 0 ∨ b = 1 := by omega
    rcases this with rfl | rfl
    · exact hqU.1
    · exact hqU.2.1
  obtain ⟨s, hsb⟩ := sbk_ex hT cc4
  have hpc := gT_pc hT
  have s1 := i_lea (Xr := G) (cat f1 p1 c6.2.2 c6.1) b2 cc4 x126 hsb hpc
  have hR := hX_36 (H := gu (gu G 46 57 (G 65 (z 6 u))) 61 b (nI s)) hh (fun C K hk => r_sb (G := gu G 46 57 (G 65 (z 6 u))) f5 b2 cc4 (by rw [gu_oo _ (by decide)]; exact x69) hsb hk)
  obtain ⟨g1, g2, g3⟩ := tx_f (tx_20 b2)
  have t1 := st_fr (Gc := gu G 116 u (nI (e + 6 + 1))) (Gr := gu G 46 57 (G 65 (z 6 u))) (sp' := sp) (fp' := 0) hs (ag1 hu (by decide) agw_rfl) (ag4 (by decide) agw_rfl) ⟨rfl, rfl, rfl, rfl, rfl⟩ (Nat.le_refl _) (Nat.le_refl _)
  have hT1 : gT (20 + 5 * b) b (gu G 116 u (nI (e + 6 + 1))) (gu G 46 57 (G 65 (z 6 u))) := gT_eq hT (fun k j w => by have := tC_r b2 w; rw [gu_oo _ (by omega)]) (fun k j w => by have := tC_r b2 w; rw [gu_oo _ (by omega)])
  have hT2 := gT_ch (k := s) hT1 hsb.1 (by rw [gu_oo _ (by decide)]; exact hsb.2.1)
  have t2 := st_t (G' := mxw (gu (gu G 116 u (nI (e + 6 + 1))) (20 + 5 * b) 3 (nI s)) (gu (gu G 46 57 (G 65 (z 6 u))) 61 b (nI s))) t1 b2 (gT_mx b2 hT2) (mx_o (fun k j w => gu_n (by unfold tC at w; omega)) (fun k j w => gu_n (by unfold tC at w; omega)))
  have oc : ∀ k j, ¬ tC b k j → (gu (gu G 116 u (nI (e + 6 + 1))) (20 + 5 * b) 3 (nI s)) k j = (gu G 116 u (nI (e + 6 + 1))) k j := fun k j w => gu_n (by unfold tC at w; omega)
  have e84 : ∀ j, (gu (gu G 116 u (nI (e + 6 + 1))) (20 + 5 * b) 3 (nI s)) 84 j = G 84 j := fun j => by rw [oc 84 j (by unfold tC; omega), gu_oo _ (by decide)]
  have hX : eX N z G z (mxw (gu (gu G 116 u (nI (e + 6 + 1))) (20 + 5 * b) 3 (nI s)) (gu (gu G 46 57 (G 65 (z 6 u))) 61 b (nI s))) := by
    refine ⟨⟨Nat.le_refl _, Nat.le_refl _, Nat.le_refl _, Nat.le_refl _, Nat.le_refl _⟩, fun _ _ => ⟨rfl, rfl, rfl, rfl, rfl⟩, fun _ _ _ => rfl, fun i _ h0 => ⟨h0, ?_⟩, fun _ _ => rfl, fun m _ => ⟨?_, rfl, rfl, rfl, rfl⟩, fun _ _ => rfl, fun _ _ h => h⟩
    · rw [mx_C rfl, oc 120 i (by unfold tC; omega), gu_oo _ (by decide)]
    · rw [mx_C rfl, oc 13 m (by unfold tC; omega), gu_oo _ (by decide)]
  have hf := fX_of hs.1.1.2.1 hs.1.1.2.2.2.1 (by omega)
  have hao2 := oU_ext (c' := u) hX hf hun (fun _ => Or.inr ⟨rfl, by rw [mx_C rfl, oc 120 u (by unfold tC; omega), gu_oo _ (by decide)]⟩) hao
  refine f_out (p := e + 7) (t := 1) clo_rS t2 (fun o ho => ?_) (cT_1 s1) (by decide) ?_ ⟨?_, c7.2.2⟩ hR ?_ ?_ ?_ ?_ ?_
  · rw [oc 31 o (by unfold tC; omega), gu_oo _ (by decide)]; exact hx o ho
  · rw [oc 116 u (by unfold tC; omega), gu_kk]
  · rw [oc 16 _ (by unfold tC; omega), gu_oo _ (by decide)]; exact c7.1
  · rfl
  · rw [e84, e84, e84, e84]; exact hao2
  · rw [e84]; exact h.2.2.2.1
  · exact kp_gu (by unfold kpc; omega) (kp_gu (by unfold kpc; omega) kp_rfl)
  · exact kp_gu (by unfold kpc; omega) (kp_gu (by unfold kpc; omega) kp_rfl)
theorem b_36 {N B : Nat} {z : Zt} {G0 M : Gt} {u e : Nat} (h : bs N B z G0 M 1 u 36 e 0 0) : eW N B z M (bS G0) := by
  obtain ⟨hs, h116, h118, h124, h15, hb, h19, h20, h67, h55⟩ := id h
  obtain ⟨f1, f2, f3, f4, f5, f6, f7, f8, f9, f10, f11, f12, f13, f14⟩ := st_f hs
  have hu := hs.2.1
  have hun := hs.2.2.1
  have h47 := hs.2.2.2.2.2.2.1
  obtain ⟨b, l, c, b2, l4, c4, t1, t2, t3, t4, t5, t6, t7, t8, t9, p, t10, t11, t12⟩ := txc (st_qU hs)
  have c0 := st_code hs (q := 0) (w := 47) (d := nI e + 6) (by rw [cd_36]; rfl)
  have c1 := st_code hs (q := 1) (w := 36) (d := -1) (by rw [cd_36]; rfl)
  rw [Nat.add_zero] at c0
  obtain ⟨p1, p2⟩ := plf_ok (c := 0) t5 t6 l4
  have hds := d2_k ⟨b, b2⟩ ⟨c, c4⟩
  simp only at hds
  have s1 := i_guard (cat f1 h116 (by omega) c0.1)
  rw [c0.2.1, show nI e + 6 = nI (e + 6) from nI_add e 6] at s1
  have s2 := i_each (G := gu (gu M 116 u (nI (e + 1))) 118 u (nI (e + 6))) (u := u) (p := e + 1) (b := b) (c := c) (w := nI (vl (plf M b) 164)) ⟨f1.1, f1.2.1, f1.2.2.1, f1.2.2.2, by rw [gu_oo _ (by decide), gu_kk], c1.2.2, c1.1⟩ t3 b2 c4 t1 (by rw [gu_oo _ (by omega), gu_oo _ (by omega)]; exact t8) (fun R K hk => k_ord (pl := plf M b) (l := l) (G := gu (gu (gu M 116 u (nI (e + 1))) 118 u (nI (e + 6))) 116 u (nI (e + 1 + 1))) t4 (by rw [gu_oo _ (by omega), gu_oo _ (by omega), gu_oo _ (by omega)]; exact t6) (fun k hk => by
    rw [gu_oo _ (by omega), gu_oo _ (by omega), gu_oo _ (by omega), p2 k hk]; exact p1 k hk) l4 hk)
  have hdG : dG 4 (vl (plf M b) 164) := by
    have := vl_dG (pl := plf M b) 164 (Nat.le_refl _)
    rw [show 164 - 164 = 0 from rfl, cnt_0] at this
    exact this
  have hlt : vl (plf M b) 164 < 4096 := dG_lt 4 _ hdG
  have hst := st_fr (Gc := gu (gu (gu (gu (gu M 116 u (nI (e + 1))) 118 u (nI (e + 6))) 116 u (nI (e + 1 + 1))) 122 u (nI (vl (plf M b) 164))) 126 u (nI (2 * c + b))) (Gr := gu (gu M 68 (z 6 u) (nI (vl (plf M b) 164))) 69 (z 6 u) (nI (8 * b + c))) (sp' := 1) (fp' := 0) hs (ag1 hu (by decide) (ag1 hu (by decide) (ag1 hu (by decide) (ag1 hu (by decide) (ag1 hu (by decide) agw_rfl))))) (ag2 hu (by decide) (ag2 hu (by decide) agw_rfl)) ⟨rfl, rfl, rfl, rfl, rfl⟩ (Nat.le_refl _) (Nat.zero_le _)
  refine ea_ev (m := 0) (d := 4) (t := 2) clo_bS hst (fun _ _ => rfl) b2 c4 hdG (by omega) hlt ?_ ?_ ?_ ?_ ?_ ?_ ?_ ?_ ?_ rfl ⟨_, s1, _, s2, eqc_rfl⟩ (by decide) (fun H hH => ?_) ?_ ?_
  · rw [gu_oo _ (by decide), gu_oo _ (by decide), gu_kk]
  · rw [gu_oo _ (by decide), gu_oo _ (by decide), gu_oo _ (by decide), gu_kk]
  · rw [gu_oo _ (by decide), gu_kk]
  · rw [gu_kk]
  · rw [gu_oo _ (by decide), gu_oo _ (by decide), gu_oo _ (by decide), gu_oo _ (by decide), gu_oo _ (by decide)]; exact h124
  · exact h15
  · rw [gu_oo _ (by decide), gu_kk]
  · rw [gu_kk]
  · rw [gu_oo _ (by decide), gu_oo _ (by decide)]; exact h67
  · refine bN_36 (w := nI (vl (plf M b) 164)) hb h47 t2 b2 (fun C K hk => r_ord t2 b2 p1 l4 hk) (fun C K hk => ?_)
    rw [t9, hds.2.2.2.2.2]
    exact hH C K hk
  · repeat (refine kp_gu (by unfold kpc; omega) ?_)
    exact kp_rfl
  · repeat (refine kp_gu (by unfold kpc; omega) ?_)
    exact kp_rfl
