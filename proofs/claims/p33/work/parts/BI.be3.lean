/-! a generator's body ends, asked; a standard ends -/
theorem r_bg {K : Gt → Prop} {C G H : Gt} {F f g d b : Nat} (hF : F < 1220) (h67 : G 67 F = nI (wH b)) (hb : 4 ≤ b) (h68 : G 68 F = nI g) (hg : g < 610) (h77 : G 77 g = 2) (h65 : G 65 F = nI f) (hf : f < 1220) (h50 : G 46 50 = nI (d + 1))
    (hH : H = if G 46 41 = 2 then gu (oCb f d (gu G 77 g 4)) 46 57 (G 65 f) else oEn (-1) (G 65 f) (gu (oCb f d (gu G 77 g 4)) 46 57 (G 65 f))) (h : K (mxw C H)) : w_X11_bodyEnds K (nI F) (mxw C G) := by
  have eF : (nI F).toNatClampNeg = F := nI_clamp (by omega)
  have e : (nI f).toNatClampNeg = f := nI_clamp (by omega)
  have eg : (nI g).toNatClampNeg = g := nI_clamp (by omega)
  have hw : wH b = 2 := by unfold wH; rw [if_neg (by omega), if_neg (by omega), if_neg (by omega)]
  rw [hw] at h67
  unfold w_X11_bodyEnds w_X11_bodyEnds_j250
  rw [eF, show (mxw C G) 67 F = nI 2 from h67, show (mxw C G) 65 F = nI f from h65]
  refine ⟨vp_n hF (by decide), vp_n hF (by decide), pif_n (by decide) (pif_n (by decide) (pif_n (by decide) ?_))⟩
  unfold w_X11_generatorEnds
  rw [eF, show (mxw C G) 68 F = nI g from h68, eg, show (mxw C G) 77 g = 2 from h77]
  refine ⟨vp_n hF (by decide), vp_n hg (by decide), pif_n (by decide) ?_⟩
  unfold w_X11_generatorEnds_j20
  rw [eF, show (mxw C G) 68 F = nI g from h68, eg]
  refine ⟨vp_n hF (by decide), vp_n hg (by decide), ptr rfl (pif_p rfl ?_)⟩
  unfold w_X11_generatorEnds_j52 w_X11_generatorEnds_j92
  refine pif_p rfl (r_cb (d := d) (G := gu G 77 g 4) hf h50 ?_)
  rw [e]
  refine ⟨vp_n hf (by decide), ptr rfl ?_⟩
  rw [show (mxw C (gu (oCb f d (gu G 77 g 4)) 46 57 ((mxw C (oCb f d (gu G 77 g 4))) 65 f))) 46 41 = G 46 41 from rfl]
  by_cases c : G 46 41 = 2
  · rw [hH, if_pos c] at h; exact pif_p c h
  · rw [hH, if_neg c] at h; exact pif_n c (r_ends hf h)
theorem be_g {N B : Nat} {z : Zt} {G : Gt} (h : eST N B z G) (hb4 : 4 ≤ z 2 (z 0 7)) (hc0 : ¬ z 4 (z 0 7) = 0) : ∃ z', mu z' + 10 ≤ mu z ∧ eW N B z' G (rS G) := by
  obtain ⟨sp, i, c, b, p, k, e, hi, h8, hc, hb, hb2, hb6, hA, hcat, h114, h110, hcn, hci, hn6, hin, hN, hP, h57, hF1, h64F, h67F, h65F, h68F, h6c, h64c, hmN, hk, he, h47, h13, hkP, h116, h118, hxV, hz9c, hd, hg, hsp, ho⟩ := be_pre h (by omega) hc0
  rw [hi, hb] at hb4
  have hb2' : ¬ b = 2 := by omega
  rw [if_neg hb2'] at hkP h116 h118 hxV hz9c
  obtain ⟨d, hd1, hd2, hd3⟩ := hd hb2'
  obtain ⟨g1, g2, k25, g16⟩ := hg hb4
  subst k25
  have hh := oU_01 (by rw [hb]; omega) h8 ho
  have h41 : G 84 15 = 1 ↔ G 46 41 = 2 := by
    rcases hh with ⟨a1, a2⟩ | ⟨a1, a2, _⟩ | ⟨a1, a2, _⟩
    · exact ⟨fun _ => a2, fun _ => a1⟩
    · rw [a1, a2]; decide
    · rw [a1, a2]; decide
  have hs := as_s hA
  have hg5 : z 0 5 ≤ 600 := by
    have hR := hA.1.2.2.2.2.2.2.2.2.2.2.2.2.2.2.2.2.2.2.1
    have := hR.2.2.1
    have := hA.2.1
    omega
  have hR := rS_bod (G := G) (by rcases hh with ⟨_, a⟩ | ⟨_, a, _⟩ | ⟨_, a, _⟩ <;> rw [a] <;> decide) h57 hF1 h64F (fun C K hk' => r_bg (d := d) hF1 h67F hb4 (h68F hb4) (by omega) g2 h65F h6c hd3 rfl hk')
  have s1 := i_lvb (d := d) hcat h114 hb2 hb6 h110 (by omega) (fun q => by omega) (fun _ => hd2) (fun q => by omega) (fun q => by omega) (fun q => by omega) (fun _ => rfl)
  have hA1 := as_u (G' := mxw (gu G 116 i (nI (p + 1))) G) hA (by rw [← mxw_gC rfl, mxw_self]; exact agw_gu (fw1 hi (by decide)) agw_rfl) rfl (as_s hA :)
  have hkr : kp G (oCb (z 6 c) d (gu G 77 (b - 4) 4)) := by
    unfold oCb
    repeat (refine kp_gu (by unfold kpc; omega) ?_)
    exact kp_rfl
  have T := t_bk (G := mxw (gu G 116 i (nI (p + 1))) G) (G' := mxw (gu (oEC c d (gu (gu G 116 i (nI (p + 1))) 140 (b - 4) 4)) 84 11 (nI c)) (oCb (z 6 c) d (gu G 77 (b - 4) 4))) (pi := 0) (b := b) hA1.1 hA1.2.1 hA1.2.2.1 hi h8 hc hb (Or.inl ⟨rfl, rfl⟩) (agp_mx ?_ ?_) rfl (fun q => absurd q hb2') (fun _ => ⟨d, hd1, ?_, ?_, rfl, rfl⟩) (fun _ => ⟨?_, ?_, fun q => absurd q (by decide)⟩) (fun q => absurd q (by decide)) (fun q => absurd q (by decide))
  · obtain ⟨T1, T2, T3, T4, T5, T6, T7⟩ := T
    rw [if_pos rfl] at T7
    refine ⟨zBk z 0, T7, ?_⟩
    have zc : (zBk z 0) 0 7 = c := by simp [zBk, hi, h8, hc]
    have zcc : (zBk z 0) 9 ((zBk z 0) 0 7) = 6 := by rw [zc]; simp [zBk, hi, h8, hc]
    have zi : (zBk z 0) 9 i = 0 := by
      have : ¬ i = c := fun q => hci q.symm
      simp [zBk, hi, h8, hc, this]
    have hA2 : aST N B (zBk z 0) (mxw (gu (oEC c d (gu (gu G 116 i (nI (p + 1))) 140 (b - 4) 4)) 84 11 (nI c)) (oCb (z 6 c) d (gu G 77 (b - 4) 4))) (G 31) sp 0 := ⟨T1, hA.2.1, zcc, hA.2.2.2.1, hA.2.2.2.2⟩
    by_cases c1 : G 84 15 = 1
    · rw [if_pos c1] at s1
      rw [if_pos (h41.mp c1)] at hR
      have hA3 := as_u (G' := mxw (gu (gu (gu (oEC c d (gu (gu G 116 i (nI (p + 1))) 140 (b - 4) 4)) 84 11 (nI c)) 116 c (G 118 c)) 118 c 0) (oCb (z 6 c) d (gu G 77 (b - 4) 4))) hA2 (agp_mx (agp_gu (fw1 zc (by decide)) (agp_gu (fw1 zc (by decide)) agp_rfl)) agp_rfl) rfl (as_s hA2 :)
      refine be_err (k := 25) (e := e) hA3 zc (by exact hcn) (by omega) he h47 h13 hmN s1 c1 ?_ ?_ hkr ?_ ?_
      · rw [gu_oo _ (by decide), gu_kk, h118]; rfl
      · unfold oEC
        repeat (refine kp_gu (by unfold kpc; omega) ?_)
        exact kp_rfl
      · have hX3 : eX N z G (zBk z 0) (mxw (gu (gu (gu (oEC c d (gu (gu G 116 i (nI (p + 1))) 140 (b - 4) 4)) 84 11 (nI c)) 116 c (G 118 c)) 118 c 0) (oCb (z 6 c) d (gu G 77 (b - 4) 4))) := T2
        exact oU_bk (c := c) hX3 c1 rfl zi rfl ho
      · rw [if_neg (by decide), gu_sf (G := oCb (z 6 c) d (gu G 77 (b - 4) 4)) (k := 46) (j := 51) rfl]; exact hR
    · rw [if_neg c1] at s1
      rw [if_neg (fun q => c1 (h41.mpr q))] at hR
      rw [gu_comm (k := 84) (j := 16) (k' := 84) (j' := 11) (by decide), gu_comm (k := 84) (j := 15) (k' := 84) (j' := 11) (by decide)] at s1
      have hA3 := as_u (G' := mxw (gu (gu (gu (oEC c d (gu (gu G 116 i (nI (p + 1))) 140 (b - 4) 4)) 84 11 (nI c)) 84 15 0) 84 16 (-1)) (oCb (z 6 c) d (gu G 77 (b - 4) 4))) hA2 (agp_mx (agp_gu (fw84 (by decide)) (agp_gu (fw84 (by decide)) agp_rfl)) agp_rfl) rfl (as_s hA2 :)
      have hsp1 : sp = 1 := by rcases hsp with q | q
                               · exact q
                               · exact absurd q c1
      rw [hsp1] at hA3
      refine be_val (k := 25) (e := e) (w := -1) hA3 zc (by exact hcn) (by omega) hk he hkP h47 h13 hmN s1 rfl rfl (Or.inl (by unfold isnum; decide)) ?_ rfl (fun q => by omega) ?_ hkr ?_
      · rw [gu_oo _ (by decide), gu_oo _ (by decide), gu_oo _ (by decide)]
        unfold oEC
        rw [gu_oo _ (by decide), gu_oo _ (by decide), gu_oo _ (by decide), gu_ko _ hci]; exact h116
      · unfold oEC
        repeat (refine kp_gu (by unfold kpc; omega) ?_)
        exact kp_rfl
      · rw [if_neg (by decide), if_neg (by decide), gu_sf (G := oCb (z 6 c) d (gu G 77 (b - 4) 4)) (k := 46) (j := 51) rfl]; exact hR
  · unfold oEC
    exact agp_gu (Or.inl ⟨rfl, by decide⟩) (agp_gu (Or.inl ⟨rfl, by decide⟩) (agp_gu (Or.inl ⟨rfl, by decide⟩) (agp_gu (Or.inr (Or.inr ⟨by decide, hb4, rfl⟩)) agp_rfl)))
  · unfold oCb
    exact agp_gu (Or.inr (Or.inl ⟨rfl, by decide⟩)) (agp_gu (Or.inr (Or.inl ⟨rfl, by decide⟩)) (agp_gu (Or.inr (Or.inr ⟨by decide, hb4, rfl⟩)) agp_rfl))
  · rfl
  · rfl
  · rw [mx_C rfl, gu_oo _ (by decide)]
    unfold oEC
    rw [gu_oo _ (by decide), gu_oo _ (by decide), gu_kk]; rfl
  · rw [mx_R rfl]
    unfold oCb
    rw [gu_oo _ (by decide), gu_oo _ (by decide), gu_kk]; rfl
theorem be_2 {N B : Nat} {z : Zt} {G : Gt} (h : eST N B z G) (hb2 : z 2 (z 0 7) = 2) (hc0 : ¬ z 4 (z 0 7) = 0) : ∃ z', mu z' + 10 ≤ mu z ∧ eW N B z' G (rS G) := by
  obtain ⟨sp, i, c, b, p, k, e, hi, h8, hc, hb, hb2', hb6, hA, hcat, h114, h110, hcn, hci, hn6, hin, hN, hP, h57, hF1, h64F, h67F, h65F, h68F, h6c, h64c, hmN, hk, he, h47, h13, hkP, h116, h118, hxV, hz9c, hd, hg, hsp, ho⟩ := be_pre h (by omega) hc0
  rw [hi, hb] at hb2
  subst hb2
  have e33 : (if (2 : Nat) = 2 then (3 : Nat) else 4) = 3 := rfl
  rw [e33] at hkP h116 h118 hxV hz9c
  clear hd hg
  have hh := oU_01 (by rw [hb]; decide) h8 ho
  have hs := as_s hA
  have hk18 : k = 18 ∨ k = 29 := by unfold kP at hkP; omega
  have s1 := i_lvb (d := 0) hcat h114 hb2' hb6 h110 (by omega) (fun q => by omega) (fun q => absurd rfl q) (fun _ => rfl) (fun q => absurd q (by decide)) (fun q => absurd q (by decide)) (fun q => absurd q (by decide))
  have hA1 := as_u (G' := mxw (gu G 116 i (nI (p + 1))) G) hA (by rw [← mxw_gC rfl, mxw_self]; exact agw_gu (fw1 hi (by decide)) agw_rfl) rfl (as_s hA :)
  have T := t_bk (G := mxw (gu G 116 i (nI (p + 1))) G) (G' := mxw (gu (gu G 116 i (nI (p + 1))) 84 11 (nI c)) G) (pi := 0) (b := 2) hA1.1 hA1.2.1 hA1.2.2.1 hi h8 hc hb (Or.inl ⟨rfl, rfl⟩) (agp_mx (agp_gu (Or.inl ⟨rfl, by decide⟩) agp_rfl) agp_rfl) rfl (fun _ => ⟨rfl, rfl, rfl, rfl⟩) (fun q => absurd rfl q) (fun q => absurd q (by decide)) (fun q => absurd q (by decide)) (fun q => absurd q (by decide))
  obtain ⟨T1, T2, T3, T4, T5, T6, T7⟩ := T
  rw [if_pos rfl] at T7
  refine ⟨zBk z 0, T7, ?_⟩
  have zc : (zBk z 0) 0 7 = c := by simp [zBk, hi, h8, hc]
  have zcc : (zBk z 0) 9 ((zBk z 0) 0 7) = 6 := by rw [zc]; simp [zBk, hi, h8, hc]
  have zi : (zBk z 0) 9 i = 0 := by
    have : ¬ i = c := fun q => hci q.symm
    simp [zBk, hi, h8, hc, this]
  have hA2 : aST N B (zBk z 0) (mxw (gu (gu G 116 i (nI (p + 1))) 84 11 (nI c)) G) (G 31) sp 0 := ⟨T1, hA.2.1, zcc, hA.2.2.2.1, hA.2.2.2.2⟩
  by_cases c1 : G 84 15 = 1
  · rw [if_neg (by rw [c1]; decide)] at s1
    have h41 : G 46 41 = 2 := by
      rcases hh with ⟨a1, a2⟩ | ⟨a1, a2, _⟩ | ⟨a1, a2, _⟩
      · exact a2
      · rw [c1] at a1; exact absurd a1 (by decide)
      · rw [c1] at a1; exact absurd a1 (by decide)
    have hR := rS_bod (G := G) (by rw [h41]; decide) h57 hF1 h64F (fun C K hk' => r_b2_x hF1 (h67F.trans rfl) h65F h6c h64c (by omega) h47 hk hs.2.1 h41 hk')
    have hA3 := as_u (G' := mxw (gu (gu (gu (gu G 116 i (nI (p + 1))) 84 11 (nI c)) 116 c (G 118 c)) 118 c 0) G) hA2 (agp_mx (agp_gu (fw1 zc (by decide)) (agp_gu (fw1 zc (by decide)) agp_rfl)) agp_rfl) rfl (as_s hA2 :)
    refine be_err (k := k) (e := e) hA3 zc (by exact hcn) (by omega) he h47 h13 hmN s1 c1 ?_ ?_ kp_rfl ?_ hR
    · rw [gu_oo _ (by decide), gu_kk, h118]
      rcases hk18 with rfl | rfl <;> rfl
    · exact kp_gu (by unfold kpc; omega) (kp_gu (by unfold kpc; omega) (kp_gu (by unfold kpc; omega) (kp_gu (by unfold kpc; omega) kp_rfl)))
    · have hX3 : eX N z G (zBk z 0) (mxw (gu (gu (gu (gu G 116 i (nI (p + 1))) 84 11 (nI c)) 116 c (G 118 c)) 118 c 0) G) := T2
      exact oU_bk (c := c) hX3 c1 rfl zi rfl ho
  · obtain ⟨a15, a41, aw, av⟩ : G 84 15 = 0 ∧ G 46 41 = 1 ∧ G 84 16 = G 46 42 ∧ vV z (G 84 16) := by
      rcases hh with ⟨a, _⟩ | a | ⟨_, _, a3⟩
      · exact absurd a c1
      · exact a
      · rw [hb] at a3; rcases a3 with q | q
        · exact absurd q.1 (by decide)
        · exact absurd q (by decide)
    rw [if_pos a15] at s1
    obtain ⟨s, l, w1, w2, w3, w4, w5, w6, w7, w8⟩ := hxV.2.2.2.2.2.2.2.1 rfl
    have hQ := hA.1.2.2.2.2.2.2.2.2.2.2.2.2.2.2.2.2.2.1
    have hRr := hA.1.2.2.2.2.2.2.2.2.2.2.2.2.2.2.2.2.2.2.1
    have hm := hA.2.1
    have r1 := hRr.1
    have q25 := hQ.2.2.2.2.2.2.2.2.2.2.2.2.2.2.2.2.2.2.2.2.2.2.2.2
    have s13 := (hA.1.2.2.2.2.2.2.2.2.2.2.2.2.2.2.1.2 s w1).1
    have hM2 := T1.2.2.2.2.2.2.2.2.2.2.2.2.2.1.2
    have z11c : z 11 c = 0 := (hA.1.2.2.2.2.2.2.2.2.2.2.2.2.2.1.2 c hcn (by omega) (by omega))
    have c7 : G 84 7 = 1 := hQ.2.2.2.2.2.2.2.2.2.1
    have hst : st N B (zBk z 0) (mxw (gu (gu G 116 i (nI (p + 1))) 84 11 (nI c)) G) (G 31) sp 0 c k e := ⟨hA2, zc, hcn, z11c, hk, he, h47, h13⟩
    have c57 := st_code (q := plo k 3 (cO (G 49 (z 1 c)) (G 50 (z 1 c)))) (w := 57) (d := -1) hst ?_
    have c58 := st_code (q := plo k 3 (cO (G 49 (z 1 c)) (G 50 (z 1 c))) + 1) (w := 58) (d := -1) hst ?_
    · have h116' : (gu (gu G 116 i (nI (p + 1))) 84 11 (nI c)) 116 c = nI (e + plo k 3 (cO (G 49 (z 1 c)) (G 50 (z 1 c)))) := by
        rw [gu_oo _ (by decide), gu_ko _ hci]; exact h116
      have s2 := i_par (G := gu (gu G 116 i (nI (p + 1))) 84 11 (nI c)) (u := c) (p := e + plo k 3 (cO (G 49 (z 1 c)) (G 50 (z 1 c)))) (S := z 13 s) ⟨c7, hA.2.2.2.1, rfl, by omega, h116', c57.2.2, c57.1⟩ w3 (by omega)
      have t1 := st_u (z := zBk z 0) (G' := gu (mxw (gu (gu G 116 i (nI (p + 1))) 84 11 (nI c)) G) 116 c (nI (e + plo k 3 (cO (G 49 (z 1 c)) (G 50 (z 1 c))) + 1))) (sp' := sp) (fp' := 0) hst (ag1 zc (by decide) agw_rfl) ⟨rfl, rfl, rfl, rfl, rfl⟩ (Nat.le_refl _) (Nat.le_refl _)
      have t2 := st_bn (s := s) (j := 1) (v := G 84 16) t1 w1 (by decide) (vV_ext T2 av)
      have z13 : (zBk z 0) 13 s = z 13 s := rfl
      rw [z13, mxw_gC rfl, mxw_gC rfl, mxw_gR rfl] at t2
      have hpl : e + plo k 3 (cO (G 49 (z 1 c)) (G 50 (z 1 c))) + 1 + 1 = e + plo k 4 (cO (G 49 (z 1 c)) (G 50 (z 1 c))) := by
        rcases hk18 with rfl | rfl
        · show e + (cO (G 49 (z 1 c)) (G 50 (z 1 c)) + 1) + 1 + 1 = e + (cO (G 49 (z 1 c)) (G 50 (z 1 c)) + 3)
          omega
        · rfl
      have h29 : k = 29 → G 122 c = G 68 (z 6 c) ∧ isnum (G 122 c) := fun q => hxV.2.2.2.2.2.2.2.2 q (by decide)
      refine ent_ev (z := zBk z 0) (q := e + plo k 3 (cO (G 49 (z 1 c)) (G 50 (z 1 c))) + 1) (l := l) (s := s) (t := 2) clo_rS t2 (fun _ _ => rfl) hk18 w2 w1 w6 hpl ?_ ⟨c58.1, c58.2.2⟩ w3 w5 w4 h29 ⟨_, s1, _, s2, eqc_rfl⟩ (by decide) (fun H hH => ?_) ?_ (kp_gu (by unfold kpc; omega) kp_rfl) ?_ (fun q => ?_)
      · rw [gu_oo _ (by decide), gu_kk]
      · refine rS_bod (G := G) (by rw [a41]; decide) h57 hF1 h64F (fun C K hk' => r_b2_v (H := G) (s := s) (l := l) hF1 (h67F.trans rfl) h65F h6c h64c (by omega) h47 hk (by rw [a41]; decide) w4 (by omega) w7 (fun q => w8 (by omega)) w2 ?_)
        rw [← aw]
        exact hH C K hk'
      · exact kp_gu (by unfold kpc; omega) (kp_gu (by unfold kpc; omega) (kp_gu (by unfold kpc; omega) (kp_gu (by unfold kpc; omega) kp_rfl)))
      · rw [gu_oo _ (by decide), gu_oo _ (by decide), gu_oo _ (by decide), gu_oo _ (by decide), h118]
        rcases hk18 with rfl | rfl <;> rfl
      · subst q
        obtain ⟨d2, d3, d4, d5, d6, d7⟩ := cd29 (G := G) hP hmN h47 h13 he
        exact ⟨d5, d6, d7⟩
    · show (codeOf (nI k) (G 48 (z 1 c)) (G 49 (z 1 c)) (G 50 (z 1 c)) (nI e))[plo k 3 (cO (G 49 (z 1 c)) (G 50 (z 1 c))) + 1]? = some (58, -1)
      rcases hk18 with rfl | rfl
      · by_cases b1 : G 49 (z 1 c) = -1
        · have : cO (G 49 (z 1 c)) (G 50 (z 1 c)) = 0 := by unfold cO; rw [if_pos b1]
          rw [this, cd_18, if_pos b1]; rfl
        · by_cases b2 : G 50 (z 1 c) = -1
          · have : cO (G 49 (z 1 c)) (G 50 (z 1 c)) = 1 := by unfold cO; rw [if_neg b1, if_pos b2]
            rw [this, cd_18, if_neg b1, if_pos b2]; rfl
          · have : cO (G 49 (z 1 c)) (G 50 (z 1 c)) = 3 := by unfold cO; rw [if_neg b1, if_neg b2]
            rw [this, cd_18, if_neg b1, if_neg b2]; rfl
      · rw [cd_29]; rfl
    · show (codeOf (nI k) (G 48 (z 1 c)) (G 49 (z 1 c)) (G 50 (z 1 c)) (nI e))[plo k 3 (cO (G 49 (z 1 c)) (G 50 (z 1 c)))]? = some (57, -1)
      rcases hk18 with rfl | rfl
      · by_cases b1 : G 49 (z 1 c) = -1
        · have : cO (G 49 (z 1 c)) (G 50 (z 1 c)) = 0 := by unfold cO; rw [if_pos b1]
          rw [this, cd_18, if_pos b1]; rfl
        · by_cases b2 : G 50 (z 1 c) = -1
          · have : cO (G 49 (z 1 c)) (G 50 (z 1 c)) = 1 := by unfold cO; rw [if_neg b1, if_pos b2]
            rw [this, cd_18, if_neg b1, if_pos b2]; rfl
          · have : cO (G 49 (z 1 c)) (G 50 (z 1 c)) = 3 := by unfold cO; rw [if_neg b1, if_neg b2]
            rw [this, cd_18, if_neg b1, if_neg b2]; rfl
      · rw [cd_29]; rfl
