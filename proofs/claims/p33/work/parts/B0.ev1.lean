theorem v_4_1 {N B : Nat} {z : Zt} {G : Gt} {x : Nat → Int32} {u e : Nat} (h : va N B z G x u 4 e 1) : eW N B z G (rS G) := by
  have hs := va_s h
  obtain ⟨f1, f2, f3, f4, f5, f6, f7, f8, f9, f10, f11, f12, f13, f14⟩ := st_f hs
  have hu := hs.2.1
  have hh := va_h h
  have hV := va_V h
  obtain ⟨v1, v2, v3⟩ := va_v h
  have kk := st_k hs
  have hx := va_x h (by decide)
  obtain ⟨y, hy, ey⟩ := prt (k := 4) (w := 1) (by decide) (by decide) (by decide) (by omega) kk.2.1
  have c1 := st_code hs (q := 1) (w := 44) (d := -1) (by rw [cd_4]; rfl)
  have c2 := st_code hs (q := 2) (w := 41) (d := G 49 (z 1 u)) (by rw [cd_4]; rfl)
  have p1 := va_p h (q := 1) (by decide) rfl
  have hl := va_l h (show lao 4 1 = 0 from rfl)
  have s1 := i_keep (cat f1 p1 c1.2.2 c1.1)
  have hR := hV_4_0 hh (xV_67a hV (by decide))
  rw [ey, f7, v2] at hR
  have hst := st_fr (Gc := gu (gu G 116 u (nI (e + 1 + 1))) 122 u (G 84 16)) (Gr := gu (gu G 68 (z 6 u) (G 84 16)) 67 (z 6 u) 1) (sp' := 1) (fp' := 0) hs (ag1 hu (by decide) (ag1 hu (by decide) agw_rfl)) (ag2 hu (by decide) (ag2 hu (by decide) agw_rfl)) ⟨rfl, rfl, rfl, rfl, rfl⟩ (Nat.le_refl _) (Nat.le_refl _)
  refine f_do (p := e + 2) (y := y) (p' := 2) clo_rS hst hx (cT_1 s1) (by decide) (by rw [gu_oo _ (by decide), gu_kk]) ⟨c2.1, c2.2.1.trans ey, c2.2.2⟩ hy hR (kp_agw (ag1 hu (by decide) (ag1 hu (by decide) agw_rfl))) (kp_agw (ag2 hu (by decide) (ag2 hu (by decide) agw_rfl))) (Or.inr rfl) (by unfold kP; omega) (by omega) (Or.inl rfl) hl (xV_mk (Or.inr rfl) (by decide) (by decide) (by decide) ?_ (fun _ _ => ⟨?_, ?_⟩) ?_)
  · show (gu (gu G 68 (z 6 u) (G 84 16)) 67 (z 6 u) 1) 67 (z 6 u) = _
    rw [gu_kk]; rfl
  · show (gu (gu G 116 u (nI (e + 1 + 1))) 122 u (G 84 16)) 122 u = (gu (gu G 68 (z 6 u) (G 84 16)) 67 (z 6 u) 1) 68 (z 6 u)
    rw [gu_kk, gu_oo _ (by decide), gu_kk]
  · show vV z ((gu (gu G 116 u (nI (e + 1 + 1))) 122 u (G 84 16)) 122 u)
    rw [gu_kk]; exact v1
  · intro q
    exact ⟨(xV_pc hV (by omega)).1, fun q => by omega⟩
theorem v_5_1 {N B : Nat} {z : Zt} {G : Gt} {x : Nat → Int32} {u e : Nat} (h : va N B z G x u 5 e 1) : eW N B z G (rS G) := by
  have hs := va_s h
  obtain ⟨f1, f2, f3, f4, f5, f6, f7, f8, f9, f10, f11, f12, f13, f14⟩ := st_f hs
  have hu := hs.2.1
  have hh := va_h h
  have hV := va_V h
  obtain ⟨v1, v2, v3⟩ := va_v h
  have kk := st_k hs
  have hx := va_x h (by decide)
  obtain ⟨y, hy, ey⟩ := prt (k := 5) (w := 1) (by decide) (by decide) (by decide) (by omega) kk.2.1
  have c1 := st_code hs (q := 1) (w := 44) (d := -1) (by rw [cd_5]; rfl)
  have c2 := st_code hs (q := 2) (w := 41) (d := G 49 (z 1 u)) (by rw [cd_5]; rfl)
  have p1 := va_p h (q := 1) (by decide) rfl
  have hl := va_l h (show lao 5 1 = 0 from rfl)
  have s1 := i_keep (cat f1 p1 c1.2.2 c1.1)
  have hR := hV_5_0 hh (xV_67a hV (by decide))
  rw [ey, f7, v2] at hR
  have hst := st_fr (Gc := gu (gu G 116 u (nI (e + 1 + 1))) 122 u (G 84 16)) (Gr := gu (gu G 68 (z 6 u) (G 84 16)) 67 (z 6 u) 1) (sp' := 1) (fp' := 0) hs (ag1 hu (by decide) (ag1 hu (by decide) agw_rfl)) (ag2 hu (by decide) (ag2 hu (by decide) agw_rfl)) ⟨rfl, rfl, rfl, rfl, rfl⟩ (Nat.le_refl _) (Nat.le_refl _)
  refine f_do (p := e + 2) (y := y) (p' := 2) clo_rS hst hx (cT_1 s1) (by decide) (by rw [gu_oo _ (by decide), gu_kk]) ⟨c2.1, c2.2.1.trans ey, c2.2.2⟩ hy hR (kp_agw (ag1 hu (by decide) (ag1 hu (by decide) agw_rfl))) (kp_agw (ag2 hu (by decide) (ag2 hu (by decide) agw_rfl))) (Or.inr rfl) (by unfold kP; omega) (by omega) (Or.inl rfl) hl (xV_mk (Or.inr rfl) (by decide) (by decide) (by decide) ?_ (fun _ _ => ⟨?_, ?_⟩) ?_)
  · show (gu (gu G 68 (z 6 u) (G 84 16)) 67 (z 6 u) 1) 67 (z 6 u) = _
    rw [gu_kk]; rfl
  · show (gu (gu G 116 u (nI (e + 1 + 1))) 122 u (G 84 16)) 122 u = (gu (gu G 68 (z 6 u) (G 84 16)) 67 (z 6 u) 1) 68 (z 6 u)
    rw [gu_kk, gu_oo _ (by decide), gu_kk]
  · show vV z ((gu (gu G 116 u (nI (e + 1 + 1))) 122 u (G 84 16)) 122 u)
    rw [gu_kk]; exact v1
  · intro q
    exact ⟨(xV_pc hV (by omega)).1, fun q => by omega⟩
theorem v_6_1 {N B : Nat} {z : Zt} {G : Gt} {x : Nat → Int32} {u e : Nat} (h : va N B z G x u 6 e 1) : eW N B z G (rS G) := by
  have hs := va_s h
  obtain ⟨f1, f2, f3, f4, f5, f6, f7, f8, f9, f10, f11, f12, f13, f14⟩ := st_f hs
  have hu := hs.2.1
  have hh := va_h h
  have hV := va_V h
  obtain ⟨v1, v2, v3⟩ := va_v h
  have kk := st_k hs
  have hx := va_x h (by decide)
  obtain ⟨y, hy, ey⟩ := prt (k := 6) (w := 1) (by decide) (by decide) (by decide) (by omega) kk.2.1
  have c1 := st_code hs (q := 1) (w := 44) (d := -1) (by rw [cd_6]; rfl)
  have c2 := st_code hs (q := 2) (w := 41) (d := G 49 (z 1 u)) (by rw [cd_6]; rfl)
  have p1 := va_p h (q := 1) (by decide) rfl
  have hl := va_l h (show lao 6 1 = 0 from rfl)
  have s1 := i_keep (cat f1 p1 c1.2.2 c1.1)
  have hR := hV_6_0 hh (xV_67a hV (by decide))
  rw [ey, f7, v2] at hR
  have hst := st_fr (Gc := gu (gu G 116 u (nI (e + 1 + 1))) 122 u (G 84 16)) (Gr := gu (gu G 68 (z 6 u) (G 84 16)) 67 (z 6 u) 1) (sp' := 1) (fp' := 0) hs (ag1 hu (by decide) (ag1 hu (by decide) agw_rfl)) (ag2 hu (by decide) (ag2 hu (by decide) agw_rfl)) ⟨rfl, rfl, rfl, rfl, rfl⟩ (Nat.le_refl _) (Nat.le_refl _)
  refine f_do (p := e + 2) (y := y) (p' := 2) clo_rS hst hx (cT_1 s1) (by decide) (by rw [gu_oo _ (by decide), gu_kk]) ⟨c2.1, c2.2.1.trans ey, c2.2.2⟩ hy hR (kp_agw (ag1 hu (by decide) (ag1 hu (by decide) agw_rfl))) (kp_agw (ag2 hu (by decide) (ag2 hu (by decide) agw_rfl))) (Or.inr rfl) (by unfold kP; omega) (by omega) (Or.inl rfl) hl (xV_mk (Or.inr rfl) (by decide) (by decide) (by decide) ?_ (fun _ _ => ⟨?_, ?_⟩) ?_)
  · show (gu (gu G 68 (z 6 u) (G 84 16)) 67 (z 6 u) 1) 67 (z 6 u) = _
    rw [gu_kk]; rfl
  · show (gu (gu G 116 u (nI (e + 1 + 1))) 122 u (G 84 16)) 122 u = (gu (gu G 68 (z 6 u) (G 84 16)) 67 (z 6 u) 1) 68 (z 6 u)
    rw [gu_kk, gu_oo _ (by decide), gu_kk]
  · show vV z ((gu (gu G 116 u (nI (e + 1 + 1))) 122 u (G 84 16)) 122 u)
    rw [gu_kk]; exact v1
  · intro q
    exact ⟨(xV_pc hV (by omega)).1, fun q => by omega⟩
theorem v_7_1 {N B : Nat} {z : Zt} {G : Gt} {x : Nat → Int32} {u e : Nat} (h : va N B z G x u 7 e 1) : eW N B z G (rS G) := by
  have hs := va_s h
  obtain ⟨f1, f2, f3, f4, f5, f6, f7, f8, f9, f10, f11, f12, f13, f14⟩ := st_f hs
  have hu := hs.2.1
  have hh := va_h h
  have hV := va_V h
  obtain ⟨v1, v2, v3⟩ := va_v h
  have kk := st_k hs
  have hx := va_x h (by decide)
  obtain ⟨y, hy, ey⟩ := prt (k := 7) (w := 1) (by decide) (by decide) (by decide) (by omega) kk.2.1
  have c1 := st_code hs (q := 1) (w := 44) (d := -1) (by rw [cd_7]; rfl)
  have c2 := st_code hs (q := 2) (w := 41) (d := G 49 (z 1 u)) (by rw [cd_7]; rfl)
  have p1 := va_p h (q := 1) (by decide) rfl
  have hl := va_l h (show lao 7 1 = 0 from rfl)
  have s1 := i_keep (cat f1 p1 c1.2.2 c1.1)
  have hR := hV_7_0 hh (xV_67a hV (by decide))
  rw [ey, f7, v2] at hR
  have hst := st_fr (Gc := gu (gu G 116 u (nI (e + 1 + 1))) 122 u (G 84 16)) (Gr := gu (gu G 68 (z 6 u) (G 84 16)) 67 (z 6 u) 1) (sp' := 1) (fp' := 0) hs (ag1 hu (by decide) (ag1 hu (by decide) agw_rfl)) (ag2 hu (by decide) (ag2 hu (by decide) agw_rfl)) ⟨rfl, rfl, rfl, rfl, rfl⟩ (Nat.le_refl _) (Nat.le_refl _)
  refine f_do (p := e + 2) (y := y) (p' := 2) clo_rS hst hx (cT_1 s1) (by decide) (by rw [gu_oo _ (by decide), gu_kk]) ⟨c2.1, c2.2.1.trans ey, c2.2.2⟩ hy hR (kp_agw (ag1 hu (by decide) (ag1 hu (by decide) agw_rfl))) (kp_agw (ag2 hu (by decide) (ag2 hu (by decide) agw_rfl))) (Or.inr rfl) (by unfold kP; omega) (by omega) (Or.inl rfl) hl (xV_mk (Or.inr rfl) (by decide) (by decide) (by decide) ?_ (fun _ _ => ⟨?_, ?_⟩) ?_)
  · show (gu (gu G 68 (z 6 u) (G 84 16)) 67 (z 6 u) 1) 67 (z 6 u) = _
    rw [gu_kk]; rfl
  · show (gu (gu G 116 u (nI (e + 1 + 1))) 122 u (G 84 16)) 122 u = (gu (gu G 68 (z 6 u) (G 84 16)) 67 (z 6 u) 1) 68 (z 6 u)
    rw [gu_kk, gu_oo _ (by decide), gu_kk]
  · show vV z ((gu (gu G 116 u (nI (e + 1 + 1))) 122 u (G 84 16)) 122 u)
    rw [gu_kk]; exact v1
  · intro q
    exact ⟨(xV_pc hV (by omega)).1, fun q => by omega⟩
theorem v_8_1 {N B : Nat} {z : Zt} {G : Gt} {x : Nat → Int32} {u e : Nat} (h : va N B z G x u 8 e 1) : eW N B z G (rS G) := by
  have hs := va_s h
  obtain ⟨f1, f2, f3, f4, f5, f6, f7, f8, f9, f10, f11, f12, f13, f14⟩ := st_f hs
  have hu := hs.2.1
  have hh := va_h h
  have hV := va_V h
  obtain ⟨v1, v2, v3⟩ := va_v h
  have kk := st_k hs
  have hx := va_x h (by decide)
  obtain ⟨y, hy, ey⟩ := prt (k := 8) (w := 1) (by decide) (by decide) (by decide) (by omega) kk.2.1
  have c1 := st_code hs (q := 1) (w := 44) (d := -1) (by rw [cd_8]; rfl)
  have c2 := st_code hs (q := 2) (w := 41) (d := G 49 (z 1 u)) (by rw [cd_8]; rfl)
  have p1 := va_p h (q := 1) (by decide) rfl
  have hl := va_l h (show lao 8 1 = 0 from rfl)
  have s1 := i_keep (cat f1 p1 c1.2.2 c1.1)
  have hR := hV_8_0 hh (xV_67a hV (by decide))
  rw [ey, f7, v2] at hR
  have hst := st_fr (Gc := gu (gu G 116 u (nI (e + 1 + 1))) 122 u (G 84 16)) (Gr := gu (gu G 68 (z 6 u) (G 84 16)) 67 (z 6 u) 1) (sp' := 1) (fp' := 0) hs (ag1 hu (by decide) (ag1 hu (by decide) agw_rfl)) (ag2 hu (by decide) (ag2 hu (by decide) agw_rfl)) ⟨rfl, rfl, rfl, rfl, rfl⟩ (Nat.le_refl _) (Nat.le_refl _)
  refine f_do (p := e + 2) (y := y) (p' := 2) clo_rS hst hx (cT_1 s1) (by decide) (by rw [gu_oo _ (by decide), gu_kk]) ⟨c2.1, c2.2.1.trans ey, c2.2.2⟩ hy hR (kp_agw (ag1 hu (by decide) (ag1 hu (by decide) agw_rfl))) (kp_agw (ag2 hu (by decide) (ag2 hu (by decide) agw_rfl))) (Or.inr rfl) (by unfold kP; omega) (by omega) (Or.inl rfl) hl (xV_mk (Or.inr rfl) (by decide) (by decide) (by decide) ?_ (fun _ _ => ⟨?_, ?_⟩) ?_)
  · show (gu (gu G 68 (z 6 u) (G 84 16)) 67 (z 6 u) 1) 67 (z 6 u) = _
    rw [gu_kk]; rfl
  · show (gu (gu G 116 u (nI (e + 1 + 1))) 122 u (G 84 16)) 122 u = (gu (gu G 68 (z 6 u) (G 84 16)) 67 (z 6 u) 1) 68 (z 6 u)
    rw [gu_kk, gu_oo _ (by decide), gu_kk]
  · show vV z ((gu (gu G 116 u (nI (e + 1 + 1))) 122 u (G 84 16)) 122 u)
    rw [gu_kk]; exact v1
  · intro q
    exact ⟨(xV_pc hV (by omega)).1, fun q => by omega⟩
theorem v_9_1 {N B : Nat} {z : Zt} {G : Gt} {x : Nat → Int32} {u e : Nat} (h : va N B z G x u 9 e 1) : eW N B z G (rS G) := by
  have hs := va_s h
  obtain ⟨f1, f2, f3, f4, f5, f6, f7, f8, f9, f10, f11, f12, f13, f14⟩ := st_f hs
  have hu := hs.2.1
  have hh := va_h h
  have hV := va_V h
  obtain ⟨v1, v2, v3⟩ := va_v h
  have kk := st_k hs
  have hx := va_x h (by decide)
  obtain ⟨y, hy, ey⟩ := prt (k := 9) (w := 1) (by decide) (by decide) (by decide) (by omega) kk.2.1
  have c1 := st_code hs (q := 1) (w := 44) (d := -1) (by rw [cd_9]; rfl)
  have c2 := st_code hs (q := 2) (w := 41) (d := G 49 (z 1 u)) (by rw [cd_9]; rfl)
  have p1 := va_p h (q := 1) (by decide) rfl
  have hl := va_l h (show lao 9 1 = 0 from rfl)
  have s1 := i_keep (cat f1 p1 c1.2.2 c1.1)
  have hR := hV_9_0 hh (xV_67a hV (by decide))
  rw [ey, f7, v2] at hR
  have hst := st_fr (Gc := gu (gu G 116 u (nI (e + 1 + 1))) 122 u (G 84 16)) (Gr := gu (gu G 68 (z 6 u) (G 84 16)) 67 (z 6 u) 1) (sp' := 1) (fp' := 0) hs (ag1 hu (by decide) (ag1 hu (by decide) agw_rfl)) (ag2 hu (by decide) (ag2 hu (by decide) agw_rfl)) ⟨rfl, rfl, rfl, rfl, rfl⟩ (Nat.le_refl _) (Nat.le_refl _)
  refine f_do (p := e + 2) (y := y) (p' := 2) clo_rS hst hx (cT_1 s1) (by decide) (by rw [gu_oo _ (by decide), gu_kk]) ⟨c2.1, c2.2.1.trans ey, c2.2.2⟩ hy hR (kp_agw (ag1 hu (by decide) (ag1 hu (by decide) agw_rfl))) (kp_agw (ag2 hu (by decide) (ag2 hu (by decide) agw_rfl))) (Or.inr rfl) (by unfold kP; omega) (by omega) (Or.inl rfl) hl (xV_mk (Or.inr rfl) (by decide) (by decide) (by decide) ?_ (fun _ _ => ⟨?_, ?_⟩) ?_)
  · show (gu (gu G 68 (z 6 u) (G 84 16)) 67 (z 6 u) 1) 67 (z 6 u) = _
    rw [gu_kk]; rfl
  · show (gu (gu G 116 u (nI (e + 1 + 1))) 122 u (G 84 16)) 122 u = (gu (gu G 68 (z 6 u) (G 84 16)) 67 (z 6 u) 1) 68 (z 6 u)
    rw [gu_kk, gu_oo _ (by decide), gu_kk]
  · show vV z ((gu (gu G 116 u (nI (e + 1 + 1))) 122 u (G 84 16)) 122 u)
    rw [gu_kk]; exact v1
  · intro q
    exact ⟨(xV_pc hV (by omega)).1, fun q => by omega⟩
theorem v_17_1 {N B : Nat} {z : Zt} {G : Gt} {x : Nat → Int32} {u e : Nat} (h : va N B z G x u 17 e 1) : eW N B z G (rS G) := by
  have hs := va_s h
  obtain ⟨f1, f2, f3, f4, f5, f6, f7, f8, f9, f10, f11, f12, f13, f14⟩ := st_f hs
  have hu := hs.2.1
  have hh := va_h h
  have hV := va_V h
  obtain ⟨v1, v2, v3⟩ := va_v h
  have kk := st_k hs
  have hx := va_x h (by decide)
  obtain ⟨y, hy, ey⟩ := prt (k := 17) (w := 1) (by decide) (by decide) (by decide) (by omega) kk.2.1
  have c1 := st_code hs (q := 1) (w := 44) (d := -1) (by rw [cd_17]; rfl)
  have c2 := st_code hs (q := 2) (w := 41) (d := G 49 (z 1 u)) (by rw [cd_17]; rfl)
  have p1 := va_p h (q := 1) (by decide) rfl
  have hl := va_l h (show lao 17 1 = 0 from rfl)
  have s1 := i_keep (cat f1 p1 c1.2.2 c1.1)
  have hR := hV_17_0 hh (xV_67a hV (by decide))
  rw [ey, f7, v2] at hR
  have hst := st_fr (Gc := gu (gu G 116 u (nI (e + 1 + 1))) 122 u (G 84 16)) (Gr := gu (gu G 68 (z 6 u) (G 84 16)) 67 (z 6 u) 1) (sp' := 1) (fp' := 0) hs (ag1 hu (by decide) (ag1 hu (by decide) agw_rfl)) (ag2 hu (by decide) (ag2 hu (by decide) agw_rfl)) ⟨rfl, rfl, rfl, rfl, rfl⟩ (Nat.le_refl _) (Nat.le_refl _)
  refine f_do (p := e + 2) (y := y) (p' := 2) clo_rS hst hx (cT_1 s1) (by decide) (by rw [gu_oo _ (by decide), gu_kk]) ⟨c2.1, c2.2.1.trans ey, c2.2.2⟩ hy hR (kp_agw (ag1 hu (by decide) (ag1 hu (by decide) agw_rfl))) (kp_agw (ag2 hu (by decide) (ag2 hu (by decide) agw_rfl))) (Or.inr rfl) (by unfold kP; omega) (by omega) (Or.inl rfl) hl (xV_mk (Or.inr rfl) (by decide) (by decide) (by decide) ?_ (fun _ _ => ⟨?_, ?_⟩) ?_)
  · show (gu (gu G 68 (z 6 u) (G 84 16)) 67 (z 6 u) 1) 67 (z 6 u) = _
    rw [gu_kk]; rfl
  · show (gu (gu G 116 u (nI (e + 1 + 1))) 122 u (G 84 16)) 122 u = (gu (gu G 68 (z 6 u) (G 84 16)) 67 (z 6 u) 1) 68 (z 6 u)
    rw [gu_kk, gu_oo _ (by decide), gu_kk]
  · show vV z ((gu (gu G 116 u (nI (e + 1 + 1))) 122 u (G 84 16)) 122 u)
    rw [gu_kk]; exact v1
  · intro q
    exact ⟨(xV_pc hV (by omega)).1, fun q => by omega⟩
theorem v_11_1 {N B : Nat} {z : Zt} {G : Gt} {x : Nat → Int32} {u e : Nat} (h : va N B z G x u 11 e 1) : eW N B z G (rS G) := by
  have hs := va_s h
  obtain ⟨f1, f2, f3, f4, f5, f6, f7, f8, f9, f10, f11, f12, f13, f14⟩ := st_f hs
  have hu := hs.2.1
  have hh := va_h h
  have hV := va_V h
  obtain ⟨v1, v2, v3⟩ := va_v h
  have kk := st_k hs
  have hx := va_x h (by decide)
  obtain ⟨y, hy, ey⟩ := prt (k := 11) (w := 1) (by decide) (by decide) (by decide) (by omega) kk.2.1
  have c1 := st_code hs (q := 1) (w := 41) (d := G 49 (z 1 u)) (by rw [cd_11]; rfl)
  have p1 := va_p h (q := 1) (by decide) rfl
  have hl := va_l h (show lao 11 1 = 0 from rfl)
  have hR := hV_11_0 hh (xV_67a hV (by decide))
  rw [ey, f7] at hR
  have hst := st_fr (Gc := G) (Gr := gu G 67 (z 6 u) 1) (sp' := 1) (fp' := 0) hs agw_rfl (ag2 hu (by decide) agw_rfl) ⟨rfl, rfl, rfl, rfl, rfl⟩ (Nat.le_refl _) (Nat.le_refl _)
  refine f_do (p := e + 1) (y := y) (p' := 2) (t := 0) clo_rS hst hx eqc_rfl (by decide) p1 ⟨c1.1, c1.2.1.trans ey, c1.2.2⟩ hy hR (kp_agw (z := z) agw_rfl) (kp_agw (ag2 hu (by decide) agw_rfl)) (Or.inr rfl) (by unfold kP; omega) (by omega) (Or.inl rfl) hl (xV_mk (Or.inr rfl) (by decide) (by decide) (by decide) ?_ (fun _ q => by omega) (fun q => by omega))
  show (gu G 67 (z 6 u) 1) 67 (z 6 u) = _
  rw [gu_kk]; rfl
theorem v_10_1 {N B : Nat} {z : Zt} {G : Gt} {x : Nat → Int32} {u e : Nat} (h : va N B z G x u 10 e 1) : eW N B z G (rS G) := by
  have hs := va_s h
  obtain ⟨f1, f2, f3, f4, f5, f6, f7, f8, f9, f10, f11, f12, f13, f14⟩ := st_f hs
  have hu := hs.2.1
  have hh := va_h h
  have hV := va_V h
  obtain ⟨v1, v2, v3⟩ := va_v h
  have kk := st_k hs
  have hx := va_x h (by decide)
  obtain ⟨y, hy, ey⟩ := prt (k := 10) (w := 1) (by decide) (by decide) (by decide) (by omega) kk.2.1
  obtain ⟨y2, hy2, ey2⟩ := prt (k := 10) (w := 2) (by decide) (by decide) (by decide) (by omega) kk.2.2
  have c1 := st_code hs (q := 1) (w := 46) (d := nI e + 4) (by rw [cd_10]; rfl)
  have c2 := st_code hs (q := 2) (w := 41) (d := G 49 (z 1 u)) (by rw [cd_10]; rfl)
  have c4 := st_code hs (q := 4) (w := 41) (d := G 50 (z 1 u)) (by rw [cd_10]; rfl)
  have e4 : nI e + 4 = nI (e + 4) := nI_add e 4
  have p1 := va_p h (q := 1) (by decide) rfl
  have hl := va_l h (show lao 10 1 = 0 from rfl)
  have hR := hV_10_0 hh (xV_67a hV (by decide))
  rw [f7, v2] at hR
  by_cases c : G 84 16 = 0
  · have s1 := i_unl_0 (cat f1 p1 c1.2.2 c1.1) c
    rw [c1.2.1, e4] at s1
    rw [if_pos c, ey2] at hR
    have hst := st_fr (Gc := gu (gu G 116 u (nI (e + 1 + 1))) 116 u (nI (e + 4))) (Gr := gu G 67 (z 6 u) 1) (sp' := 1) (fp' := 0) hs (ag1 hu (by decide) (ag1 hu (by decide) agw_rfl)) (ag2 hu (by decide) agw_rfl) ⟨rfl, rfl, rfl, rfl, rfl⟩ (Nat.le_refl _) (Nat.le_refl _)
    refine f_do (p := e + 4) (y := y2) (p' := 2) clo_rS hst hx (cT_1 s1) (by decide) (by rw [gu_kk]) ⟨c4.1, c4.2.1.trans ey2, c4.2.2⟩ hy2 hR (kp_agw (ag1 hu (by decide) (ag1 hu (by decide) agw_rfl))) (kp_agw (ag2 hu (by decide) agw_rfl)) (Or.inr rfl) (by unfold kP; omega) (by omega) (Or.inr ⟨rfl, rfl, rfl⟩) hl (xV_mk (Or.inr rfl) (by decide) (by decide) (by decide) ?_ (fun _ q => by omega) (fun q => by omega))
    show (gu G 67 (z 6 u) 1) 67 (z 6 u) = _
    rw [gu_kk]; rfl
  · have s1 := i_unl_1 (cat f1 p1 c1.2.2 c1.1) c
    rw [if_neg c, ey] at hR
    have hst := st_fr (Gc := gu G 116 u (nI (e + 1 + 1))) (Gr := gu G 67 (z 6 u) 1) (sp' := 1) (fp' := 0) hs (ag1 hu (by decide) agw_rfl) (ag2 hu (by decide) agw_rfl) ⟨rfl, rfl, rfl, rfl, rfl⟩ (Nat.le_refl _) (Nat.le_refl _)
    refine f_do (p := e + 2) (y := y) (p' := 2) clo_rS hst hx (cT_1 s1) (by decide) (by rw [gu_kk]) ⟨c2.1, c2.2.1.trans ey, c2.2.2⟩ hy hR (kp_agw (ag1 hu (by decide) agw_rfl)) (kp_agw (ag2 hu (by decide) agw_rfl)) (Or.inr rfl) (by unfold kP; omega) (by omega) (Or.inl rfl) hl (xV_mk (Or.inr rfl) (by decide) (by decide) (by decide) ?_ (fun _ q => by omega) (fun q => by omega))
    show (gu G 67 (z 6 u) 1) 67 (z 6 u) = _
    rw [gu_kk]; rfl
theorem v_11_2 {N B : Nat} {z : Zt} {G : Gt} {x : Nat → Int32} {u e : Nat} (h : va N B z G x u 11 e 2) : eW N B z G (rS G) := by
  have hs := va_s h
  obtain ⟨f1, f2, f3, f4, f5, f6, f7, f8, f9, f10, f11, f12, f13, f14⟩ := st_f hs
  have hu := hs.2.1
  have hh := va_h h
  have hV := va_V h
  obtain ⟨v1, v2, v3⟩ := va_v h
  have kk := st_k hs
  have hx := va_x h (by decide)
  have c1 := st_code hs (q := 2) (w := 40) (d := -1) (by rw [cd_11]; rfl)
  have p1 := va_p h (q := 2) (by decide) rfl
  have hR := hV_11_1 hh (by rw [xV_67b hV]; decide)
  rw [v2] at hR
  have hst := st_fr (Gc := G) (Gr := G) (sp' := 1) (fp' := 0) hs agw_rfl agw_rfl ⟨rfl, rfl, rfl, rfl, rfl⟩ (Nat.le_refl _) (Nat.le_refl _)
  exact f_end (p := e + 2) (t := 0) clo_rS hst hx eqc_rfl (by decide) p1 ⟨c1.1, c1.2.2⟩ hR rfl v3 rfl v1 (kp_agw (z := z) agw_rfl) (kp_agw (z := z) agw_rfl)
theorem v_12_1 {N B : Nat} {z : Zt} {G : Gt} {x : Nat → Int32} {u e : Nat} (h : va N B z G x u 12 e 1) : eW N B z G (rS G) := by
  have hs := va_s h
  obtain ⟨f1, f2, f3, f4, f5, f6, f7, f8, f9, f10, f11, f12, f13, f14⟩ := st_f hs
  have hu := hs.2.1
  have hh := va_h h
  have hV := va_V h
  obtain ⟨v1, v2, v3⟩ := va_v h
  have kk := st_k hs
  have hx := va_x h (by decide)
  have c1 := st_code hs (q := 1) (w := 40) (d := -1) (by rw [cd_12]; rfl)
  have p1 := va_p h (q := 1) (by decide) rfl
  have hR := hV_12 hh
  rw [v2] at hR
  have hst := st_fr (Gc := G) (Gr := G) (sp' := 1) (fp' := 0) hs agw_rfl agw_rfl ⟨rfl, rfl, rfl, rfl, rfl⟩ (Nat.le_refl _) (Nat.le_refl _)
  exact f_end (p := e + 1) (t := 0) clo_rS hst hx eqc_rfl (by decide) p1 ⟨c1.1, c1.2.2⟩ hR rfl v3 rfl v1 (kp_agw (z := z) agw_rfl) (kp_agw (z := z) agw_rfl)
theorem v_20_1 {N B : Nat} {z : Zt} {G : Gt} {x : Nat → Int32} {u e : Nat} (h : va N B z G x u 20 e 1) : eW N B z G (rS G) := by
  have hs := va_s h
  obtain ⟨f1, f2, f3, f4, f5, f6, f7, f8, f9, f10, f11, f12, f13, f14⟩ := st_f hs
  have hu := hs.2.1
  have hh := va_h h
  have hV := va_V h
  obtain ⟨v1, v2, v3⟩ := va_v h
  have kk := st_k hs
  have hx := va_x h (by decide)
  have c1 := st_code hs (q := 2) (w := 40) (d := -1) (by rw [cd_20]; rfl)
  have p1 := va_p h (q := 2) (by decide) rfl
  have hR := hV_20 hh
  rw [v2] at hR
  have hst := st_fr (Gc := G) (Gr := G) (sp' := 1) (fp' := 0) hs agw_rfl agw_rfl ⟨rfl, rfl, rfl, rfl, rfl⟩ (Nat.le_refl _) (Nat.le_refl _)
  exact f_end (p := e + 2) (t := 0) clo_rS hst hx eqc_rfl (by decide) p1 ⟨c1.1, c1.2.2⟩ hR rfl v3 rfl v1 (kp_agw (z := z) agw_rfl) (kp_agw (z := z) agw_rfl)
theorem v_20_2 {N B : Nat} {z : Zt} {G : Gt} {x : Nat → Int32} {u e : Nat} (h : va N B z G x u 20 e 2) : eW N B z G (rS G) := by
  have hs := va_s h
  obtain ⟨f1, f2, f3, f4, f5, f6, f7, f8, f9, f10, f11, f12, f13, f14⟩ := st_f hs
  have hu := hs.2.1
  have hh := va_h h
  have hV := va_V h
  obtain ⟨v1, v2, v3⟩ := va_v h
  have kk := st_k hs
  have hx := va_x h (by decide)
  have c1 := st_code hs (q := 5) (w := 40) (d := -1) (by rw [cd_20]; rfl)
  have p1 := va_p h (q := 5) (by decide) rfl
  have hR := hV_20 hh
  rw [v2] at hR
  have hst := st_fr (Gc := G) (Gr := G) (sp' := 1) (fp' := 0) hs agw_rfl agw_rfl ⟨rfl, rfl, rfl, rfl, rfl⟩ (Nat.le_refl _) (Nat.le_refl _)
  exact f_end (p := e + 5) (t := 0) clo_rS hst hx eqc_rfl (by decide) p1 ⟨c1.1, c1.2.2⟩ hR rfl v3 rfl v1 (kp_agw (z := z) agw_rfl) (kp_agw (z := z) agw_rfl)
theorem v_10_2 {N B : Nat} {z : Zt} {G : Gt} {x : Nat → Int32} {u e : Nat} (h : va N B z G x u 10 e 2) : eW N B z G (rS G) := by
  have hs := va_s h
  obtain ⟨f1, f2, f3, f4, f5, f6, f7, f8, f9, f10, f11, f12, f13, f14⟩ := st_f hs
  have hu := hs.2.1
  have hh := va_h h
  have hV := va_V h
  obtain ⟨v1, v2, v3⟩ := va_v h
  have kk := st_k hs
  have hx := va_x h (by decide)
  have c3 := st_code hs (q := 3) (w := 40) (d := -1) (by rw [cd_10]; rfl)
  have c5 := st_code hs (q := 5) (w := 40) (d := -1) (by rw [cd_10]; rfl)
  have hR := hV_10_1 hh (by rw [xV_67b hV]; decide)
  rw [v2] at hR
  have hst := st_fr (Gc := G) (Gr := G) (sp' := 1) (fp' := 0) hs agw_rfl agw_rfl ⟨rfl, rfl, rfl, rfl, rfl⟩ (Nat.le_refl _) (Nat.le_refl _)
  rcases h.2.1 with p1 | ⟨_, _, p1⟩
  · exact f_end (p := e + 3) (t := 0) clo_rS hst hx eqc_rfl (by decide) p1 ⟨c3.1, c3.2.2⟩ hR rfl v3 rfl v1 (kp_agw (z := z) agw_rfl) (kp_agw (z := z) agw_rfl)
  · exact f_end (p := e + 5) (t := 0) clo_rS hst hx eqc_rfl (by decide) p1 ⟨c5.1, c5.2.2⟩ hR rfl v3 rfl v1 (kp_agw (z := z) agw_rfl) (kp_agw (z := z) agw_rfl)
