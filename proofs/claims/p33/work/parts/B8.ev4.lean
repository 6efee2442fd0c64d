/-! VALUE EVENTS: STAY, OPTION, FINALLY, BUFFER -/
theorem ag5 {z : Zt} {G G' : Gt} {c i : Nat} {v : Int32} (hc : c = 19 ∨ c = 20 ∨ c = 22 ∨ c = 24 ∨ c = 25 ∨ c = 27 ∨ c = 29 ∨ c = 31 ∨ c = 33 ∨ c = 35 ∨ c = 54 ∨ c = 56 ∨ c = 57 ∨ c = 58 ∨ c = 59 ∨ c = 60 ∨ c = 61) (h : agr z G G') : agr z G (gu G' c i v) := agr_gu (Or.inr (Or.inr (Or.inr (Or.inr (Or.inr (Or.inl hc)))))) h
theorem st_s {N B : Nat} {z : Zt} {G : Gt} {x : Nat → Int32} {sp fp u k e : Nat} (h : st N B z G x sp fp u k e) : G 84 14 = G 46 51 ∧ bz (G 46 51) ∧ G 84 19 = G 46 62 ∧ G 84 12 = 0 := by
  have hQ := h.1.1.2.2.2.2.2.2.2.2.2.2.2.2.2.2.2.2.2.1
  exact ⟨hQ.2.2.2.2.2.2.2.2.2.2.2.1, hQ.2.2.2.2.2.2.2.2.2.2.2.2.1, hQ.2.2.2.2.2.2.2.2.2.2.2.2.2.1, h.1.2.2.2.1⟩
theorem st_qU {N B : Nat} {z : Zt} {G : Gt} {x : Nat → Int32} {sp fp u k e : Nat} (h : st N B z G x sp fp u k e) : qU N z G := h.1.1.2.2.2.2.2.2.2.2.2.2.2.2.2.2.2.2.2.2.2.2.2
/-- an error at an instruction, a value at one -/
theorem va_er {N B : Nat} {z : Zt} {G : Gt} {x : Nat → Int32} {u k e p q : Nat} {er : Int32} (h : va N B z G x u k e p) (hk : ¬ k = 26) (her : isnum er) (s1 : cS G (oFl u er (gu G 116 u (nI q)))) (hR : rS G (oFr (z 6 u) er G)) (hl : lao k p = 0) : eW N B z G (rS G) := by
  have hs := va_s h
  have hu := hs.2.1
  have hst := st_fr (Gc := gu G 116 u (nI q)) (Gr := G) (sp' := 1) (fp' := 0) hs (ag1 hu (by decide) agw_rfl) agw_rfl ⟨rfl, rfl, rfl, rfl, rfl⟩ (Nat.le_refl _) (Nat.le_refl _)
  exact f_err (G := G) (t := 1) clo_rS hst (fun o ho => va_x h hk o ho) her (cT_1 s1) (by decide) hR (kp_agw (ag1 hu (by decide) agw_rfl)) (kp_agw (z := z) agw_rfl) (by rw [gu_oo _ (by decide)]; exact va_l h hl)
theorem va_en {N B : Nat} {z : Zt} {G Gc Gr : Gt} {x : Nat → Int32} {u k e p q : Nat} {v : Int32} (h : va N B z G x u k e p) (hk : ¬ k = 26) (hst : st N B z (mxw Gc Gr) x 1 0 u k e) (h31 : Gc 31 = G 31) (s1 : cS G Gc) (h116 : Gc 116 u = nI q) (h16 : G 16 q = 40 ∧ q < 1081) (hR : rS G (oEn v (Gr 65 (z 6 u)) Gr)) (h65 : Gr 65 = G 65) (h15 : Gc 84 15 = 0) (h84 : Gc 84 16 = v) (hv : vV z v) (hk1 : kp G Gc) (hk2 : kp G Gr) : eW N B z G (rS G) := by
  refine f_end (p := q) (t := 1) clo_rS hst (fun o ho => by rw [h31]; exact va_x h hk o ho) (cT_1 s1) (by decide) h116 ⟨?_, h16.2⟩ hR (by rw [h65]) h15 h84 hv hk1 hk2
  rw [hk1 16 _ (by unfold kpc; omega)]; exact h16.1
theorem i_stay {G : Gt} {u p o : Nat} (h : cAt G u p 28) (hd : G 18 p = nI o) (ho : o < 4) (hn : ¬ inm (G 84 16) = 0) : cS G (gu (gu G 116 u (nI (p + 1))) 33 o (G 84 16)) := by
  refine cS_c h (by decide) (fun R K hk => ?_)
  rw [hd]
  refine pif_n (by decide) (pif_n (by decide) (pif_n (by decide) (pif_n (by decide) (pif_n (by decide) (pif_n (by decide) (pif_n (by decide) (pif_n (by decide) (pif_n (by decide) (pif_n (by decide) (pif_n (by decide) (pif_n (by decide) (pif_p (by decide) ?_))))))))))))
  exact pif_n hn (pcp rfl ho (by decide) rfl hk)
theorem i_stay_n {G : Gt} {u p : Nat} (h : cAt G u p 28) (hn : inm (G 84 16) = 0) : cS G (oFl u (-3) (gu G 116 u (nI (p + 1)))) := by
  refine cS_c h (by decide) (fun R K hk => ?_)
  obtain ⟨h7, h12, h11, hu6, hp, hp2, hw0⟩ := h
  refine pif_n (by decide) (pif_n (by decide) (pif_n (by decide) (pif_n (by decide) (pif_n (by decide) (pif_n (by decide) (pif_n (by decide) (pif_n (by decide) (pif_n (by decide) (pif_n (by decide) (pif_n (by decide) (pif_n (by decide) (pif_p (by decide) ?_))))))))))))
  exact pif_p hn (k_fail (G := gu G 116 u (nI (p + 1))) h11 hu6 hk)
theorem r_stay {K : Gt → Prop} {C G : Gt} {f m o : Nat} {v : Int32} (hf : f < 1220) (h64 : G 64 f = nI m) (hm : m < 120) (h48 : G 48 m = nI o) (ho : o < 4) (h : K (mxw C (oEn v (G 65 f) (gu G 57 o v)))) : w_X11_takes K (nI f) (nI 28) v (mxw C G) := by
  have e : (nI f).toNatClampNeg = f := nI_clamp (by omega)
  have em : (nI m).toNatClampNeg = m := nI_clamp (by omega)
  have eo : (nI o).toNatClampNeg = o := nI_clamp (by omega)
  unfold w_X11_takes
  refine pif_n (by decide) (pif_p rfl ?_)
  rw [e, show (mxw C G) 64 f = nI m from h64, em, show (mxw C G) 48 m = nI o from h48, eo]
  exact ⟨vp_n hf (by decide), vp_n hm (by decide), vp_n ho (by decide), ptr rfl (r_ends hf h)⟩
theorem qU_rg {N : Nat} {z : Zt} {G : Gt} {o : Nat} {v : Int32} (h : qU N z G) (hv : isnum v) : qU N z (gu (gu G 33 o v) 57 o v) := by
  obtain ⟨u1, u2, u3, u4, u5, u6⟩ := h
  refine ⟨u1, u2, u3, u4, fun k hk => ?_, u6⟩
  by_cases e : k = o
  · subst e; rw [gu_oo _ (by decide), gu_kk, gu_kk]; exact ⟨rfl, hv⟩
  · rw [gu_oo _ (by decide), gu_ko _ e, gu_ko _ e]; exact u5 k hk
theorem v_28_1 {N B : Nat} {z : Zt} {G : Gt} {x : Nat → Int32} {u e : Nat} (h : va N B z G x u 28 e 1) : eW N B z G (rS G) := by
  have hs := va_s h
  obtain ⟨f1, f2, f3, f4, f5, f6, f7, f8, f9, f10, f11, f12, f13, f14⟩ := st_f hs
  have hu := hs.2.1
  have hh := va_h h
  have hV := va_V h
  obtain ⟨v1, v2, v3⟩ := va_v h
  have kk := st_k hs
  have hun := hs.2.2.1
  have hx := va_x h (by decide)
  obtain ⟨o, ho, eo⟩ := prq (k := 28) (w := 0) (d := 2) (n := 4) (by decide) (by decide) (by decide) (by omega) (Or.inr (Or.inl ⟨rfl, rfl⟩)) kk.1
  have c1 := st_code hs (q := 1) (w := 28) (d := G 48 (z 1 u)) (by rw [cd_28]; rfl)
  have c2 := st_code hs (q := 2) (w := 40) (d := -1) (by rw [cd_28]; rfl)
  have p1 := va_p h (q := 1) (by decide) rfl
  rcases st_vv hs v1 with ⟨a1, a2, a3⟩ | ⟨a1, a2, a3⟩
  · have s1 := i_stay (cat f1 p1 c1.2.2 c1.1) (c1.2.1.trans eo) ho (by rw [a2]; decide)
    have hR := hV_28_y (H := oEn (G 46 42) (G 65 (z 6 u)) (gu G 57 o (G 46 42))) hh (by rw [v2]; exact a3) (fun C K hk => r_stay f5 f6 (by omega) eo ho hk)
    rw [v2] at hR
    have hst0 := st_u (G' := gu G 116 u (nI (e + 1 + 1))) (sp' := 1) (fp' := 0) hs (ag1 hu (by decide) agw_rfl) ⟨rfl, rfl, rfl, rfl, rfl⟩ (Nat.le_refl _) (Nat.le_refl _)
    have hst1 := st_w (G' := gu (gu (gu G 116 u (nI (e + 1 + 1))) 33 o (G 84 16)) 57 o (G 84 16)) (x' := x) hst0 (ag5 (by decide) (ag5 (by decide) agr_rfl)) (st_s hst0 :) (fun _ _ q => q) (qU_rg (st_qU hst0) a1) (Or.inl (fun _ _ => rfl))
    have em : gu (gu (gu G 116 u (nI (e + 1 + 1))) 33 o (G 84 16)) 57 o (G 84 16) = mxw (gu (gu G 116 u (nI (e + 1 + 1))) 33 o (G 84 16)) (gu G 57 o (G 84 16)) := by
      rw [← mxw_gR rfl, ← mxw_gC rfl, ← mxw_gC rfl, mxw_self]
    rw [em] at hst1
    exact va_en (q := e + 2) h (by decide) hst1 rfl s1 (by rw [gu_oo _ (by decide), gu_kk]) ⟨c2.1, c2.2.2⟩ hR rfl v3 rfl v1 (kp_gu (by unfold kpc; omega) (kp_gu (by unfold kpc; omega) kp_rfl)) (kp_gu (by unfold kpc; omega) kp_rfl)
  · exact va_er h (by decide) (by unfold isnum; decide) (i_stay_n (cat f1 p1 c1.2.2 c1.1) a2) (hV_28_n hh (by rw [v2]; exact a3)) rfl
theorem i_cho {G : Gt} {u p : Nat} (h : cAt G u p 37) : cS G (if inm (G 84 16) = 0 then oFl u (-3) (gu G 116 u (nI (p + 1))) else if ibl (G 84 16) 2 = 0 then oFl u (-4) (gu G 116 u (nI (p + 1))) else gu (gu G 116 u (nI (p + 1))) 19 7 (G 84 16)) := by
  refine cS_e h (by decide) (fun R K hk => ?_)
  obtain ⟨h7, h12, h11, hu6, hp, hp2, hw0⟩ := h
  refine pif_n (by decide) (pif_n (by decide) (pif_n (by decide) (pif_n (by decide) (pif_n (by decide) (pif_n (by decide) (pif_n (by decide) (pif_n (by decide) (pif_p (by decide) ?_))))))))
  unfold w_X2_choose w_X2_choose_j50
  rw [show (mxw (gu G 116 u (nI (p + 1))) R) 84 16 = G 84 16 from rfl]
  by_cases c : inm (G 84 16) = 0
  · rw [if_pos c] at hk
    exact pif_p c (k_fail (G := gu G 116 u (nI (p + 1))) h11 hu6 hk)
  · rw [if_neg c] at hk
    refine pif_n c ?_
    by_cases d : ibl (G 84 16) 2 = 0
    · rw [if_pos d] at hk
      exact pif_p d (k_fail (G := gu G 116 u (nI (p + 1))) h11 hu6 hk)
    · rw [if_neg d] at hk
      exact pif_n d (ptc rfl hk)
theorem qU_cu {N : Nat} {z : Zt} {G : Gt} {b : Nat} (h : qU N z G) (hb : b < 2) : qU N z (gu (gu G 19 7 (nI b)) 46 14 (nI b)) := by
  obtain ⟨u1, u2, u3, u4, u5, u6⟩ := h
  exact ⟨u1, u2, ⟨u3.1, ⟨b, hb, by rw [gu_oo _ (by decide), gu_kk], by rw [gu_kk]⟩, u3.2.2⟩, u4, u5, u6⟩
theorem v_37_1 {N B : Nat} {z : Zt} {G : Gt} {x : Nat → Int32} {u e : Nat} (h : va N B z G x u 37 e 1) : eW N B z G (rS G) := by
  have hs := va_s h
  obtain ⟨f1, f2, f3, f4, f5, f6, f7, f8, f9, f10, f11, f12, f13, f14⟩ := st_f hs
  have hu := hs.2.1
  have hh := va_h h
  have hV := va_V h
  obtain ⟨v1, v2, v3⟩ := va_v h
  have kk := st_k hs
  have hun := hs.2.2.1
  have hx := va_x h (by decide)
  have c1 := st_code hs (q := 1) (w := 37) (d := -1) (by rw [cd_37]; rfl)
  have c2 := st_code hs (q := 2) (w := 40) (d := -1) (by rw [cd_37]; rfl)
  have p1 := va_p h (q := 1) (by decide) rfl
  have s1 := i_cho (cat f1 p1 c1.2.2 c1.1)
  rcases st_vv hs v1 with ⟨a1, a2, a3⟩ | ⟨a1, a2, a3⟩
  · rw [if_neg (by rw [a2]; decide)] at s1
    have h2 := lit_b (x := G 84 16) (b := 2) (N := 2) rfl (by decide)
    by_cases c : 0 ≤ G 84 16 ∧ G 84 16 < 2
    · rw [if_neg (by rw [ibl_bi, bi_T c]; decide)] at s1
      obtain ⟨b, hb, eb⟩ := h2.mp c
      have hR := hV_37_y (H := oEn (G 46 42) (G 65 (z 6 u)) (gu G 46 14 (G 46 42))) hh (by rw [v2]; exact a3) (fun C K hk => by
        refine pif_n (by decide) (pif_n (by decide) (pif_n (by decide) (pif_n (by decide) (pif_n (by decide) (s11_isBuffer ?_)))))
        rw [bi_T (by
          rw [v2, eb]
          have : b = 0 ∨ b = 1 := by omega
          rcases this with q | q <;> rw [q]
          · exact Or.inl rfl
          · exact Or.inr rfl)]
        exact pif_n (by decide) (ptr rfl (r_ends f5 hk)))
      rw [v2] at hR
      have hst0 := st_u (G' := gu G 116 u (nI (e + 1 + 1))) (sp' := 1) (fp' := 0) hs (ag1 hu (by decide) agw_rfl) ⟨rfl, rfl, rfl, rfl, rfl⟩ (Nat.le_refl _) (Nat.le_refl _)
      have hst1 := st_w (G' := gu (gu (gu G 116 u (nI (e + 1 + 1))) 19 7 (nI b)) 46 14 (nI b)) (x' := x) hst0 (agr_gu (by unfold fr; omega) (ag5 (by decide) agr_rfl)) (st_s hst0 :) (fun _ _ q => q) (qU_cu (st_qU hst0) hb) (Or.inl (fun _ _ => rfl))
      have em : gu (gu (gu G 116 u (nI (e + 1 + 1))) 19 7 (nI b)) 46 14 (nI b) = mxw (gu (gu G 116 u (nI (e + 1 + 1))) 19 7 (nI b)) (gu G 46 14 (nI b)) := by
        rw [← mxw_gR rfl, ← mxw_gC rfl, ← mxw_gC rfl, mxw_self]
      rw [em, ← eb] at hst1
      exact va_en (q := e + 2) h (by decide) hst1 rfl s1 (by rw [gu_oo _ (by decide), gu_kk]) ⟨c2.1, c2.2.2⟩ hR rfl v3 rfl v1 (kp_gu (by unfold kpc; omega) (kp_gu (by unfold kpc; omega) kp_rfl)) (kp_gu (by unfold kpc; omega) kp_rfl)
    · rw [if_pos (by rw [ibl_bi, bi_F c])] at s1
      refine va_er h (by decide) (by unfold isnum; decide) s1 (hV_37_y hh (by rw [v2]; exact a3) (fun C K hk => ?_)) rfl
      refine pif_n (by decide) (pif_n (by decide) (pif_n (by decide) (pif_n (by decide) (pif_n (by decide) (s11_isBuffer ?_)))))
      rw [bi_F (by
        rw [v2]
        rintro (q | q)
        · exact c (by rw [q]; decide)
        · exact c (by rw [q]; decide))]
      exact pif_p rfl (r_fails f5 hk)
  · rw [if_pos a2] at s1
    exact va_er h (by decide) (by unfold isnum; decide) s1 (hV_37_n hh (by rw [v2]; exact a3)) rfl
/-! OPTION -/
theorem i_opt {G : Gt} {u p o : Nat} (h : cAt G u p 26) (hd : G 18 p = nI o) (ho : o < 4) : cS G (gu (gu (gu (gu G 116 u (nI (p + 1))) 122 u (G 31 o)) 124 u 1) 31 o (G 84 16)) := by
  refine cS_c h (by decide) (fun R K hk => ?_)
  obtain ⟨h7, h12, h11, hu6, hp, hp2, hw0⟩ := h
  rw [hd]
  refine pif_n (by decide) (pif_n (by decide) (pif_n (by decide) (pif_n (by decide) (pif_n (by decide) (pif_n (by decide) (pif_n (by decide) (pif_n (by decide) (pif_n (by decide) (pif_n (by decide) (pif_p (by decide) ?_))))))))))
  rw [rat_n ho (by decide), show (mxw (gu G 116 u (nI (p + 1))) R) 31 o = G 31 o from rfl]
  exact pcp h11 hu6 (by decide) rfl (pcp h11 hu6 (by decide) rfl (pcp rfl ho (by decide) rfl hk))
theorem i_rst {G : Gt} {u p o : Nat} (h : cAt G u p 53) (hd : G 18 p = nI o) (ho : o < 4) : cS G (gu (gu G 116 u (nI (p + 1))) 31 o (G 122 u)) := by
  refine cS_b h (by decide) (fun R K hk => ?_)
  obtain ⟨h7, h12, h11, hu6, hp, hp2, hw0⟩ := h
  rw [hd]
  refine pif_n (by decide) (pif_n (by decide) (pif_n (by decide) (pif_n (by decide) (pif_n (by decide) (pif_p (by decide) ?_)))))
  rw [rat_u (G := gu G 116 u (nI (p + 1))) h11 hu6, show (mxw (gu G 116 u (nI (p + 1))) R) 122 u = G 122 u from rfl]
  exact pcp rfl ho (by decide) rfl hk
theorem qU_op {N : Nat} {z : Zt} {G : Gt} {o : Nat} {v : Int32} (h : qU N z G) (hv : vV z v) : qU N z (gu (gu G 31 o v) 56 o v) := by
  obtain ⟨u1, u2, u3, u4, u5, u6⟩ := h
  refine ⟨u1, u2, u3, u4, u5, fun k hk => ?_⟩
  by_cases e : k = o
  · subst e; rw [gu_oo _ (by decide), gu_kk, gu_kk]; exact ⟨rfl, hv⟩
  · rw [gu_oo _ (by decide), gu_ko _ e, gu_ko _ e]; exact u6 k hk
theorem v_26_2 {N B : Nat} {z : Zt} {G : Gt} {x : Nat → Int32} {u e : Nat} (h : va N B z G x u 26 e 2) : eW N B z G (rS G) := by
  have hs := va_s h
  obtain ⟨f1, f2, f3, f4, f5, f6, f7, f8, f9, f10, f11, f12, f13, f14⟩ := st_f hs
  have hu := hs.2.1
  have hh := va_h h
  have hV := va_V h
  obtain ⟨v1, v2, v3⟩ := va_v h
  have kk := st_k hs
  have hun := hs.2.2.1
  obtain ⟨o, ho, eo⟩ := prq (k := 26) (w := 0) (d := 2) (n := 4) (by decide) (by decide) (by decide) (by omega) (Or.inr (Or.inl ⟨rfl, rfl⟩)) kk.1
  have c1 := st_code hs (q := 4) (w := 53) (d := G 48 (z 1 u)) (by rw [cd_26]; rfl)
  have c2 := st_code hs (q := 5) (w := 40) (d := -1) (by rw [cd_26]; rfl)
  have p1 := va_p h (q := 4) (by decide) rfl
  obtain ⟨w1, w2⟩ := hV.2.2.1 rfl (by omega)
  have s1 := i_rst (cat f1 p1 c1.2.2 c1.1) (c1.2.1.trans eo) ho
  have hR := hV_26_1 hh (by rw [xV_67b hV]; decide) eo ho
  rw [v2, ← w1] at hR
  have hst0 := st_u (G' := gu G 116 u (nI (e + 4 + 1))) (sp' := 1) (fp' := 0) hs (ag1 hu (by decide) agw_rfl) ⟨rfl, rfl, rfl, rfl, rfl⟩ (Nat.le_refl _) (Nat.le_refl _)
  have hst1 := st_w (G' := gu (gu (gu G 116 u (nI (e + 4 + 1))) 31 o (G 122 u)) 56 o (G 122 u)) (x' := x) hst0 (ag5 (by decide) (ag5 (by decide) agr_rfl)) (st_s hst0 :) (fun _ _ q => q) (qU_op (st_qU hst0) w2) (Or.inl (fun _ _ => rfl))
  have em : gu (gu (gu G 116 u (nI (e + 4 + 1))) 31 o (G 122 u)) 56 o (G 122 u) = mxw (gu (gu G 116 u (nI (e + 4 + 1))) 31 o (G 122 u)) (gu G 56 o (G 122 u)) := by
    rw [← mxw_gR rfl, ← mxw_gC rfl, ← mxw_gC rfl, mxw_self]
  rw [em] at hst1
  refine f_end (p := e + 5) (t := 1) clo_rS hst1 ?_ (cT_1 s1) (by decide) (by rw [gu_oo _ (by decide), gu_kk]) ⟨c2.1, c2.2.2⟩ hR rfl v3 rfl v1 (kp_gu (by unfold kpc; omega) (kp_gu (by unfold kpc; omega) kp_rfl)) (kp_gu (by unfold kpc; omega) kp_rfl)
  intro o' ho'
  rw [h.1.2.2.2.2.2.2.2.2.2.2.2 o', eo]
  by_cases c : o' = o
  · subst c
    rw [if_pos ⟨rfl, rfl, rfl⟩, gu_kk]
  · rw [if_neg (fun q => c ((nI_eq (by omega) (by omega)).mp q.2.2).symm), gu_ko _ c]; rfl
/-- the depth of an OPTION -/
theorem st_od {N B : Nat} {z : Zt} {G : Gt} {x : Nat → Int32} {sp fp u k e v : Nat} (h : st N B z G x sp fp u k e) : st N B (zu z 24 u v) G x sp fp u k e := by
  obtain ⟨⟨⟨hP, hA, hB, hC, hD, hE, hF, hG, hH, hI, hJ, hK, hL, hM, hN, hO, hPg, hQ, hR, hS, hT, hU⟩, hm, h6, h12, hFr⟩, hu, hn, hd, hk, he, h47, h13⟩ := h
  have hf := fX_of hA hC (by omega)
  refine ⟨⟨⟨hP, hA, hB, hC, hD, hE, hF, hG, hH, hI, hJ, hK, hL, hM, hN, hO, hPg, hQ, hR, ?_, hT, hU⟩, hm, h6, h12, hFr⟩, hu, hn, hd, hk, he, h47, h13⟩
  obtain ⟨f, hf'⟩ := hS
  refine ⟨f, fun o ho => ?_⟩
  refine oK_ext (N := N) (z := z) (G := G) (G' := G) (z' := zu z 24 u v) (Nat.le_refl _) hf.1 (fun _ _ => rfl) (fun _ _ => ⟨rfl, rfl⟩) f (fun q _ q2 _ _ => ⟨q2, rfl, rfl, ?_⟩) _ _ (hf' o ho)
  have : ¬ q = u := by intro e; subst e; rw [hu] at h6; omega
  simp [zu, this]
