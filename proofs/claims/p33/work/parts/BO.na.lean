/-! ANOTHER END ARRIVES -/
def na (N B : Nat) (z : Zt) (G : Gt) (x : Nat → Int32) (sp u k e p : Nat) : Prop := arr N B z G x sp u k e p ∧ G 116 u = (if lao k p = 0 then 0 else nI (e + lao k p)) ∧ G 118 u = 0 ∧ (sp = 1 ∨ G 84 15 = 1) ∧ aU z G u (G 84 15) (G 84 16) (G 84 18) (G 84 17) (G 46 41) (G 46 42) (G 46 43) (G 46 44) (G 46 45) (G 46 46) ∧ G 46 57 = nI (z 6 u)
theorem na_s {N B : Nat} {z : Zt} {G : Gt} {x : Nat → Int32} {sp u k e p : Nat} (h : na N B z G x sp u k e p) : st N B z G x sp 0 u k e :=
  ⟨h.1.1, h.1.2.1, h.1.2.2.1, h.1.2.2.2.1, h.1.2.2.2.2.1, h.1.2.2.2.2.2.1, h.1.2.2.2.2.2.2.1, h.1.2.2.2.2.2.2.2.1⟩
theorem na_x {N B : Nat} {z : Zt} {G : Gt} {x : Nat → Int32} {sp u k e p : Nat} (h : na N B z G x sp u k e p) (hk : ¬ (k = 26 ∧ p = 2)) : ∀ o, o < 4 → x o = G 31 o := by
  intro o _
  rw [h.1.2.2.2.2.2.2.2.2.2.2.2 o, if_neg (fun q => hk ⟨q.1, q.2.1⟩)]
theorem na_h {N B : Nat} {z : Zt} {G : Gt} {x : Nat → Int32} {sp u k e p : Nat} (h : na N B z G x sp u k e p) : nH G (z 6 u) (z 1 u) k := by
  obtain ⟨f1, f2, f3, f4, f5, f6, f7, f8, f9, f10, f11, f12, f13, f14⟩ := st_f (na_s h)
  obtain ⟨_, n2, n3⟩ := aU_nv h.2.2.2.2.1
  exact ⟨n2, n3, h.2.2.2.2.2, f5, f6, by omega, h.1.2.2.2.2.2.2.1⟩
theorem na_V {N B : Nat} {z : Zt} {G : Gt} {x : Nat → Int32} {sp u k e p : Nat} (h : na N B z G x sp u k e p) : xV z G u k p := h.1.2.2.2.2.2.2.2.2.2.1
theorem na_nl {N B : Nat} {z : Zt} {G : Gt} {x : Nat → Int32} {sp u k e p : Nat} (h : na N B z G x sp u k e p) (hk : ¬ k = 13) : ∀ l, l < 4 → G 46 43 = nI l → (G 46 41 = 3 ∨ G 46 41 = 4) → ¬ isL z G l u := by
  intro l _ _ _ q
  have q1 := q.1
  rw [h.1.2.2.2.2.2.2.1] at q1
  exact hk ((nI_eqL (w := k) (a := 13) (b := 13) rfl (by have := h.1.2.2.2.2.1; omega) (by decide)).mp q1)
/-- it is passed on -/
theorem n_pass {N B : Nat} {z : Zt} {G : Gt} {x : Nat → Int32} {sp u k e p : Nat} (h : na N B z G x sp u k e p) (hk : ¬ (k = 26 ∧ p = 2)) (h0 : lao k p = 0) (hR : rS G (gu G 46 57 (G 65 (z 6 u)))) (hl : ∀ l, l < 4 → G 46 43 = nI l → (G 46 41 = 3 ∨ G 46 41 = 4) → ¬ isL z G l u) : eW N B z G (rS G) := by
  have hs := na_s h
  have hst := st_fr (Gc := G) (Gr := gu G 46 57 (G 65 (z 6 u))) (sp' := sp) (fp' := 0) hs agw_rfl (ag4 (by decide) agw_rfl) ⟨rfl, rfl, rfl, rfl, rfl⟩ (Nat.le_refl _) (Nat.le_refl _)
  have hP := hs.1.1.1
  exact f_out (p := 0) (t := 0) clo_rS hst (na_x h hk) eqc_rfl (by decide) (by rw [h.2.1, if_pos h0]; rfl) ⟨hP.2.2.2.1, by decide⟩ hR rfl (aU_pass h.2.2.2.2.1 hl) h.2.2.2.1 kp_rfl (kp_gu (by unfold kpc; omega) kp_rfl)
theorem n_def {N B : Nat} {z : Zt} {G : Gt} {x : Nat → Int32} {sp u k e p : Nat} (h : na N B z G x sp u k e p) (h13 : ¬ k = 13) (h20 : ¬ k = 20) (h21 : ¬ k = 21) (h26 : ¬ k = 26) (h36 : ¬ k = 36) : eW N B z G (rS G) := by
  have hh := na_h h
  have hkP := h.1.2.2.2.2.2.2.2.2.1
  have hp := h.1.2.2.2.2.2.2.2.2.2.2.1
  have h0 : lao k p = 0 := by
    unfold lao
    rcases hp with rfl | rfl
    · rw [if_pos rfl, if_neg (by omega), if_neg (by omega), if_neg (by omega)]
    · rw [if_neg (by decide), if_pos rfl, if_neg (by omega), if_neg (by omega)]
  have hl := na_nl h h13
  have go : rS G (gu G 46 57 (G 65 (z 6 u))) → eW N B z G (rS G) := fun a => n_pass h (by omega) h0 a hl
  have : k = 2 ∨ k = 3 ∨ k = 4 ∨ k = 5 ∨ k = 6 ∨ k = 7 ∨ k = 8 ∨ k = 9 ∨ k = 10 ∨ k = 11 ∨ k = 12 ∨ k = 14 ∨ k = 17 ∨ k = 18 ∨ k = 19 ∨ k = 22 ∨ k = 24 ∨ k = 25 ∨ k = 28 ∨ k = 29 ∨ k = 31 ∨ k = 35 ∨ k = 37 := by
    unfold kP at hkP; omega
  rcases this with q | q | q | q | q | q | q | q | q | q | q | q | q | q | q | q | q | q | q | q | q | q | q
  · exact go (hX_2 (q ▸ hh))
  · exact go (hX_3 (q ▸ hh))
  · exact go (hX_4 (q ▸ hh))
  · exact go (hX_5 (q ▸ hh))
  · exact go (hX_6 (q ▸ hh))
  · exact go (hX_7 (q ▸ hh))
  · exact go (hX_8 (q ▸ hh))
  · exact go (hX_9 (q ▸ hh))
  · exact go (hX_10 (q ▸ hh))
  · exact go (hX_11 (q ▸ hh))
  · exact go (hX_12 (q ▸ hh))
  · exact go (hX_14 (q ▸ hh))
  · exact go (hX_17 (q ▸ hh))
  · exact go (hX_18 (q ▸ hh))
  · exact go (hX_19 (q ▸ hh))
  · exact go (hX_22 (q ▸ hh))
  · exact go (hX_24 (q ▸ hh))
  · exact go (hX_25 (q ▸ hh))
  · exact go (hX_28 (q ▸ hh))
  · exact go (hX_29 (q ▸ hh))
  · exact go (hX_31 (q ▸ hh))
  · exact go (hX_35 (q ▸ hh))
  · exact go (hX_37 (q ▸ hh))
/-- OPTION, ahead of its last part -/
theorem n_26_1 {N B : Nat} {z : Zt} {G : Gt} {x : Nat → Int32} {sp u e : Nat} (h : na N B z G x sp u 26 e 1) : eW N B z G (rS G) := by
  have hs := na_s h
  have kk := st_k hs
  obtain ⟨o, ho, eo⟩ := prq (k := 26) (w := 0) (d := 2) (n := 4) (by decide) (by decide) (by decide) (by omega) (Or.inr (Or.inl ⟨rfl, rfl⟩)) kk.1
  have hR := hX_26_0 (na_h h) (by rw [xV_67a (na_V h) (by decide)]; decide) eo ho
  have e56 : gu (gu G 46 57 (G 65 (z 6 u))) 56 o (G 56 o) = gu G 46 57 (G 65 (z 6 u)) := gu_sf rfl
  rw [e56] at hR
  exact n_pass h (by decide) rfl hR (na_nl h (by decide))
/-- .. behind it -/
theorem n_26_2 {N B : Nat} {z : Zt} {G : Gt} {x : Nat → Int32} {sp u e : Nat} (h : na N B z G x sp u 26 e 2) : eW N B z G (rS G) := by
  have hs := na_s h
  obtain ⟨f1, f2, f3, f4, f5, f6, f7, f8, f9, f10, f11, f12, f13, f14⟩ := st_f hs
  have hu := hs.2.1
  have hV := na_V h
  have kk := st_k hs
  have hun := hs.2.2.1
  obtain ⟨o, ho, eo⟩ := prq (k := 26) (w := 0) (d := 2) (n := 4) (by decide) (by decide) (by decide) (by omega) (Or.inr (Or.inl ⟨rfl, rfl⟩)) kk.1
  have c1 := st_code hs (q := 4) (w := 53) (d := G 48 (z 1 u)) (by rw [cd_26]; rfl)
  have c2 := st_code hs (q := 5) (w := 40) (d := -1) (by rw [cd_26]; rfl)
  have p1 : G 116 u = nI (e + 4) := h.2.1
  obtain ⟨w1, w2⟩ := hV.2.2.1 rfl (by omega)
  have s1 := i_rst (cat f1 p1 c1.2.2 c1.1) (c1.2.1.trans eo) ho
  have hR := hX_26_1 (na_h h) (xV_67b hV) eo ho
  rw [← w1] at hR
  have hst0 := st_u (G' := gu (gu G 116 u (nI (e + 4 + 1))) 46 57 (G 65 (z 6 u))) (sp' := sp) (fp' := 0) hs (ag4 (by decide) (ag1 hu (by decide) agw_rfl)) ⟨rfl, rfl, rfl, rfl, rfl⟩ (Nat.le_refl _) (Nat.le_refl _)
  have hst1 := st_w (G' := gu (gu (gu (gu G 116 u (nI (e + 4 + 1))) 46 57 (G 65 (z 6 u))) 31 o (G 122 u)) 56 o (G 122 u)) (x' := x) hst0 (ag5 (by decide) (ag5 (by decide) agr_rfl)) (st_s hst0 :) (fun _ _ q => q) (qU_op (st_qU hst0) w2) (Or.inl (fun _ _ => rfl))
  have em : gu (gu (gu (gu G 116 u (nI (e + 4 + 1))) 46 57 (G 65 (z 6 u))) 31 o (G 122 u)) 56 o (G 122 u) = mxw (gu (gu G 116 u (nI (e + 4 + 1))) 31 o (G 122 u)) (gu (gu G 46 57 (G 65 (z 6 u))) 56 o (G 122 u)) := by
    rw [gu_comm (k := 46) (j := 57) (k' := 31) (j' := o) (by omega), ← mxw_gR rfl, ← mxw_gR rfl, ← mxw_gC rfl, ← mxw_gC rfl, mxw_self]
  rw [em] at hst1
  have hao := aU_pass (c := u) h.2.2.2.2.1 (na_nl h (by decide))
  refine f_out (p := e + 5) (t := 1) clo_rS hst1 ?_ (cT_1 s1) (by decide) (by rw [gu_oo _ (by decide), gu_kk]) ⟨c2.1, c2.2.2⟩ hR rfl hao h.2.2.2.1 (kp_gu (by unfold kpc; omega) (kp_gu (by unfold kpc; omega) kp_rfl)) (kp_gu (by unfold kpc; omega) (kp_gu (by unfold kpc; omega) kp_rfl))
  intro o' ho'
  rw [h.1.2.2.2.2.2.2.2.2.2.2.2 o', eo]
  by_cases c : o' = o
  · subst c
    rw [if_pos ⟨rfl, rfl, rfl⟩, gu_kk]
  · rw [if_neg (fun q => c ((nI_eq (by omega) (by omega)).mp q.2.2).symm), gu_ko _ c]; rfl
/-! FINALLY -/
theorem n_21_1 {N B : Nat} {z : Zt} {G : Gt} {x : Nat → Int32} {sp u e : Nat} (h : na N B z G x sp u 21 e 1) : eW N B z G (rS G) :=
  fin_w (na_s h) (na_x h (by decide)) h.2.1 (na_V h) (aU_pass h.2.2.2.2.1 (na_nl h (by decide))) (Or.inr ⟨_, rfl⟩) (fun _ hH => hX_21_0 (na_h h) (xV_67a (na_V h) (by decide)) hH)
theorem i_bla_y {G : Gt} {u p : Nat} (h : cAt G u p 52) (h15 : G 84 15 = 1) (h124 : G 124 u = 1) : cS G (gu (gu G 116 u (nI (p + 1))) 84 17 (G 122 u)) := by
  refine cS_b h (by decide) (fun R K hk => ?_)
  obtain ⟨h7, h12, h11, hu6, hp, hp2, hw0⟩ := h
  refine pif_n (by decide) (pif_n (by decide) (pif_n (by decide) (pif_n (by decide) (pif_p (by decide) (pif_p h15 ?_)))))
  rw [rat_u (G := gu G 116 u (nI (p + 1))) h11 hu6, rat_u (G := gu G 116 u (nI (p + 1))) h11 hu6]
  exact pif_p h124 (ptc rfl hk)
theorem i_bla_n {G : Gt} {u p : Nat} (h : cAt G u p 52) (hn : ¬ (G 84 15 = 1 ∧ G 124 u = 1)) : cS G (gu G 116 u (nI (p + 1))) := by
  refine cS_b h (by decide) (fun R K hk => ?_)
  obtain ⟨h7, h12, h11, hu6, hp, hp2, hw0⟩ := h
  refine pif_n (by decide) (pif_n (by decide) (pif_n (by decide) (pif_n (by decide) (pif_p (by decide) ?_))))
  rw [rat_u (G := gu G 116 u (nI (p + 1))) h11 hu6]
  by_cases c : G 84 15 = 1
  · exact pif_p c (pif_n (fun q => hn ⟨c, q⟩) hk)
  · exact pif_n c hk
theorem n_21_2 {N B : Nat} {z : Zt} {G : Gt} {x : Nat → Int32} {sp u e : Nat} (h : na N B z G x sp u 21 e 2) : eW N B z G (rS G) := by
  have hs := na_s h
  obtain ⟨f1, f2, f3, f4, f5, f6, f7, f8, f9, f10, f11, f12, f13, f14⟩ := st_f hs
  have hu := hs.2.1
  have hV := na_V h
  have hun := hs.2.2.1
  have hh := na_h h
  have hQ := hs.1.1.2.2.2.2.2.2.2.2.2.2.2.2.2.2.2.2.2.1
  have c1 := st_code hs (q := 7) (w := 52) (d := -1) (by rw [cd_21]; rfl)
  have c2 := st_code hs (q := 8) (w := 40) (d := -1) (by rw [cd_21]; rfl)
  have p1 : G 116 u = nI (e + 7) := h.2.1
  obtain ⟨w, w1, w2, w3⟩ := hV.2.2.2.2.1 rfl rfl
  have h67 : ¬ G 67 (z 6 u) = 0 := by rw [xV_67b hV]; decide
  have hR := hs.1.1.2.2.2.2.2.2.2.2.2.2.2.2.2.2.2.2.2.2.1
  have hw6 : 6 * w + 1 < 3660 := by
    have := hR.2.1
    omega
  -- the same of both
  have h12 : G 124 u = 1 ↔ G 80 (6 * w) = 2 := by
    rcases w3 with ⟨a1, a2, _⟩ | ⟨a1, a2, _⟩ | ⟨a1, a2, _⟩ | ⟨a1, a2, _⟩ | ⟨a1, a2, _⟩ <;> rw [a1, a2] <;> decide
  have ha := h.2.2.2.2.1
  have hx := na_x h (by decide)
  have hao := aU_pass (c := u) ha (na_nl h (by decide))
  have h41 : G 84 15 = 1 ↔ G 46 41 = 2 := by
    rcases ha with ⟨a1, a2, _⟩ | ⟨a1, a2, _⟩ | ⟨a1, a2, _⟩ | ⟨a1, a2, _⟩ <;> rw [a1, a2] <;> decide
  by_cases c : G 84 15 = 1 ∧ G 124 u = 1
  · have s1 := i_bla_y (cat f1 p1 c1.2.2 c1.1) c.1 c.2
    have hX := hX_21_1 hh h67 w2 hw6 (h41.mp c.1) (h12.mp c.2)
    have hw : G 122 u = G 80 (6 * w + 1) ∧ isnum (G 80 (6 * w + 1)) := by
      rcases w3 with ⟨a1, _⟩ | ⟨_, _, a3, a4, _⟩ | ⟨a1, _⟩ | ⟨a1, _⟩ | ⟨a1, _⟩
      · rw [c.2] at a1; exact absurd a1 (by decide)
      · exact ⟨a3, by rw [← a3]; exact a4⟩
      · rw [c.2] at a1; exact absurd a1 (by decide)
      · rw [c.2] at a1; exact absurd a1 (by decide)
      · rw [c.2] at a1; exact absurd a1 (by decide)
    have hst := st_fr (Gc := gu (gu G 116 u (nI (e + 7 + 1))) 84 17 (G 122 u)) (Gr := gu (gu G 46 57 (G 65 (z 6 u))) 46 44 (G 80 (6 * w + 1))) (sp' := sp) (fp' := 0) hs (ag3 (by decide) (ag1 hu (by decide) agw_rfl)) (ag4 (by decide) (ag4 (by decide) agw_rfl)) ⟨rfl, rfl, rfl, rfl, rfl⟩ (Nat.le_refl _) (Nat.le_refl _)
    refine f_out (p := e + 8) (t := 1) clo_rS hst hx (cT_1 s1) (by decide) (by rw [gu_oo _ (by decide), gu_kk]) ⟨c2.1, c2.2.2⟩ hX rfl ?_ h.2.2.2.1 (kp_gu (by unfold kpc; omega) (kp_gu (by unfold kpc; omega) kp_rfl)) (kp_gu (by unfold kpc; omega) (kp_gu (by unfold kpc; omega) kp_rfl))
    rcases ha with ⟨a1, a2, a3, a4, a5, d, t, a6, a7, a8, a9, a10, a11⟩ | ⟨a1, _⟩ | ⟨a1, _⟩ | ⟨a1, _⟩
    · exact Or.inr (Or.inl ⟨a1, a2, a3, a4, Or.inr ⟨hw.2, hw.1⟩, d, t, a6, a7, a8, a9, a10, Or.inl a11⟩)
    · rw [c.1] at a1; exact absurd a1 (by decide)
    · rw [c.1] at a1; exact absurd a1 (by decide)
    · rw [c.1] at a1; exact absurd a1 (by decide)
  · have s1 := i_bla_n (cat f1 p1 c1.2.2 c1.1) c
    have hX := hX_21_p hh h67 w2 hw6 (fun q => c ⟨h41.mpr q.1, h12.mpr q.2⟩)
    have hst := st_fr (Gc := gu G 116 u (nI (e + 7 + 1))) (Gr := gu G 46 57 (G 65 (z 6 u))) (sp' := sp) (fp' := 0) hs (ag1 hu (by decide) agw_rfl) (ag4 (by decide) agw_rfl) ⟨rfl, rfl, rfl, rfl, rfl⟩ (Nat.le_refl _) (Nat.le_refl _)
    exact f_out (p := e + 8) (t := 1) clo_rS hst hx (cT_1 s1) (by decide) (by rw [gu_kk]) ⟨c2.1, c2.2.2⟩ hX rfl hao h.2.2.2.1 (kp_gu (by unfold kpc; omega) kp_rfl) (kp_gu (by unfold kpc; omega) kp_rfl)
