/-! .. the event -/
theorem gu_sf {G : Gt} {k j : Nat} {v : Int32} (h : G k j = v) : gu G k j v = G := by
  funext a b
  rw [gu_at]
  by_cases e : a = k ∧ b = j
  · rw [if_pos e, e.1, e.2, h]
  · rw [if_neg e]
theorem gu_gu {G : Gt} {k j : Nat} {v w : Int32} : gu (gu G k j v) k j w = gu G k j w := by
  funext a b
  rw [gu_at, gu_at, gu_at]
  by_cases e : a = k ∧ b = j
  · rw [if_pos e, if_pos e]
  · rw [if_neg e, if_neg e, if_neg e]
theorem oFr_51 {f : Nat} {er y : Int32} {G : Gt} : oFr f er (gu G 46 51 y) = gu (oFr f er G) 46 51 y := by
  unfold oFr
  rw [gu_comm (k := 46) (j := 51) (k' := 46) (j' := 41) (by decide), gu_comm (k := 46) (j := 51) (k' := 46) (j' := 42) (by decide), gu_comm (k := 46) (j := 51) (k' := 46) (j' := 44) (by decide), gu_comm (k := 46) (j := 51) (k' := 46) (j' := 45) (by decide), gu_comm (k := 46) (j := 51) (k' := 46) (j' := 46) (by decide), gu_comm (k := 46) (j := 51) (k' := 46) (j' := 57) (by decide)]
  rfl
theorem i_unh {G : Gt} {u p : Nat} (h : cAt G u p 60) : cS G (gu (gu G 116 u (nI (p + 1))) 84 14 0) := by
  refine cS_b h (by decide) (fun R K hk => ?_)
  exact pif_n (by decide) (pif_n (by decide) (pif_n (by decide) (pif_n (by decide) (pif_n (by decide) (pif_n (by decide) (pif_n (by decide) (pif_n (by decide) (pif_n (by decide) (pif_n (by decide) (pif_n (by decide) (pif_n (by decide) (pif_p (by decide) (ptc rfl hk)))))))))))))
theorem fw1 {z : Zt} {u c : Nat} (hu : z 0 7 = u) (hc : c = 116 ∨ c = 118 ∨ c = 120 ∨ c = 122 ∨ c = 124 ∨ c = 126 ∨ c = 128) : frw z c u := Or.inl ⟨hc, hu.symm⟩
theorem fw84 {z : Zt} {j : Nat} (hj : j = 12 ∨ (14 ≤ j ∧ j ≤ 19)) : frw z 84 j := Or.inr (Or.inr (Or.inl ⟨rfl, hj⟩))
theorem fw46 {z : Zt} {j : Nat} (hj : (41 ≤ j ∧ j ≤ 46) ∨ j = 51 ∨ (54 ≤ j ∧ j ≤ 57)) : frw z 46 j := Or.inr (Or.inr (Or.inr (Or.inl ⟨rfl, hj⟩)))
set_option maxRecDepth 100000 in
theorem er_h {N B : Nat} {z : Zt} {G M Mr : Gt} {Rr : Gt → Prop} {x : Nat → Int32} {sp u k e t : Nat} {er : Int32} (hcl : clo Rr) (h : st N B z (mxw M Mr) x sp 0 u k e) (hx : ∀ o, o < 4 → x o = M 31 o) (hk18 : k = 18 ∨ k = 29) (her : isnum er) (hct : cT t G (oFl u er M)) (ht : t ≤ 8) (hR : Rr (gu (oFr (z 6 u) er Mr) 46 51 (if k = 29 then 0 else Mr 46 51))) (hk1 : kp G M) (hk2 : kp G Mr) (h118 : M 118 u = if k = 29 then nI (e + 5) else 0) (c29 : k = 29 → M 16 (e + 5) = 60 ∧ M 16 (e + 6) = 40 ∧ e + 6 < 1081) : eW N B z G Rr := by
  rcases hk18 with rfl | rfl
  · rw [if_neg (by decide)] at hR h118
    rw [gu_sf (by rfl)] at hR
    exact f_err hcl h hx her hct (by omega) hR hk1 hk2 h118
  · rw [if_pos rfl] at hR h118
    obtain ⟨c5, c6, c7⟩ := c29 rfl
    obtain ⟨f1, f2, f3, f4, f5, f6, f7, f8, f9, f10, f11, f12, f13, f14⟩ := st_f h
    have hu := h.2.1
    have hun := h.2.2.1
    have s1 := i_unh (G := oFl u er M) (u := u) (p := e + 5) ⟨f1.1, f1.2.1, f1.2.2.1, f1.2.2.2, by unfold oFl; rw [gu_oo _ (by decide), gu_kk]; exact h118, by omega, c5⟩
    obtain ⟨d, d1, d2, d3, d4, d5⟩ := h.1.1.2.2.2.2.2.2.2.2.2.2.2.2.1.2
    have hE := (h.1.1.2.2.2.2.2.1 u hun).1
    have hst := st_w (G' := mxw (gu (gu (oFl u er M) 116 u (nI (e + 5 + 1))) 84 14 0) (gu (oFr (z 6 u) er Mr) 46 51 0)) (x' := x) h ?_ ⟨rfl, bz_0, (st_s h).2.2.1, (st_s h).2.2.2⟩ (fun _ _ q => q) ?_ (Or.inl (fun _ _ => rfl))
    · refine f_out (p := e + 6) (t := t + 1) hcl hst hx ?_ (by omega) (by rw [gu_oo _ (by decide), gu_kk]) ⟨c6, c7⟩ hR rfl (Or.inr (Or.inl ⟨rfl, rfl, rfl, her, Or.inl ⟨rfl, rfl⟩, u, d, hun, rfl, hE, d1, ?_, Or.inr rfl⟩)) (Or.inr rfl) ?_ ?_
      · have := cT_tr hct (cT_1 s1)
        rw [Nat.add_comm] at this; exact this
      · have e1 : (mxw (gu (gu (oFl u er M) 116 u (nI (e + 5 + 1))) 84 14 0) (gu (oFr (z 6 u) er Mr) 46 51 0)) 120 u = M 84 13 := by
          rw [mx_C rfl, gu_oo _ (by decide), gu_oo _ (by decide)]
          unfold oFl
          rw [gu_oo _ (by decide), gu_oo _ (by decide), gu_kk]
        rw [e1]
        exact d5
      · unfold oFl
        repeat (refine kp_gu (by unfold kpc; omega) ?_)
        exact hk1
      · unfold oFr
        repeat (refine kp_gu (by unfold kpc; omega) ?_)
        exact hk2
    · refine agr_agw (agp_mx (P := frw z) ?_ ?_)
      · unfold oFl
        exact agp_gu (fw84 (by decide)) (agp_gu (fw1 hu (by decide)) (agp_gu (fw1 hu (by decide)) (agp_gu (fw1 hu (by decide)) (agp_gu (fw1 hu (by decide)) (agp_gu (fw84 (by decide)) (agp_gu (fw84 (by decide)) (agp_gu (fw84 (by decide)) (agp_gu (fw84 (by decide)) agp_rfl))))))))
      · unfold oFr
        exact agp_gu (fw46 (by decide)) (agp_gu (fw46 (by decide)) (agp_gu (fw46 (by decide)) (agp_gu (fw46 (by decide)) (agp_gu (fw46 (by decide)) (agp_gu (fw46 (by decide)) (agp_gu (fw46 (by decide)) agp_rfl))))))
    · have q := st_qU h
      exact q
/-- the body of a slot is entered -/
theorem ent_ev {N B : Nat} {z : Zt} {G M Mr : Gt} {Rr : Gt → Prop} {x : Nat → Int32} {sp u k e l s q t : Nat} (hcl : clo Rr) (h : st N B z (mxw M Mr) x sp 0 u k e) (hx : ∀ o, o < 4 → x o = M 31 o) (hk18 : k = 18 ∨ k = 29) (hl : l < 6) (hs : s < z 0 2) (h54 : ¬ Mr 54 l = -1) (hq : q + 1 = e + plo k 4 (cO (Mr 49 (z 1 u)) (Mr 50 (z 1 u)))) (h116 : M 116 u = nI q) (c58 : M 16 q = 58 ∧ q < 1081) (h124 : M 124 u = nI (z 13 s)) (h126 : M 126 u = nI l) (h69 : Mr 69 (z 6 u) = nI s) (h29 : k = 29 → M 122 u = Mr 68 (z 6 u) ∧ isnum (M 122 u)) (hct : cT t G M) (ht : t ≤ 7)
    (hR : ∀ H, (∀ (C : Gt) (K : Gt → Prop), K (mxw C H) → w_X11_enters K (nI (z 6 u)) (nI l) (mxw C Mr)) → Rr H) (hk1 : kp G M) (hk2 : kp G Mr) (h118 : M 118 u = if k = 29 then nI (e + 5) else 0) (c29 : k = 29 → M 16 (e + 5) = 60 ∧ M 16 (e + 6) = 40 ∧ e + 6 < 1081) (h15 : M 84 15 = 0 := by first | rfl | assumption) : eW N B z G Rr := by
  obtain ⟨f1, f2, f3, f4, f5, f6, f7, f8, f9, f10, f11, f12, f13, f14⟩ := st_f h
  have hu := h.2.1
  have hun := h.2.2.1
  have hk := h.2.2.2.2.1
  have h47 := h.2.2.2.2.2.2.1
  obtain ⟨d, d1, d2, d3, d4⟩ := qL_d h
  have hQ := h.1.1.2.2.2.2.2.2.2.2.2.2.2.2.2.2.2.2.2.1
  have hFr := h.1.2.2.2.2
  have s13 := st_13 h s hs
  obtain ⟨h35, h35'⟩ := (st_qU h).2.2.1.1 l hl
  obtain ⟨y, hy, ey⟩ : ∃ j, j < N ∧ (mxw M Mr) 54 l = nI j := by
    rcases h35' with q | q
    · exact absurd q h54
    · exact q
  have e35 : M 35 l = nI y := h35.trans ey
  have s1 := i_ent (G := M) (u := u) (p := q) (l := l) (y := y) (S := z 13 s) (d := d) (n := z 0 0) (cat f1 h116 c58.2 c58.1) h126 hl e35 (by omega) h124 d3 d1 f10 (by omega) rfl
  have hr := hR _ (fun C K hk' => r_enters (F := z 0 1) f5 hl f6 (by omega) h47 hk (st_s h).2.1 ey h69 d4 d1 hQ.2.2.2.2.2.2.2.2.2.2.2.2.2.2.2.2.1 (by omega) rfl hk')
  by_cases c : d = 12
  · rw [if_pos c] at s1 hr
    have t0 := st_u (G' := mxw (gu M 116 u (nI (q + 1))) Mr) (sp' := sp) (fp' := 0) h (by rw [← mxw_gC rfl]; exact ag1 hu (by decide) agw_rfl) ⟨rfl, rfl, rfl, rfl, rfl⟩ (Nat.le_refl _) (Nat.le_refl _)
    refine er_h (t := t + 1) hcl t0 hx hk18 (by unfold isnum; decide) ?_ (by omega) hr (kp_gu (by unfold kpc; omega) hk1) hk2 ?_ c29
    · have := cT_tr hct (cT_1 s1)
      rw [Nat.add_comm] at this; exact this
    · rw [gu_oo _ (by decide)]; exact h118
  · rw [if_neg c] at s1 hr
    have t0 := st_u (G' := mxw (gu M 116 u (nI (q + 1))) Mr) (sp' := sp) (fp' := 0) h (by rw [← mxw_gC rfl]; exact ag1 hu (by decide) agw_rfl) ⟨rfl, rfl, rfl, rfl, rfl⟩ (Nat.le_refl _) (Nat.le_refl _)
    have hp := pu_fn (z := z) (Gc := gu M 116 u (nI (q + 1))) (Gr := Mr) (x := y) (s := s) (d := d) d2 (by omega) (by omega)
    rw [hu] at hp
    refine f_call (b := 3) (p' := 4) (t := t + 1) hcl t0 hx hy hs (by decide) hp ?_ (by omega) hr ?_ ?_ rfl (by unfold kP; omega) ?_ ?_ (xV_c4 (by omega) h29)
    · have := cT_tr hct (cT_1 s1)
      rw [Nat.add_comm] at this; exact this
    · unfold oNc
      exact kp_bg (kp_gu (by unfold kpc; omega) (kp_gu (by unfold kpc; omega) (kp_gu (by unfold kpc; omega) (kp_gu (by unfold kpc; omega) hk1))))
    · unfold oCl oLa
      exact kp_ak (kp_gu (by unfold kpc; omega) (kp_gu (by unfold kpc; omega) (kp_gu (by unfold kpc; omega) (kp_gu (by unfold kpc; omega) (kp_gu (by unfold kpc; omega) (kp_gu (by unfold kpc; omega) (kp_gu (by unfold kpc; omega) (kp_gu (by unfold kpc; omega) hk2))))))))
    · rw [gu_kk, hq]
    · rw [gu_oo _ (by decide), h118]
      rcases hk18 with rfl | rfl <;> rfl
theorem st_cq {N B : Nat} {z : Zt} {Gc Gr : Gt} {x : Nat → Int32} {sp u k e l pr : Nat} {f1 : Int32} (h : st N B z (mxw Gc Gr) x (sp + 1) 0 u k e) (hv : vV z f1) : st N B (zSc z) (mxw (cqc (z 0 3) u l f1 pr Gc) (cqr (z 0 2) (z 6 u) f1 pr Gr)) x sp 0 u k e := by
  have hu := h.2.1
  have t1 := st_sc (oc := -1) (or' := -1) h (Or.inl ⟨rfl, rfl⟩)
  have t2 := st_u (z := zSc z) (G' := gu (gu (gu (oOp (z 0 3) (-1) (oOr (z 0 2) (-1) (mxw Gc Gr))) 124 u (nI (z 0 3))) 126 u (nI l)) 69 (z 6 u) (nI (z 0 2))) (sp' := sp) (fp' := 0) t1 (ag2 (z := zSc z) hu (by decide) (ag1 (z := zSc z) hu (by decide) (ag1 (z := zSc z) hu (by decide) agw_rfl))) ⟨rfl, rfl, rfl, rfl, rfl⟩ (Nat.le_refl _) (Nat.le_refl _)
  have em : gu (gu (gu (oOp (z 0 3) (-1) (oOr (z 0 2) (-1) (mxw Gc Gr))) 124 u (nI (z 0 3))) 126 u (nI l)) 69 (z 6 u) (nI (z 0 2)) = mxw (gu (gu (oOp (z 0 3) (-1) Gc) 124 u (nI (z 0 3))) 126 u (nI l)) (gu (oOr (z 0 2) (-1) Gr) 69 (z 6 u) (nI (z 0 2))) := by
    rw [← mxw_gR rfl, ← mxw_gC rfl, ← mxw_gC rfl, mxw_op, mxw_or]
  rw [em] at t2
  unfold cqc cqr
  by_cases c : pr = 0
  · rw [if_pos c, if_pos c]; exact t2
  · rw [if_neg c, if_neg c]
    have t3 := st_bn (s := z 0 2) (j := 0) (v := f1) t2 (Nat.lt_succ_self _) (by decide) hv
    rw [zSc_n, mxw_gC rfl, mxw_gR rfl] at t3
    exact t3
theorem cqc_n {S u l pr k j : Nat} {f1 : Int32} {G : Gt} (h : ¬ k = 133 ∧ ¬ k = 131 ∧ ¬ k = 129) (h2 : ¬ k = 124 ∧ ¬ k = 126) : (cqc S u l f1 pr G) k j = G k j := by
  unfold cqc
  split
  · rw [gu_oo _ h2.2, gu_oo _ h2.1, op_n h]
  · rw [gu_oo _ h.1, gu_oo _ h2.2, gu_oo _ h2.1, op_n h]
theorem cqc_v {S u l pr : Nat} {f1 : Int32} {G : Gt} : (cqc S u l f1 pr G) 124 u = nI S ∧ (cqc S u l f1 pr G) 126 u = nI l := by
  unfold cqc
  split
  · exact ⟨by rw [gu_oo _ (by decide), gu_kk], by rw [gu_kk]⟩
  · exact ⟨by rw [gu_oo _ (by decide), gu_oo _ (by decide), gu_kk], by rw [gu_oo _ (by decide), gu_kk]⟩
theorem cqr_n {s f pr k j : Nat} {f1 : Int32} {G : Gt} (h : ¬ k = 72 ∧ ¬ k = 71 ∧ ¬ (k = 46 ∧ j = 29)) (h2 : ¬ k = 69) : (cqr s f f1 pr G) k j = G k j := by
  unfold cqr
  split
  · rw [gu_oo _ h2, or_n h]
  · rw [gu_oo _ h.1, gu_oo _ h2, or_n h]
theorem cqr_m {s f pr k j : Nat} {f1 : Int32} {G : Gt} (h : ¬ k = 72 ∧ ¬ k = 71 ∧ ¬ k = 46 ∧ ¬ k = 69) : (cqr s f f1 pr G) k j = G k j := cqr_n ⟨h.1, h.2.1, fun q => h.2.2.1 q.1⟩ h.2.2.2
theorem cqr_v {s f pr : Nat} {f1 : Int32} {G : Gt} : (cqr s f f1 pr G) 69 f = nI s := by
  unfold cqr
  split
  · rw [gu_kk]
  · rw [gu_oo _ (by decide), gu_kk]
theorem cqr_e {s f : Nat} {f1 : Int32} {G : Gt} : (cqr s f f1 2 G) 72 (8 * s + 1) = -100000 := by
  unfold cqr
  rw [if_neg (by decide), gu_ko _ (by omega), gu_oo _ (by decide)]
  unfold oOr
  rw [if_pos rfl, if_pos (by omega)]
theorem kp_cqc {S u l pr : Nat} {f1 : Int32} {G G0 : Gt} (h : kp G0 G) : kp G0 (cqc S u l f1 pr G) := by
  unfold cqc
  split
  · exact kp_gu (by unfold kpc; omega) (kp_gu (by unfold kpc; omega) (kp_op h))
  · exact kp_gu (by unfold kpc; omega) (kp_gu (by unfold kpc; omega) (kp_gu (by unfold kpc; omega) (kp_op h)))
theorem kp_cqr {s f pr : Nat} {f1 : Int32} {G G0 : Gt} (h : kp G0 G) : kp G0 (cqr s f f1 pr G) := by
  unfold cqr
  split
  · exact kp_gu (by unfold kpc; omega) (kp_or h)
  · exact kp_gu (by unfold kpc; omega) (kp_gu (by unfold kpc; omega) (kp_or h))
/-- a slot is called, by CALL or INSERT -/
theorem call_ev {N B : Nat} {z : Zt} {G Gc Gr : Gt} {Rr : Gt → Prop} {x : Nat → Int32} {u k e l a P t : Nat} {fst snd : Int32} (hcl : clo Rr) (h : st N B z (mxw Gc Gr) x 1 0 u k e) (hx : ∀ o, o < 4 → x o = Gc 31 o) (hk18 : k = 18 ∨ k = 29) (hl : l < 6) (ha : a ≤ 2) (hPl : P = e + plo k 3 (cO (Gr 49 (z 1 u)) (Gr 50 (z 1 u)))) (h116 : Gc 116 u = nI P) (c57 : Gc 16 P = 57) (c58 : Gc 16 (P + 1) = 58 ∧ P + 1 < 1081) (h118 : Gc 118 u = if k = 29 then nI (e + 5) else 0) (c29 : k = 29 → Gc 16 (e + 5) = 60 ∧ Gc 16 (e + 6) = 40 ∧ e + 6 < 1081) (h48 : k = 18 → Gr 48 (z 1 u) = nI l) (h67 : k = 29 → Gr 67 (z 6 u) = nI (10 + l)) (h29 : k = 29 → Gc 122 u = Gr 68 (z 6 u) ∧ isnum (Gc 122 u))
    (hf1 : (if a = 2 then Gc 122 u else if a = 1 then Gc 84 16 else 0) = (if a = 0 then 0 else fst)) (hfv : vV z (if a = 0 then 0 else fst)) (hsnd : a = 2 → Gc 84 16 = snd ∧ vV z snd) (hpre : ∀ X, (∀ (R : Gt) (K : Gt → Prop), K (mxw X R) → w_X2_invoke K (nI l) (nI a) (mxw Gc R)) → cT t G X) (ht : t ≤ 4)
    (hR : ∀ H, (∀ (C : Gt) (K : Gt → Prop), K (mxw C H) → w_X11_callsSlot K (nI (z 6 u)) (nI l) (nI a) fst snd (mxw C Gr)) → Rr H) (hk1 : kp G Gc) (hk2 : kp G Gr) (h15 : Gc 84 15 = 0 := by first | rfl | assumption) : eW N B z G Rr := by
  obtain ⟨f1, f2, f3, f4, f5, f6, f7, f8, f9, f10, f11, f12, f13, f14⟩ := st_f h
  have hu := h.2.1
  have hun := h.2.2.1
  have hk := h.2.2.2.2.1
  have h47 := h.2.2.2.2.2.2.1
  obtain ⟨hP, hA, hB, hC, hD, hE, hF, hG, hH, hI, hJ, hK, hL, hM, hN, hO, hPg, hQ, hR', hS, hT, hU⟩ := h.1.1
  obtain ⟨Q1, Q2, Q3, Q4, Q5, Q6, Q7, Q8, Q9, Q10, Q11, Q12, Q13, Q14, Q15, Q16, Q17, Q18, Q19, Q20, Q21, Q22, Q23, Q24, Q25⟩ := hQ
  have hR1 := hR'.1
  have hR2 := hR'.2.1
  have hR3 := hR'.2.2.1
  obtain ⟨h35, h35'⟩ := hU.2.2.1.1 l hl
  obtain ⟨h37, ⟨pr, hpr, epr⟩, h39, h39'⟩ := hU.2.2.2.1 l hl
  have e37 : Gc 37 l = nI pr := h37.trans epr
  have hbz := (st_s h).2.1
  have hFr := h.1.2.2.2.2
  by_cases ce : (Gr 54 l = -1) ∨ pr < a
  · -- it can't be called
    have hex : ∃ er : Int32, isnum er ∧ ((Gc 35 l = -1 ∧ er = -1) ∨ (¬ Gc 35 l = -1 ∧ pr < a ∧ er = -3)) ∧ ((Gr 54 l = -1 ∧ er = -1) ∨ (¬ Gr 54 l = -1 ∧ pr < a ∧ er = -3)) := by
      have e35 : Gc 35 l = Gr 54 l := h35
      by_cases c1 : Gr 54 l = -1
      · exact ⟨-1, by unfold isnum; decide, Or.inl ⟨e35.trans c1, rfl⟩, Or.inl ⟨c1, rfl⟩⟩
      · rcases ce with q | q
        · exact absurd q c1
        · exact ⟨-3, by unfold isnum; decide, Or.inr ⟨fun y => c1 (e35.symm.trans y), q, rfl⟩, Or.inr ⟨c1, q, rfl⟩⟩
    obtain ⟨er, her, ea, eb⟩ := hex
    have s1 := hpre (oFl u er Gc) (fun R K hk' => k_inv_n f1.2.2.1 f1.2.2.2 hl ha e37 (by omega) ea hk')
    have hr := hR _ (fun C K hk' => r_cs_n f5 hl ha epr (by omega) f6 (by omega) h47 hk hbz eb hk')
    rw [oFr_51] at hr
    exact er_h hcl h hx hk18 her s1 (by omega) hr hk1 hk2 h118 c29
  · have h54 : ¬ Gr 54 l = -1 := fun q => ce (Or.inl q)
    have hap : a ≤ pr := Nat.le_of_not_lt (fun q => ce (Or.inr q))
    have e35 : ¬ Gc 35 l = -1 := fun q => h54 (h35.symm.trans q)
    have t1 := st_cq (l := l) (pr := pr) h hfv
    refine eW_z (z' := zSc z) (mu_eq rfl rfl) ?_
    have z6 : (zSc z) 6 u = z 6 u := rfl
    have e39 : Gc 39 l = Gr 55 l := h39
    have hG39 : Gc 39 l = -1 ∨ ∃ y, y < 120 ∧ Gc 39 l = nI y := by
      rcases h39' with q | ⟨y, hy, q⟩
      · exact Or.inl (h39.trans q)
      · exact Or.inr ⟨y, by omega, h39.trans q⟩
    have hx1 : ∀ o, o < 4 → x o = (cqc (z 0 3) u l (if a = 0 then 0 else fst) pr Gc) 31 o := fun o ho => by rw [cqc_n (by decide) (by decide)]; exact hx o ho
    have hs1e : (if a = 2 then Gc 84 16 else 0) = (if a = 2 then snd else 0) := by
      by_cases c : a = 2
      · rw [if_pos c, if_pos c]; exact (hsnd c).1
      · rw [if_neg c, if_neg c]
    have hs1v : vV z (if a = 2 then Gc 84 16 else 0) := by
      by_cases c : a = 2
      · rw [if_pos c, (hsnd c).1]; exact (hsnd c).2
      · rw [if_neg c]; exact Or.inl (by unfold isnum; decide)
    by_cases cs : pr = 2 ∧ a < 2 ∧ ¬ Gc 39 l = -1
    · -- its standard
      obtain ⟨c1, c2, c3⟩ := cs
      subst c1
      obtain ⟨y, hy, ey⟩ : ∃ y, y < N ∧ Gr 55 l = nI y := by
        rcases h39' with q | q
        · exact absurd (h39.trans q) c3
        · exact q
      have s1 := hpre (oBg (z 0 0) (nI u) (nI y) (nI (z 0 3)) 2 (Gc 13 y) (cqc (z 0 3) u l (if a = 0 then 0 else fst) 2 Gc)) (fun R K hk' => k_inv (S := z 0 3) (n := z 0 0) f1.2.2.1 f1.2.2.2 hl ha e35 e37 (by omega) hap Q19 (by omega) f10 (by omega) hf1.symm (fun y' _ _ h3 h4 => by
        have : y' = y := (nI_eq (by omega) (by omega)).mp (h3.symm.trans (e39.trans ey))
        rw [this]; exact hk') hG39 (fun q => absurd ⟨rfl, c2, c3⟩ q))
      have hr := hR _ (fun C K hk' => r_cs_y (s := z 0 2) (F := z 0 1) (pr := 2) f5 hl ha h54 epr (by omega) hap Q18 (by omega) Q17 (by omega) rfl rfl (fun _ _ _ => hk') (fun q => absurd ⟨rfl, c2, fun y => c3 (h39.trans y)⟩ q))
      rw [gu_gu, gu_sf cqr_e, ey] at hr
      have hp := pu_sd (z := zSc z) (Gc := cqc (z 0 3) u l (if a = 0 then 0 else fst) 2 Gc) (Gr := cqr (z 0 2) (z 6 u) (if a = 0 then 0 else fst) 2 Gr) (x := y) (s := z 0 2)
      rw [zSc_n, show (zSc z) 0 7 = u from hu] at hp
      have e13 : (cqc (z 0 3) u l (if a = 0 then 0 else fst) 2 Gc) 13 y = Gc 13 y := cqc_n (by decide) (by decide)
      rw [e13] at hp
      refine f_call (b := 2) (p' := 3) (t := t) hcl t1 hx1 hy (Nat.lt_succ_self _) (Nat.le_refl _) hp s1 (by omega) hr (kp_bg (kp_cqc hk1)) ?_ rfl (by unfold kP; omega) ?_ ?_ ?_
      · unfold oLa
        exact kp_ak (kp_gu (by unfold kpc; omega) (kp_gu (by unfold kpc; omega) (kp_gu (by unfold kpc; omega) (kp_gu (by unfold kpc; omega) (kp_gu (by unfold kpc; omega) (kp_cqr hk2))))))
      · rw [cqc_n (by decide) (by decide), cqr_m (by decide), cqr_m (by decide), h116, hPl]; rfl
      · rw [cqc_n (by decide) (by decide), h118]
        rcases hk18 with rfl | rfl <;> rfl
      · refine xV_c3 (s := z 0 2) (l := l) hk18 (Nat.lt_succ_self _) hl ?_ ?_ ?_ ?_ (fun q => ?_) (fun q => ?_) (fun q => ?_)
        · rw [zSc_n, mx_C rfl]; exact cqc_v.1
        · rw [mx_R rfl]; exact cqr_v
        · rw [mx_C rfl]; exact cqc_v.2
        · rw [mx_R rfl, cqr_m (by decide)]; exact h54
        · rw [mx_R rfl, cqr_m (by decide)]; exact h48 q
        · rw [mx_R rfl, cqr_m (by decide)]; exact h67 q
        · rw [mx_C rfl, mx_R rfl, cqr_m (by decide), cqc_n (by decide) (by decide)]; exact h29 q
    · -- it goes on
      have c39 : ¬ (pr = 2 ∧ a < 2 ∧ ¬ Gr 55 l = -1) := fun q => cs ⟨q.1, q.2.1, fun y => q.2.2 (e39.symm.trans y)⟩
      have s1 := hpre (oIv u pr a (cqc (z 0 3) u l (if a = 0 then 0 else fst) pr Gc)) (fun R K hk' => k_inv (S := z 0 3) (n := z 0 0) f1.2.2.1 f1.2.2.2 hl ha e35 e37 (by omega) hap Q19 (by omega) f10 (by omega) hf1.symm (fun y' h1 h2 h3 h4 => absurd ⟨h1, h2, by rw [h3]; exact nI_neg (by omega)⟩ cs) hG39 (fun q => hk'))
      have hrr : ∀ H, (∀ (C : Gt) (K : Gt → Prop), K (mxw C H) → w_X11_enters K (nI (z 6 u)) (nI l) (mxw C (if pr = 2 then gu (cqr (z 0 2) (z 6 u) (if a = 0 then 0 else fst) pr Gr) 72 (8 * z 0 2 + 1) (if a = 2 then snd else 0) else cqr (z 0 2) (z 6 u) (if a = 0 then 0 else fst) pr Gr))) → Rr H := fun H hH => hR H (fun C K hk' => r_cs_y (s := z 0 2) (F := z 0 1) f5 hl ha h54 epr (by omega) hap Q18 (by omega) Q17 (by omega) rfl rfl (fun h1 h2 h3 => absurd ⟨h1, h2, h3⟩ c39) (fun _ => hH C K hk'))
      have h84 : (cqc (z 0 3) u l (if a = 0 then 0 else fst) pr Gc) 84 16 = Gc 84 16 := cqc_n (by decide) (by decide)
      have h116' : (cqc (z 0 3) u l (if a = 0 then 0 else fst) pr Gc) 116 u = nI P := (cqc_n (by decide) (by decide)).trans h116
      have hpl : P + 1 + 1 = e + plo k 4 (cO (Gr 49 (z 1 u)) (Gr 50 (z 1 u))) := by
        rw [hPl]
        rcases hk18 with rfl | rfl
        · show e + (cO (Gr 49 (z 1 u)) (Gr 50 (z 1 u)) + 1) + 1 + 1 = e + (cO (Gr 49 (z 1 u)) (Gr 50 (z 1 u)) + 3)
          omega
        · rfl
      by_cases c2 : pr = 2
      · subst c2
        have eI : oIv u 2 a (cqc (z 0 3) u l (if a = 0 then 0 else fst) 2 Gc) = gu (cqc (z 0 3) u l (if a = 0 then 0 else fst) 2 Gc) 84 16 (if a = 2 then Gc 84 16 else 0) := by
          unfold oIv; rw [if_pos (Nat.le_refl _), h84]
        rw [eI] at s1
        have s2 := i_par (G := gu (cqc (z 0 3) u l (if a = 0 then 0 else fst) 2 Gc) 84 16 (if a = 2 then Gc 84 16 else 0)) (u := u) (p := P) (S := z 0 3) (cat ⟨?_, ?_, ?_, f1.2.2.2⟩ h116' (by omega) ?_) ((gu_oo _ (by decide)).trans cqc_v.1) (by omega)
        · rw [gu_kk] at s2
          have t2 := st_u (z := zSc z) (G' := gu (gu (mxw (cqc (z 0 3) u l (if a = 0 then 0 else fst) 2 Gc) (cqr (z 0 2) (z 6 u) (if a = 0 then 0 else fst) 2 Gr)) 84 16 (if a = 2 then Gc 84 16 else 0)) 116 u (nI (P + 1))) (sp' := 0) (fp' := 0) t1 (ag1 (z := zSc z) hu (by decide) (ag3 (by decide) agw_rfl)) ⟨rfl, rfl, rfl, rfl, rfl⟩ (Nat.le_refl _) (Nat.le_refl _)
          have t3 := st_bn (s := z 0 2) (j := 1) (v := if a = 2 then Gc 84 16 else 0) t2 (Nat.lt_succ_self _) (by decide) hs1v
          rw [zSc_n, mxw_gC rfl, mxw_gC rfl, mxw_gC rfl, mxw_gR rfl] at t3
          have hrr' := hrr
          rw [if_pos rfl, ← hs1e] at hrr'
          refine ent_ev (q := P + 1) (l := l) (s := z 0 2) (t := t + 1) hcl t3 hx1 hk18 hl (Nat.lt_succ_self _) ?_ ?_ ?_ ⟨?_, c58.2⟩ ?_ ?_ ?_ ?_ ?_ (by omega) hrr' ?_ ?_ ?_ ?_
          · rw [gu_oo _ (by decide), cqr_m (by decide)]; exact h54
          · rw [gu_oo _ (by decide), gu_oo _ (by decide), cqr_m (by decide), cqr_m (by decide)]; exact hpl
          · rw [gu_oo _ (by decide), gu_kk]
          · rw [gu_oo _ (by decide), gu_oo _ (by decide), gu_oo _ (by decide), cqc_n (by decide) (by decide)]; exact c58.1
          · rw [zSc_n, gu_oo _ (by decide), gu_oo _ (by decide), gu_oo _ (by decide)]; exact cqc_v.1
          · rw [gu_oo _ (by decide), gu_oo _ (by decide), gu_oo _ (by decide)]; exact cqc_v.2
          · rw [gu_oo _ (by decide)]; exact cqr_v
          · intro q
            rw [gu_oo _ (by decide), gu_oo _ (by decide), gu_oo _ (by decide), gu_oo _ (by decide), cqr_m (by decide), cqc_n (by decide) (by decide)]; exact h29 q
          · have := cT_tr s1 (cT_1 s2)
            rw [Nat.add_comm] at this; exact this
          · exact kp_gu (by unfold kpc; omega) (kp_gu (by unfold kpc; omega) (kp_gu (by unfold kpc; omega) (kp_cqc hk1)))
          · exact kp_gu (by unfold kpc; omega) (kp_cqr hk2)
          · rw [gu_oo _ (by decide), gu_oo _ (by decide), gu_oo _ (by decide), cqc_n (by decide) (by decide)]; exact h118
          · intro q
            rw [gu_oo _ (by decide), gu_oo _ (by decide), gu_oo _ (by decide), gu_oo _ (by decide), gu_oo _ (by decide), gu_oo _ (by decide), cqc_n (by decide) (by decide), cqc_n (by decide) (by decide)]; exact c29 q
        · rw [gu_ko _ (by decide), cqc_n (by decide) (by decide)]; exact f1.1
        · rw [gu_ko _ (by decide), cqc_n (by decide) (by decide)]; exact f1.2.1
        · rw [gu_ko _ (by decide), cqc_n (by decide) (by decide)]; exact f1.2.2.1
        · rw [gu_oo _ (by decide), cqc_n (by decide) (by decide)]; exact c57
      · have eI : oIv u pr a (cqc (z 0 3) u l (if a = 0 then 0 else fst) pr Gc) = gu (gu (cqc (z 0 3) u l (if a = 0 then 0 else fst) pr Gc) 84 16 (if a = 2 then Gc 84 16 else 0)) 116 u (nI (P + 1)) := by
          unfold oIv; rw [if_neg (by omega), h84, h116', nI_1]
        rw [eI] at s1
        have t2 := st_u (z := zSc z) (G' := gu (gu (mxw (cqc (z 0 3) u l (if a = 0 then 0 else fst) pr Gc) (cqr (z 0 2) (z 6 u) (if a = 0 then 0 else fst) pr Gr)) 84 16 (if a = 2 then Gc 84 16 else 0)) 116 u (nI (P + 1))) (sp' := 0) (fp' := 0) t1 (ag1 (z := zSc z) hu (by decide) (ag3 (by decide) agw_rfl)) ⟨rfl, rfl, rfl, rfl, rfl⟩ (Nat.le_refl _) (Nat.le_refl _)
        rw [mxw_gC rfl, mxw_gC rfl] at t2
        have h15' : (cqc (z 0 3) u l (if a = 0 then 0 else fst) pr Gc) 84 15 = 0 := (cqc_n (by decide) (by decide)).trans h15
        have hrr' := hrr
        rw [if_neg c2] at hrr'
        refine ent_ev (q := P + 1) (l := l) (s := z 0 2) (t := t) hcl t2 hx1 hk18 hl (Nat.lt_succ_self _) ?_ ?_ ?_ ⟨?_, c58.2⟩ ?_ ?_ ?_ ?_ s1 (by omega) hrr' ?_ ?_ ?_ ?_
        · rw [cqr_m (by decide)]; exact h54
        · rw [cqr_m (by decide), cqr_m (by decide)]; exact hpl
        · rw [gu_kk]
        · rw [gu_oo _ (by decide), gu_oo _ (by decide), cqc_n (by decide) (by decide)]; exact c58.1
        · rw [zSc_n, gu_oo _ (by decide), gu_oo _ (by decide)]; exact cqc_v.1
        · rw [gu_oo _ (by decide), gu_oo _ (by decide)]; exact cqc_v.2
        · exact cqr_v
        · intro q
          rw [gu_oo _ (by decide), gu_oo _ (by decide), cqr_m (by decide), cqc_n (by decide) (by decide)]; exact h29 q
        · exact kp_gu (by unfold kpc; omega) (kp_gu (by unfold kpc; omega) (kp_cqc hk1))
        · exact kp_cqr hk2
        · rw [gu_oo _ (by decide), gu_oo _ (by decide), cqc_n (by decide) (by decide)]; exact h118
        · intro q
          rw [gu_oo _ (by decide), gu_oo _ (by decide), gu_oo _ (by decide), gu_oo _ (by decide), cqc_n (by decide) (by decide), cqc_n (by decide) (by decide)]; exact c29 q
