/-! EVENTS, the class's side (Gc) and the reference's side (Gr) apart -/
theorem eqc_mx {Gc Gr : Gt} : eqc Gc (mxw Gc Gr) := by
  intro k hk
  show cond (isR k) (Gr k) (Gc k) = _
  simp only [hk, cond_false]
theorem eqr_mx {Gc Gr : Gt} : eqr Gr (mxw Gc Gr) := by
  intro k hk
  show cond (isR k) (Gr k) (Gc k) = _
  simp only [hk, cond_true]
theorem agw_mx {z : Zt} {G Gc Gr : Gt} (hc : agw z G Gc) (hr : agw z G Gr) : agw z G (mxw Gc Gr) := by
  intro k j hk
  unfold mxw
  cases isR k
  · exact hc k j hk
  · exact hr k j hk
theorem kp_mx {G Gc Gr : Gt} (hc : kp G Gc) (hr : kp G Gr) : kp G (mxw Gc Gr) := by
  intro k j hk
  unfold mxw
  cases isR k
  · exact hc k j hk
  · exact hr k j hk
theorem kp_agw {z : Zt} {G G' : Gt} (h : agw z G G') : kp G G' := by
  intro k j hk
  exact h k j (by unfold kpc at hk; unfold frw; omega)
theorem clo_rS {G : Gt} : clo (rS G) := fun _ _ h e => rS_r' h e
theorem ag1 {z : Zt} {G G' : Gt} {u k : Nat} {v : Int32} (hu : z 0 7 = u) (hk : k = 116 ∨ k = 118 ∨ k = 120 ∨ k = 122 ∨ k = 124 ∨ k = 126 ∨ k = 128) (h : agw z G G') : agw z G (gu G' k u v) := agw_gu (by unfold frw; omega) h
theorem ag2 {z : Zt} {G G' : Gt} {u k : Nat} {v : Int32} (hu : z 0 7 = u) (hk : k = 67 ∨ k = 68 ∨ k = 69) (h : agw z G G') : agw z G (gu G' k (z 6 u) v) := agw_gu (by unfold frw; rw [hu]; omega) h
theorem ag3 {z : Zt} {G G' : Gt} {j : Nat} {v : Int32} (hj : j = 12 ∨ (14 ≤ j ∧ j ≤ 19)) (h : agw z G G') : agw z G (gu G' 84 j v) := agw_gu (by unfold frw; omega) h
theorem ag4 {z : Zt} {G G' : Gt} {j : Nat} {v : Int32} (hj : (41 ≤ j ∧ j ≤ 46) ∨ j = 51 ∨ (54 ≤ j ∧ j ≤ 57)) (h : agw z G G') : agw z G (gu G' 46 j v) := agw_gu (by unfold frw; omega) h
/-- a frame of some kind goes on, calling nothing so far -/
def st (N B : Nat) (z : Zt) (G : Gt) (x : Nat → Int32) (sp fp u k e : Nat) : Prop := aST N B z G x sp fp ∧ z 0 7 = u ∧ u < z 0 0 ∧ z 11 u = 0 ∧ k < 40 ∧ e < 1081 ∧ G 47 (z 1 u) = nI k ∧ G 13 (z 1 u) = nI e
/-- where the class stands -/
def ct (G : Gt) (u : Nat) : Prop := G 84 7 = 1 ∧ G 84 12 = 0 ∧ G 84 11 = nI u ∧ u < 601
theorem cat {G : Gt} {u p w : Nat} (h : ct G u) (h116 : G 116 u = nI p) (hp : p < 1081) (h16 : G 16 p = nI w) : cAt G u p w := ⟨h.1, h.2.1, h.2.2.1, h.2.2.2, h116, hp, h16⟩
theorem st_u {N B : Nat} {z : Zt} {G G' : Gt} {x : Nat → Int32} {sp fp sp' fp' u k e : Nat} (h : st N B z G x sp fp u k e) (ha : agw z G G') (hs : G' 84 14 = G 84 14 ∧ G' 46 51 = G 46 51 ∧ G' 84 19 = G 84 19 ∧ G' 46 62 = G 46 62 ∧ G' 84 12 = G 84 12) (hsp : sp' ≤ sp) (hfp : fp' ≤ fp) : st N B z G' x sp' fp' u k e := by
  obtain ⟨⟨hS, hm, h6, h12, hFr⟩, hu, hn, hd, hk, he, h47, h13⟩ := h
  subst hu
  obtain ⟨s1, s2, s3, s4, s5⟩ := hs
  have hQ := hS.2.2.2.2.2.2.2.2.2.2.2.2.2.2.2.2.2.1
  have f1 := u_fr (G' := G') hS h6 hn ha hsp hfp (Or.inl hd) ⟨by rw [s1, s2]; exact hQ.2.2.2.2.2.2.2.2.2.2.2.1, by rw [s2]; exact hQ.2.2.2.2.2.2.2.2.2.2.2.2.1⟩ (by rw [s3, s4]; exact hQ.2.2.2.2.2.2.2.2.2.2.2.2.2.1)
  exact ⟨⟨f1.1, hm, h6, by rw [s5]; exact h12, hFr⟩, rfl, hn, hd, hk, he, by rw [ha 47 _ (by unfold frw; omega)]; exact h47, by rw [ha 13 _ (by unfold frw; omega)]; exact h13⟩
theorem st_fr {N B : Nat} {z : Zt} {G Gc Gr : Gt} {x : Nat → Int32} {sp fp sp' fp' u k e : Nat} (h : st N B z G x sp fp u k e) (hc : agw z G Gc) (hr : agw z G Gr) (hs : Gc 84 14 = G 84 14 ∧ Gr 46 51 = G 46 51 ∧ Gc 84 19 = G 84 19 ∧ Gr 46 62 = G 46 62 ∧ Gc 84 12 = G 84 12) (hsp : sp' ≤ sp) (hfp : fp' ≤ fp) : st N B z (mxw Gc Gr) x sp' fp' u k e :=
  st_u h (agw_mx hc hr) hs hsp hfp
theorem st_f {N B : Nat} {z : Zt} {G : Gt} {x : Nat → Int32} {sp fp u k e : Nat} (h : st N B z G x sp fp u k e) : ct G u ∧ z 1 u < N ∧ N ≤ 120 ∧ z 0 0 ≤ 600 ∧ z 6 u < 1220 ∧ G 64 (z 6 u) = nI (z 1 u) ∧ G 66 (z 6 u) = nI (z 5 u) ∧ z 5 u < z 0 2 ∧ G 112 u = nI (z 13 (z 5 u)) ∧ G 84 10 = nI (z 0 0) ∧ G 108 u = nI (z 1 u) ∧ z 0 3 ≤ 601 ∧ z 0 2 ≤ z 0 3 ∧ z 0 8 = z 0 0 := by
  obtain ⟨⟨hS, hm, h6, h12, hFr⟩, hu, hn, hd, hk, he, h47, h13⟩ := h
  obtain ⟨hP, hA, hB, hC, hD, hE, hF, hG, hH, hI, hJ, hK, hL, hM, hN, hO, hPg, hQ, hR, hS, hT, hU⟩ := hS
  obtain ⟨Q1, Q2, Q3, Q4, Q5, Q6, Q7, Q8, Q9, Q10, Q11, Q12, Q13, Q14, Q15, Q16, Q17, Q18, Q19, Q20, Q21, Q22, Q23, Q24, Q25⟩ := hQ
  have a1 := hA u (by omega)
  have a2 := hE u (by omega)
  have a3 := hB u (by omega)
  have a4 := hG.2.2 u (by omega)
  have r1 := hR.1
  refine ⟨⟨Q10, h12, by rw [Q9, hu], by omega⟩, a1.2, hP.1, by omega, by omega, a2.1, a2.2.1, a3.2, a3.1, Q7, a1.1, by omega, Q25, hm⟩
theorem st_code {N B : Nat} {z : Zt} {G : Gt} {x : Nat → Int32} {sp fp u k e : Nat} (h : st N B z G x sp fp u k e) {q : Nat} {w d : Int32} (hq : (codeOf (nI k) (G 48 (z 1 u)) (G 49 (z 1 u)) (G 50 (z 1 u)) (nI e))[q]? = some (w, d)) : G 16 (e + q) = w ∧ G 18 (e + q) = d ∧ e + q < 1081 :=
  code_at h.1.1.1 (st_f h).2.1 h.2.2.2.2.2.2.1 h.2.2.2.2.2.2.2 h.2.2.2.2.1 (by have := h.2.2.2.2.2.1; omega) hq
theorem sIM_x {N B : Nat} {z : Zt} {G : Gt} {x x' : Nat → Int32} {sp fp : Nat} (h : sIM N B z G x sp fp) (hx : ∀ o, o < 4 → x' o = x o) : sIM N B z G x' sp fp := by
  obtain ⟨q1, q2, q3, q4, q5, q6, q7, q8, q9, q10, q11, q12, q13, q14, q15, q16, q17, q18, q19, ⟨f, q20⟩, q21, q22⟩ := h
  exact ⟨q1, q2, q3, q4, q5, q6, q7, q8, q9, q10, q11, q12, q13, q14, q15, q16, q17, q18, q19, ⟨f, fun o ho => by rw [hx o ho]; exact q20 o ho⟩, q21, q22⟩
/-- .. it has a part begin -/
theorem f_do {N B : Nat} {z : Zt} {G Gc Gr : Gt} {Rr : Gt → Prop} {x : Nat → Int32} {sp u k e p y p' t : Nat} (hcl : clo Rr) (h : st N B z (mxw Gc Gr) x sp 0 u k e) (hx : ∀ o, o < 4 → x o = Gc 31 o) (hct : cT t G Gc) (ht : t ≤ 8) (h116 : Gc 116 u = nI p) (h16 : Gc 16 p = 41 ∧ Gc 18 p = nI y ∧ p < 1081) (hy : y < N) (hR : Rr (oAk (nI y) (nI (z 6 u)) (nI (z 5 u)) Gr)) (hk1 : kp G Gc) (hk2 : kp G Gr) (hp' : p' = 1 ∨ p' = 2) (hkP : kP k p') (hno : ¬ (k = 26 ∧ p' = 2))
    (hpl : p + 1 = e + plo k p' (cO (Gr 49 (z 1 u)) (Gr 50 (z 1 u))) ∨ (k = 10 ∧ p' = 2 ∧ p + 1 = e + 5)) (hla : Gc 118 u = (if lao k p' = 0 then 0 else nI (e + lao k p'))) (hxv : xV z (mxw Gc Gr) u k p') (h15 : Gc 84 15 = 0 := by first | rfl | assumption) : eW N B z G Rr := by
  obtain ⟨⟨f1, f2, f3, f4⟩, f5, f6, f7, f8, f9, f10, f11, f12, f13, f14, f15, f16, f17⟩ := st_f h
  obtain ⟨c1, c2, c3⟩ := h16
  have f12' : Gc 112 u = nI (z 13 (z 5 u)) := f12
  have hE : ∀ c j, kpc c j → (isR c = false) → Gc c j = G c j := fun c j hc _ => hk1 c j hc
  have h2 := st_u (G' := mxw (gu Gc 116 u (nI (p + 1))) Gr) (sp' := sp) (fp' := 0) h (by rw [← mxw_gC rfl]; exact ag1 h.2.1 (by decide) agw_rfl) ⟨rfl, rfl, rfl, rfl, rfl⟩ (Nat.le_refl _) (Nat.le_refl _)
  have hcs : cS Gc (oBg (z 0 0) (nI u) (nI y) (nI (z 13 (z 5 u))) 0 (G 13 y) (gu Gc 116 u (nI (p + 1)))) := by
    rw [← f12', ← hk1 13 y (by unfold kpc; omega)]
    exact i_do ⟨f1, f2, f3, f4, h116, c3, c1⟩ f13 (by omega) c2 (by omega)
  have hu := h.2.1
  have hqS := h2.1.1.2.2.2.2.2.2.2.2.2.2.2.2.2.2.2.2.2.2.2.1
  have hfA := h2.1.1.2.1
  have hfC := h2.1.1.2.2.2.1
  have hfx := fX_of hfA hfC (by omega)
  have g13 : (mxw (gu Gc 116 u (nI (p + 1))) Gr) 13 y = G 13 y := hk1 13 y (by unfold kpc; omega)
  have hne : ¬ z 0 7 = z 0 0 := by have := h.2.2.1; omega
  refine ev_dn (y := y) (s := z 5 u) (p' := p') (t := t + 1) (oi := z 22 u) (Gp := mxw (gu Gc 116 u (nI (p + 1))) Gr) (Gc := gu Gc 116 u (nI (p + 1))) (Gr := Gr) (xv := x) (sp := sp) (k := k) (e := e) hcl hu h.2.2.1 h.2.2.2.1 hy f11 hp' ?_ (by omega) hR eqc_mx eqr_mx (kp_mx (kp_gu (by unfold kpc; omega) hk1) hk2) h2.1 h.2.2.2.2.1 h.2.2.2.2.2.1 ?_ ?_ hkP ?_ ?_ ?_ ?_ ?_
  · have := cT_tr hct (cT_1 hcs)
    rw [Nat.add_comm] at this
    exact this
  · rw [← hk2 47 _ (by unfold kpc; omega)]; exact h.2.2.2.2.2.2.1
  · rw [← hk1 13 _ (by unfold kpc; omega)]; exact h.2.2.2.2.2.2.2
  · show (gu Gc 116 u (nI (p + 1))) 116 u = _ ∨ _
    rw [gu_kk, ← hk2 49 _ (by unfold kpc; omega), ← hk2 50 _ (by unfold kpc; omega)]
    rcases hpl with q | ⟨q1, q2, q3⟩
    · left; rw [q]
    · right
      refine ⟨q1, q2, ?_⟩
      show (gu Gc 116 u (nI (p + 1))) 116 u = _
      rw [gu_kk, q3]
  · exact hla
  · exact hxv
  · rw [if_neg hno]
  · obtain ⟨f, hf⟩ := hqS
    refine ⟨f, fun o ho => ?_⟩
    have h0 := hf o ho
    rw [hx o ho] at h0
    show oK _ _ o f (Gc 31 o) _
    have e1 : io z (z 0 7) = (if z 22 u = 0 then z 23 (z 8 u) else z 22 u) := by unfold io; rw [hu]
    rw [e1] at h0
    refine oK_ext (N := N) (z := z) (z' := zDn z y (z 5 u) p' (z 22 u)) (G := mxw (gu Gc 116 u (nI (p + 1))) Gr) (G' := oAk (nI y) (nI (z 6 u)) (nI (z 5 u)) (oBg (z 0 0) (nI u) (nI y) (nI (z 13 (z 5 u))) 0 (G 13 y) (mxw (gu Gc 116 u (nI (p + 1))) Gr))) (Nat.le_refl _) hfx.1 (fun i hi => ?_) (fun m _ => ⟨rfl, rfl⟩) f ?_ _ _ h0
    · have : ¬ i = z 0 0 := by omega
      simp [zDn, zu, this]
    · intro q q1 q2 q3 q4
      have n1 : ¬ q = z 0 0 := by omega
      have n2 : ¬ q = z 0 7 := by intro e; have := h2.1.2.2.1; rw [e] at q2; omega
      have n3 : ¬ z 8 q = z 0 0 := by have := hfx.2.2 q q1; omega
      refine ⟨?_, ?_, ?_, ?_⟩
      · simp [zDn, zu, n1, n2, q2]
      · simp [oAk, oBg, gu]
      · simp [io, zDn, zu, n1]
      · simp [zDn, zu]
/-- .. it ends with a value -/
theorem f_end {N B : Nat} {z : Zt} {G Gc Gr : Gt} {Rr : Gt → Prop} {x : Nat → Int32} {u k e p t : Nat} {v : Int32} (hcl : clo Rr) (h : st N B z (mxw Gc Gr) x 1 0 u k e) (hx : ∀ o, o < 4 → x o = Gc 31 o) (hct : cT t G Gc) (ht : t ≤ 9) (h116 : Gc 116 u = nI p) (h16 : Gc 16 p = 40 ∧ p < 1081) (hR : Rr (oEn v (Gr 65 (z 6 u)) Gr)) (h65 : Gr 65 (z 6 u) = G 65 (z 6 u)) (h15 : Gc 84 15 = 0) (hv1 : Gc 84 16 = v) (hv : vV z v) (hk1 : kp G Gc) (hk2 : kp G Gr) : eW N B z G Rr := by
  rw [h65] at hR
  obtain ⟨⟨hS, hm, h6, h12, hFr⟩, hu, hn, hd, hk, he, h47, h13⟩ := h
  have hS' : sIM N B z (mxw Gc Gr) ((mxw Gc Gr) 31) 1 0 := sIM_x hS (fun o ho => (hx o ho).symm)
  exact ev_end hcl ⟨hS', hm, h6, h12, hFr⟩ hu hn hct ht hR eqc_mx eqr_mx (kp_mx hk1 hk2) h65 h15 hv1 hv ⟨p, h16.2, h116, h16.1⟩
/-- .. it comes to an error -/
theorem f_err {N B : Nat} {z : Zt} {G Gc Gr : Gt} {Rr : Gt → Prop} {x : Nat → Int32} {sp u k e t : Nat} {er : Int32} (hcl : clo Rr) (h : st N B z (mxw Gc Gr) x sp 0 u k e) (hx : ∀ o, o < 4 → x o = Gc 31 o) (her : isnum er) (hct : cT t G (oFl u er Gc)) (ht : t ≤ 9) (hR : Rr (oFr (z 6 u) er Gr)) (hk1 : kp G Gc) (hk2 : kp G Gr) (h118 : Gc 118 u = 0) : eW N B z G Rr := by
  obtain ⟨ha, hu, hn, hd, hk, he, h47, h13⟩ := h
  exact ev_err hcl ha (fun o ho => hx o ho) hu hn hd her hct ht hR eqc_mx eqr_mx (kp_mx hk1 hk2) h118
