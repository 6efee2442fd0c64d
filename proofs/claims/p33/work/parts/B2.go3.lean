/-- .. it has a part begin, in some scope -/
theorem f_dog {N B : Nat} {z : Zt} {G Gc Gr : Gt} {Rr : Gt → Prop} {x : Nat → Int32} {sp u k e q y s p' t : Nat} (hcl : clo Rr) (h : st N B z (mxw Gc Gr) x sp 0 u k e) (hx : ∀ o, o < 4 → x o = Gc 31 o) (hs : s < z 0 2) (hct : cT t G (oBg (z 0 0) (nI u) (nI y) (nI (z 13 s)) 0 (G 13 y) Gc)) (ht : t ≤ 9) (h116 : Gc 116 u = nI q) (hy : y < N) (hR : Rr (oAk (nI y) (nI (z 6 u)) (nI s) Gr)) (hk1 : kp G Gc) (hk2 : kp G Gr) (hp' : p' = 1 ∨ p' = 2) (hkP : kP k p') (hno : ¬ (k = 26 ∧ p' = 2))
    (hpl : q = e + plo k p' (cO (Gr 49 (z 1 u)) (Gr 50 (z 1 u))) ∨ (k = 10 ∧ p' = 2 ∧ q = e + 5)) (hla : Gc 118 u = (if lao k p' = 0 then 0 else nI (e + lao k p'))) (hxv : xV z (mxw Gc Gr) u k p') (h15 : Gc 84 15 = 0 := by first | rfl | assumption) : eW N B z G Rr := by
  obtain ⟨f1, f5, f6, f7, f8, f9, f10, f11, f12, f13, f14, f15, f16, f17⟩ := st_f h
  have hu := h.2.1
  have hqS := h.1.1.2.2.2.2.2.2.2.2.2.2.2.2.2.2.2.2.2.2.2.1
  have hfx := fX_of h.1.1.2.1 h.1.1.2.2.2.1 (by omega)
  have hne : ¬ z 0 7 = z 0 0 := by have := h.2.2.1; omega
  refine ev_dn (y := y) (s := s) (p' := p') (t := t) (oi := z 22 u) (Gp := mxw Gc Gr) (Gc := Gc) (Gr := Gr) (xv := x) (sp := sp) (k := k) (e := e) hcl hu h.2.2.1 h.2.2.2.1 hy hs hp' hct ht hR eqc_mx eqr_mx (kp_mx hk1 hk2) h.1 h.2.2.2.2.1 h.2.2.2.2.2.1 ?_ ?_ hkP ?_ ?_ ?_ ?_ ?_
  · rw [← hk2 47 _ (by unfold kpc; omega)]; exact h.2.2.2.2.2.2.1
  · rw [← hk1 13 _ (by unfold kpc; omega)]; exact h.2.2.2.2.2.2.2
  · show Gc 116 u = _ ∨ _
    rw [h116, ← hk2 49 _ (by unfold kpc; omega), ← hk2 50 _ (by unfold kpc; omega)]
    rcases hpl with q1 | ⟨q1, q2, q3⟩
    · left; rw [q1]
    · right
      refine ⟨q1, q2, ?_⟩
      show Gc 116 u = _
      rw [h116, q3]
  · exact hla
  · exact hxv
  · rw [if_neg hno]
  · obtain ⟨f, hf⟩ := hqS
    refine ⟨f, fun o ho => ?_⟩
    have h0 := hf o ho
    rw [hx o ho] at h0
    show oK _ _ o f (Gc 31 o) _
    have e1 : io z (z 0 7) = (if z 22 u = 0 then z 23 (z 8 u) else z 22 u) := by unfold io; rw [hu]
    rw [e1] at h0
    refine oK_ext (N := N) (z := z) (z' := zDn z y s p' (z 22 u)) (G := mxw Gc Gr) (G' := oAk (nI y) (nI (z 6 u)) (nI s) (oBg (z 0 0) (nI u) (nI y) (nI (z 13 s)) 0 (G 13 y) (mxw Gc Gr))) (Nat.le_refl _) hfx.1 (fun i hi => ?_) (fun m _ => ⟨rfl, rfl⟩) f ?_ _ _ h0
    · have : ¬ i = z 0 0 := by omega
      simp [zDn, zu, this]
    · intro q q1 q2 q3 q4
      have n1 : ¬ q = z 0 0 := by omega
      have n2 : ¬ q = z 0 7 := by intro e; have := h.1.2.2.1; rw [e] at q2; omega
      refine ⟨?_, ?_, ?_, ?_⟩
      · simp [zDn, zu, n1, n2, q2]
      · simp [oAk, oBg, gu]
      · have n3 : ¬ z 8 q = z 0 0 := by have := hfx.2.2 q q1; omega
        simp [io, zDn, zu, n1]
      · simp [zDn, zu]
/-- .. it ends in some way -/
theorem f_out {N B : Nat} {z : Zt} {G Gc Gr : Gt} {Rr : Gt → Prop} {x : Nat → Int32} {sp u k e p t : Nat} (hcl : clo Rr) (h : st N B z (mxw Gc Gr) x sp 0 u k e) (hx : ∀ o, o < 4 → x o = Gc 31 o) (hct : cT t G Gc) (ht : t ≤ 9) (h116 : Gc 116 u = nI p) (h16 : Gc 16 p = 40 ∧ p < 1081) (hR : Rr Gr) (h57 : Gr 46 57 = Gr 65 (z 6 u)) (ho : oU z (mxw Gc Gr) u u (Gc 84 15) (Gc 84 16) (Gc 84 18) (Gc 84 17) (Gr 46 41) (Gr 46 42) (Gr 46 43) (Gr 46 44) (Gr 46 45) (Gr 46 46)) (hsp : sp = 1 ∨ Gc 84 15 = 1) (hk1 : kp G Gc) (hk2 : kp G Gr) : eW N B z G Rr := by
  obtain ⟨⟨hS, hm, h6, h12, hFr⟩, hu, hn, hd, hk, he, h47, h13⟩ := h
  subst hu
  refine ⟨z, mxw Gc Gr, t, Or.inl ⟨sp, ⟨sIM_x hS (fun o ho => (hx o ho).symm), hm, h6, h12, hFr⟩, ⟨p, h16.2, h116, h16.1⟩, ho, h57, hsp⟩, cT_e hct eqc_mx, hcl _ _ hR eqr_mx, kp_mx hk1 hk2, by omega⟩
