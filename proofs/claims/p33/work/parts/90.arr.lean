theorem xV_ext {N : Nat} {z z' : Zt} {G G' : Gt} {i k p : Nat} (h : eX N z G z' G') (hf : fX N z) (hi : i < z 0 0) (h600 : z 0 0 ≤ 600) (p19 : z' 19 i = z 19 i) (p20 : z' 20 i = z 20 i)
    (c122 : G' 122 i = G 122 i) (c124 : G' 124 i = G 124 i) (c126 : G' 126 i = G 126 i) (c128 : G' 128 i = G 128 i)
    (r67 : G' 67 (z 6 i) = G 67 (z 6 i)) (r68 : G' 68 (z 6 i) = G 68 (z 6 i)) (r69 : G' 69 (z 6 i) = G 69 (z 6 i)) (hd : xV z G i k p) : xV z' G' i k p := by
  have hN := hf.1 i hi
  obtain ⟨⟨h1a, h1b, h1c, h1d, h1e⟩, h2, h3, h4, h5, h6, h7, h8⟩ := id h
  obtain ⟨s1, s2, s3, s4, s5⟩ := h2 i hi
  obtain ⟨t1, t2, t3, t4, t5⟩ := h6 _ hN
  obtain ⟨x1, x2, x3, x4, x5, x6, x7, x8, x9⟩ := hd
  refine ⟨?_, ?_, ?_, ?_, ?_, ?_, ?_, ?_, ?_⟩
  · rw [s5, r67]; exact x1
  · rw [s5, r67, r68, r69, c122, c124, c126]; exact x2
  · rw [s5, r68, c122]
    intro q1 q2
    exact ⟨(x3 q1 q2).1, vV_ext h (x3 q1 q2).2⟩
  · rw [c124]; exact x4
  · intro q1 q2
    obtain ⟨w, w1, w2, w3⟩ := x5 q1 q2
    refine ⟨w, by omega, by rw [s5, r68]; exact w2, ?_⟩
    rw [c122, c124, c126, c128, h7 _ (by omega), h7 _ (by omega), h7 _ (by omega), h7 _ (by omega), h7 _ (by omega), h7 _ (by omega)]
    exact oU_ext h hf hi (fun q => absurd q (by omega)) w3
  · rw [p19, s1, t4, t5]; exact x6
  · rw [p20]; exact x7
  · intro q1
    obtain ⟨s, l, w1, w2, w3, w4, w5, w6, w7, w8⟩ := x8 q1
    refine ⟨s, l, by omega, w2, by rw [c124, h5 s w1]; exact w3, by rw [s5, r69]; exact w4, by rw [c126]; exact w5, h8 l w2 w6, by rw [s1, t3]; exact w7, by rw [s5, r67]; exact w8⟩
  · rw [c122, s5, r68]; exact x9
/-! the END of a part, in the class -/
theorem i_lv_v {G : Gt} {i p u : Nat} (h : cAt G i p 40) (hb : G 114 i = 0) (hup : G 110 i = nI u) (hu : u < 601) (h15 : G 84 15 = 0) : cS G (gu (gu G 116 i (nI (p + 1))) 84 11 (nI u)) := by
  refine cS_f h (by decide) (fun R K hk => ?_)
  obtain ⟨h7, h12, h11, hi6, hp, hp2, hw0⟩ := h
  have e11 : (mxw (gu G 116 i (nI (p + 1))) R) 84 11 = nI i := h11
  have e114 : rat (mxw (gu G 116 i (nI (p + 1))) R) 114 601 (nI i) = 0 := by rw [rat_n hi6 (by decide)]; exact hb
  have e110 : rat (mxw (gu G 116 i (nI (p + 1))) R) 110 601 (nI i) = nI u := by rw [rat_n hi6 (by decide)]; exact hup
  refine pif_p rfl ?_
  unfold w_X2_leave
  rw [e11, e114, e110]
  refine pif_n (by decide) (pif_p (by decide) (pif_n (by decide) (ptc rfl (pif_n (nI_neg (by omega)) (pif_p h15 hk)))))
theorem i_lv_x {G : Gt} {i p u : Nat} (h : cAt G i p 40) (hb : G 114 i = 0) (hup : G 110 i = nI u) (hu : u < 601) (hui : ¬ u = i) (h15 : ¬ G 84 15 = 0) : cS G (gu (gu (gu (gu G 116 i (nI (p + 1))) 84 11 (nI u)) 116 u (G 118 u)) 118 u 0) := by
  refine cS_f h (by decide) (fun R K hk => ?_)
  obtain ⟨h7, h12, h11, hi6, hp, hp2, hw0⟩ := h
  have e11 : (mxw (gu G 116 i (nI (p + 1))) R) 84 11 = nI i := h11
  have e114 : rat (mxw (gu G 116 i (nI (p + 1))) R) 114 601 (nI i) = 0 := by rw [rat_n hi6 (by decide)]; exact hb
  have e110 : rat (mxw (gu G 116 i (nI (p + 1))) R) 110 601 (nI i) = nI u := by rw [rat_n hi6 (by decide)]; exact hup
  refine pif_p rfl ?_
  unfold w_X2_leave
  rw [e11, e114, e110]
  refine pif_n (by decide) (pif_p (by decide) (pif_n (by decide) (ptc rfl (pif_n (nI_neg (by omega)) (pif_n h15 ?_)))))
  unfold w_X1_land
  rw [rat_n hu (by decide)]
  exact pcp rfl hu (by decide) rfl (pcp rfl hu (by decide) rfl hk)
/-- a frame goes on, of kind k, having waited in phase p -/
def arr (N B : Nat) (z : Zt) (G : Gt) (x : Nat → Int32) (sp u k e p : Nat) : Prop :=
  aST N B z G x sp 0 ∧ z 0 7 = u ∧ u < z 0 0 ∧ z 11 u = 0 ∧ k < 40 ∧ e < 1081 ∧ G 47 (z 1 u) = nI k ∧ G 13 (z 1 u) = nI e ∧ kP k p ∧ xV z G u k p ∧ (p = 1 ∨ p = 2) ∧
    ∀ o, x o = if k = 26 ∧ p = 2 ∧ G 48 (z 1 u) = nI o then G 122 u else G 31 o
theorem mu_up {z : Zt} {a : Nat} (h : sm ((zUp z) 21) (z 0 0) + 1 = sm (z 21) (z 0 0)) (ha : a ≤ 10) : mu (zUp z) + a ≤ mu z := by
  show 20 * (601 - z 0 0) + 10 * sm ((zUp z) 21) (z 0 0) + a ≤ 20 * (601 - z 0 0) + 10 * sm (z 21) (z 0 0)
  omega
theorem arr_val {N B : Nat} {z : Zt} {G : Gt} (h : eST N B z G) (hb : z 2 (z 0 7) = 0) (h15 : G 84 15 = 0) :
    ∃ z1 G1 u k e p, cS G G1 ∧ eqr G G1 ∧ kp G G1 ∧ mu z1 + 10 ≤ mu z ∧ arr N B z1 G1 (fun o => if k = 26 ∧ p = 2 ∧ G1 48 (z1 1 u) = nI o then G1 122 u else G1 31 o) 1 u k e p ∧
      (G1 116 u = nI (e + plo k p (cO (G1 49 (z1 1 u)) (G1 50 (z1 1 u)))) ∨ (k = 10 ∧ p = 2 ∧ G1 116 u = nI (e + 5))) ∧ G1 118 u = (if lao k p = 0 then 0 else nI (e + lao k p)) ∧
      G1 84 15 = 0 ∧ vV z1 (G1 84 16) ∧ G1 46 41 = 1 ∧ G1 46 42 = G1 84 16 ∧ G1 46 57 = nI (z1 6 u) := by
  obtain ⟨sp, hA, ⟨p, hp, e116, e16⟩, ho, h57, hsp⟩ := h
  obtain ⟨hS, hm, h6, h12, hFr⟩ := id hA
  have hQ := hS.2.2.2.2.2.2.2.2.2.2.2.2.2.2.2.2.2.1
  have hcn : z 0 7 < z 0 0 := by have := hS.2.2.2.2.2.2.2.2.2.2.2.1.2.2.2.1; omega
  have hn6 : z 0 0 ≤ 600 := by have := hQ.1; have := hQ.2.2.2.1; omega
  have hC := hS.2.2.2.1
  have hD := hS.2.2.2.2.1
  have hE := hS.2.2.2.2.2.1
  have hsp1 : sp = 1 := by
    rcases hsp with e | e
    · exact e
    · rw [h15] at e; exact absurd e (by decide)
  subst hsp1
  -- the place goes on by one
  have f1 := u_fr (G' := gu G 116 (z 0 7) (nI (p + 1))) (sp' := 1) (fp' := 0) hS h6 hcn (agw_gu (by unfold frw; omega) agw_rfl) (Nat.le_refl _) (Nat.le_refl _) (Or.inr (by rw [gu_oo _ (by decide)])) ⟨hQ.2.2.2.2.2.2.2.2.2.2.2.1, hQ.2.2.2.2.2.2.2.2.2.2.2.2.1⟩ hQ.2.2.2.2.2.2.2.2.2.2.2.2.2.1
  obtain ⟨t1, t2, t3, t4, t5, t6, t7, t8, t9, t10⟩ := t_up f1.1 hm hb h6
  obtain ⟨k, e, a1, a1e, a2, a3, a4, a5, a6, a7⟩ := t5
  have hne : ¬ z 3 (z 0 7) = z 0 7 := by omega
  have hun : z 3 (z 0 7) < z 0 0 := by omega
  have hf := fX_of hS.2.1 hC (by omega)
  have hv : G 46 41 = 1 ∧ G 84 16 = G 46 42 ∧ vV z (G 84 16) := by
    rcases ho with ⟨_, b, c, d⟩ | ⟨b, _⟩ | ⟨b, _⟩ | ⟨b, _⟩ | ⟨b, _⟩
    · exact ⟨b, c, d⟩
    all_goals rw [h15] at b; exact absurd b (by decide)
  refine ⟨zUp z, gu (gu G 116 (z 0 7) (nI (p + 1))) 84 11 (nI (z 3 (z 0 7))), z 3 (z 0 7), k, e, z 9 (z 3 (z 0 7)), ?_, ?_, ?_, ?_, ⟨⟨?_, ?_, ?_, ?_, ?_⟩, ?_, ?_, ?_, ?_, ?_, ?_, ?_, ?_, ?_, ?_, fun o => rfl⟩, ?_, ?_, ?_, ?_, ?_, ?_, ?_⟩
  · refine i_lv_v ⟨hQ.2.2.2.2.2.2.2.2.2.1, h12, hQ.2.2.2.2.2.2.2.2.1, by omega, e116, hp, e16⟩ ?_ ?_ (by omega) h15
    · have := (hC (z 0 7) (by omega)).1; rw [hb] at this; exact this
    · exact (hD (z 0 7) (by omega)).1 hb
  · exact eqr_gu rfl (eqr_gu rfl eqr_rfl)
  · exact kp_gu (by unfold kpc; omega) (kp_gu (by unfold kpc; omega) kp_rfl)
  · exact mu_up t8 (Nat.le_refl _)
  · have : (oVw z (gu G 116 (z 0 7) (nI (p + 1))) (z 3 (z 0 7)) (G 31)) = (fun o => if k = 26 ∧ z 9 (z 3 (z 0 7)) = 2 ∧ (gu (gu G 116 (z 0 7) (nI (p + 1))) 84 11 (nI (z 3 (z 0 7)))) 48 ((zUp z) 1 (z 3 (z 0 7))) = nI o then (gu (gu G 116 (z 0 7) (nI (p + 1))) 84 11 (nI (z 3 (z 0 7)))) 122 (z 3 (z 0 7)) else (gu (gu G 116 (z 0 7) (nI (p + 1))) 84 11 (nI (z 3 (z 0 7)))) 31 o) := by
      funext o
      unfold oVw
      have q : (gu G 116 (z 0 7) (nI (p + 1))) 47 (z 1 (z 3 (z 0 7))) = 26 ↔ k = 26 := by
        rw [a2]; exact nI_eqL rfl (by omega) (by decide)
      by_cases c : k = 26 ∧ z 9 (z 3 (z 0 7)) = 2 ∧ G 48 (z 1 (z 3 (z 0 7))) = nI o
      · exact (if_pos ⟨q.mpr c.1, c.2⟩).trans (if_pos c).symm
      · exact (if_neg (fun y => c ⟨q.mp y.1, y.2⟩)).trans (if_neg c).symm
    rw [← this]
    exact t1
  · exact hm
  · show (zUp z) 9 ((zUp z) 0 7) = 6
    rw [show (zUp z) 0 7 = z 3 (z 0 7) by simp [zUp, zu], t9, if_pos rfl]
  · exact h12
  · exact hFr
  · simp [zUp, zu]
  · exact hun
  · exact t6
  · exact a1
  · exact a1e
  · exact a2
  · exact a3
  · exact a4
  · refine xV_ext t10 hf hun hn6 rfl rfl rfl rfl rfl rfl rfl rfl rfl a7
  · exact t4
  · rcases a5 with q | ⟨q1, q2, q3⟩
    · left
      exact q
    · right
      exact ⟨q1, q2, q3⟩
  · exact a6
  · exact h15
  · exact hv.2.2
  · exact hv.1
  · exact hv.2.1.symm
  · show G 46 57 = nI (z 6 (z 3 (z 0 7)))
    rw [h57]
    exact (hE (z 0 7) hcn).2.2.1 hb
