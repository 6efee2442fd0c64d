/-! THE CLASS'S INSTRUCTIONS, one by one -/
theorem i_do {G : Gt} {u p n m : Nat} (h : cAt G u p 41) (hn : G 84 10 = nI n) (hn6 : n < 601) (hd : G 18 p = nI m) (hm : m < 120) : cS G (oBg n (nI u) (nI m) (G 112 u) 0 (G 13 m) (gu G 116 u (nI (p + 1)))) := by
  refine cS_f h (by decide) (fun R K hk => ?_)
  obtain ⟨h7, h12, h11, hu6, hp, hp2, hw0⟩ := h
  rw [hd]
  refine pif_n (by decide) (pif_p (by decide) ?_)
  have e : rat (mxw (gu G 116 u (nI (p + 1))) R) 112 601 ((mxw (gu G 116 u (nI (p + 1))) R) 84 11) = G 112 u := by
    rw [show (mxw (gu G 116 u (nI (p + 1))) R) 84 11 = nI u from h11, rat_n hu6 (by decide)]; rfl
  rw [e]
  exact k_begin (u := nI u) hn hn6 hm h11 hk
theorem i_doi {G : Gt} {u p n m S : Nat} (h : cAt G u p 42) (hn : G 84 10 = nI n) (hn6 : n < 601) (hS : G 129 2 = nI S) (hS2 : S < 1210) (hd : G 18 p = nI m) (hm : m < 120) : cS G (oBg n (nI u) (nI m) (nI S) 0 (G 13 m) (oOp S (G 112 u) (gu G 116 u (nI (p + 1))))) := by
  refine cS_f h (by decide) (fun R K hk => ?_)
  obtain ⟨h7, h12, h11, hu6, hp, hp2, hw0⟩ := h
  rw [hd]
  refine pif_n (by decide) (pif_n (by decide) (pif_p (by decide) ?_))
  have e : rat (mxw (gu G 116 u (nI (p + 1))) R) 112 601 ((mxw (gu G 116 u (nI (p + 1))) R) 84 11) = G 112 u := by
    rw [show (mxw (gu G 116 u (nI (p + 1))) R) 84 11 = nI u from h11, rat_n hu6 (by decide)]; rfl
  rw [e]
  refine k_open (G := gu G 116 u (nI (p + 1))) hS hS2 ?_
  exact k_begin (u := nI u) hn hn6 hm h11 hk
theorem i_dh {G : Gt} {u p n m : Nat} (h : cAt G u p 43) (hn : G 84 10 = nI n) (hn6 : n < 601) (hd : G 18 p = nI m) (hm : m < 120) : cS G (oBg n (nI u) (nI m) (G 124 u) 0 (G 13 m) (gu G 116 u (nI (p + 1)))) := by
  refine cS_f h (by decide) (fun R K hk => ?_)
  obtain ⟨h7, h12, h11, hu6, hp, hp2, hw0⟩ := h
  rw [hd]
  refine pif_n (by decide) (pif_n (by decide) (pif_n (by decide) (pif_p (by decide) ?_)))
  have e : rat (mxw (gu G 116 u (nI (p + 1))) R) 124 601 ((mxw (gu G 116 u (nI (p + 1))) R) 84 11) = G 124 u := by
    rw [show (mxw (gu G 116 u (nI (p + 1))) R) 84 11 = nI u from h11, rat_n hu6 (by decide)]; rfl
  rw [e]
  exact k_begin (u := nI u) hn hn6 hm h11 hk
theorem i_keep {G : Gt} {u p : Nat} (h : cAt G u p 44) : cS G (gu (gu G 116 u (nI (p + 1))) 122 u (G 84 16)) := by
  refine cS_f h (by decide) (fun R K hk => ?_)
  obtain ⟨h7, h12, h11, hu6, hp, hp2, hw0⟩ := h
  exact pif_n (by decide) (pif_n (by decide) (pif_n (by decide) (pif_n (by decide) (pif_p (by decide) (pcp h11 hu6 (by decide) rfl hk)))))
theorem i_jump {G : Gt} {u p : Nat} (h : cAt G u p 45) : cS G (gu (gu G 116 u (nI (p + 1))) 116 u (G 18 p)) := by
  refine cS_f h (by decide) (fun R K hk => ?_)
  obtain ⟨h7, h12, h11, hu6, hp, hp2, hw0⟩ := h
  exact pif_n (by decide) (pif_n (by decide) (pif_n (by decide) (pif_n (by decide) (pif_n (by decide) (pif_p (by decide) (k_jump (G := gu G 116 u (nI (p + 1))) h11 hu6 hk))))))
theorem i_unl_0 {G : Gt} {u p : Nat} (h : cAt G u p 46) (hv : G 84 16 = 0) : cS G (gu (gu G 116 u (nI (p + 1))) 116 u (G 18 p)) := by
  refine cS_f h (by decide) (fun R K hk => ?_)
  obtain ⟨h7, h12, h11, hu6, hp, hp2, hw0⟩ := h
  exact pif_n (by decide) (pif_n (by decide) (pif_n (by decide) (pif_n (by decide) (pif_n (by decide) (pif_n (by decide) (pif_p (by decide) (pif_p hv (k_jump (G := gu G 116 u (nI (p + 1))) h11 hu6 hk))))))))
theorem i_unl_1 {G : Gt} {u p : Nat} (h : cAt G u p 46) (hv : ¬ G 84 16 = 0) : cS G (gu G 116 u (nI (p + 1))) := by
  refine cS_f h (by decide) (fun R K hk => ?_)
  exact pif_n (by decide) (pif_n (by decide) (pif_n (by decide) (pif_n (by decide) (pif_n (by decide) (pif_n (by decide) (pif_p (by decide) (pif_n hv hk)))))))
theorem i_guard {G : Gt} {u p : Nat} (h : cAt G u p 47) : cS G (gu (gu G 116 u (nI (p + 1))) 118 u (G 18 p)) := by
  refine cS_f h (by decide) (fun R K hk => ?_)
  obtain ⟨h7, h12, h11, hu6, hp, hp2, hw0⟩ := h
  exact pif_n (by decide) (pif_n (by decide) (pif_n (by decide) (pif_n (by decide) (pif_n (by decide) (pif_n (by decide) (pif_n (by decide) (pif_p (by decide) (pcp h11 hu6 (by decide) rfl hk))))))))
theorem i_num {G : Gt} {u p : Nat} (h : cAt G u p 0) : cS G (gu (gu G 116 u (nI (p + 1))) 84 16 (G 18 p)) := by
  refine cS_r h (by decide) (fun R K hk => ?_)
  exact pif_p (by decide) (ptc rfl hk)
theorem i_let {G : Gt} {u p S j : Nat} (h : cAt G u p 2) (h112 : G 112 u = nI S) (hS : S < 1210) (hd : G 18 p = nI j) (hj : j < 8) : cS G (gu (gu G 116 u (nI (p + 1))) 133 (8 * S + j) (G 84 16)) := by
  refine cS_r h (by decide) (fun R K hk => ?_)
  obtain ⟨h7, h12, h11, hu6, hp, hp2, hw0⟩ := h
  rw [hd]
  refine pif_n (by decide) (pif_n (by decide) (pif_p (by decide) ?_))
  have e : rat (mxw (gu G 116 u (nI (p + 1))) R) 112 601 ((mxw (gu G 116 u (nI (p + 1))) R) 84 11) = nI S := by
    rw [show (mxw (gu G 116 u (nI (p + 1))) R) 84 11 = nI u from h11, rat_n hu6 (by decide)]; exact h112
  rw [e]
  exact k_bind (G := gu G 116 u (nI (p + 1))) hS hj hk
