/-! ASK -/
theorem k_nc {K : Gt → Prop} {G R : Gt} {u d : Nat} (hu : G 84 11 = nI u) (hu6 : u < 601) (hd : G 84 8 = nI d) (h : K (mxw (oNc u d G) R)) : w_X2_noteCall K (mxw G R) := by
  unfold w_X2_noteCall
  rw [show (mxw G R) 84 11 = nI u from hu]
  refine pcp rfl hu6 (by decide) rfl ?_
  rw [show (mxw (gu G 120 u ((mxw G R) 84 13)) R) 84 11 = nI u from hu]
  refine ptc rfl ?_
  have e8 : (mxw (gu (gu G 120 u ((mxw G R) 84 13)) 84 13 (nI u)) R) 84 8 + 1 = nI (d + 1) := by
    rw [show (mxw (gu (gu G 120 u ((mxw G R) 84 13)) 84 13 (nI u)) R) 84 8 = nI d from hd, nI_1]
  rw [e8]
  exact ptc rfl h
theorem nI_m30 {j : Nat} : nI (30000 + j) - 30000 = nI j := by
  rw [← nI_a 30000 j _ rfl]
  show nI 30000 + nI j - nI 30000 = nI j
  rw [Int32.add_comm, Int32.add_sub_cancel]
theorem k_isg {K : Int32 → Gt → Prop} {G R : Gt} {j n5 : Nat} (h6 : G 134 6 = nI n5) (hj : j < n5) (hn : n5 < 601) (hK : K 1 (mxw G R)) : w_X3_isGenerator K (nI (30000 + j)) (mxw G R) := by
  unfold w_X3_isGenerator w_X3_isGenerator_j24
  rw [nI_m30, show (mxw G R) 134 6 = nI n5 from h6]
  refine pif_n (nI_nltx (b := 30000) rfl (by omega) (by omega)) (pif_n (fun q => ?_) ⟨bz_1, hK⟩)
  have := (nI_leI (a := n5) (b := j) (by omega) (by omega)).mp q
  omega
/-- nothing to ask: -3, -5, or -1 -/
theorem i_ask_t {G : Gt} {u p : Nat} (h : cAt G u p 25) (hn : ∀ (R : Gt) (K : Int32 → Gt → Prop), K 0 (mxw (gu G 116 u (nI (p + 1))) R) → w_X3_isGenerator K (G 84 16) (mxw (gu G 116 u (nI (p + 1))) R)) : cS G (oFl u (-3) (gu G 116 u (nI (p + 1)))) := by
  refine cS_c h (by decide) (fun R K hk => ?_)
  obtain ⟨h7, h12, h11, hu6, hp, hp2, hw0⟩ := h
  refine pif_n (by decide) (pif_n (by decide) (pif_n (by decide) (pif_n (by decide) (pif_n (by decide) (pif_n (by decide) (pif_n (by decide) (pif_n (by decide) (pif_n (by decide) (pif_p (by decide) ?_)))))))))
  unfold w_X2_ask
  refine hn R _ (pif_p rfl ?_)
  unfold w_X2_ask_j38 w_X2_ask_j49 w_X2_ask_j119
  exact pif_p rfl (k_fail (G := gu G 116 u (nI (p + 1))) h11 hu6 hk)
theorem i_ask_s {G H : Gt} {u p j n5 s d : Nat} (h : cAt G u p 25) (hv : G 84 16 = nI (30000 + j)) (h6 : G 134 6 = nI n5) (hj : j < n5) (hn5 : n5 < 601) (h140 : G 140 j = nI s) (hs : s ≤ 4) (hd : G 84 8 = nI d) (hd12 : d ≤ 12)
    (hH1 : (s = 2 ∨ s = 3) → H = oFl u (-3) (gu G 116 u (nI (p + 1)))) (hH2 : s = 4 → H = gu (gu G 116 u (nI (p + 1))) 84 16 (-1)) (hH3 : (s = 0 ∨ s = 1) → d = 12 → H = oFl u (-5) (gu G 116 u (nI (p + 1))))
    (hH4 : s = 0 → d < 12 → ∀ (R : Gt) (K : Gt → Prop), K (mxw H R) → w_X2_askFirst K (nI j) (mxw (gu (gu G 116 u (nI (p + 1))) 140 j 2) R)) (hH5 : s = 1 → d < 12 → ∀ (R : Gt) (K : Gt → Prop), K (mxw H R) → w_X2_goOn K (nI j) (mxw (gu (gu G 116 u (nI (p + 1))) 140 j 2) R)) : cS G H := by
  refine cS_c h (by decide) (fun R K hk => ?_)
  obtain ⟨h7, h12, h11, hu6, hp, hp2, hw0⟩ := h
  refine pif_n (by decide) (pif_n (by decide) (pif_n (by decide) (pif_n (by decide) (pif_n (by decide) (pif_n (by decide) (pif_n (by decide) (pif_n (by decide) (pif_n (by decide) (pif_p (by decide) ?_)))))))))
  unfold w_X2_ask
  rw [show (mxw (gu G 116 u (nI (p + 1))) R) 84 16 = nI (30000 + j) from hv, nI_m30]
  refine k_isg (G := gu G 116 u (nI (p + 1))) h6 hj hn5 (pif_n (by decide) ?_)
  rw [rat_n (by omega) (by decide), show (mxw (gu G 116 u (nI (p + 1))) R) 140 j = nI s from h140]
  unfold w_X2_ask_j38 w_X2_ask_j49 w_X2_ask_j119
  have qd := nI_ltL (w := d) (a := 12) (b := 12) rfl (by omega) (by decide)
  have hs5 : s = 0 ∨ s = 1 ∨ s = 2 ∨ s = 3 ∨ s = 4 := by omega
  have h01 : (s = 0 ∨ s = 1) → pif ((mxw (gu G 116 u (nI (p + 1))) R) 84 8 < 12) (pt (rput (mxw (gu G 116 u (nI (p + 1))) R) 140 601 (nI j) 2) fun G4 => pif (nI s = 1) (w_X2_goOn (fun G6 => K G6) (nI j) G4) (w_X2_askFirst (fun G5 => K G5) (nI j) G4)) (w_X2_fail (fun G7 => K G7) (-5) (mxw (gu G 116 u (nI (p + 1))) R)) := by
    intro q
    rw [show (mxw (gu G 116 u (nI (p + 1))) R) 84 8 = nI d from hd]
    by_cases c : d < 12
    · refine pif_p (qd.mpr c) (pcp rfl (by omega) (by decide) rfl ?_)
      rcases q with q | q
      · rw [q]; exact pif_n (by decide) (hH4 q c R _ hk)
      · rw [q]; exact pif_p rfl (hH5 q c R _ hk)
    · rw [hH3 q (by omega)] at hk
      exact pif_n (fun z => c (qd.mp z)) (k_fail (G := gu G 116 u (nI (p + 1))) h11 hu6 hk)
  rcases hs5 with q | q | q | q | q
  · have t := h01 (Or.inl q)
    rw [q] at t ⊢
    exact pif_n (by decide) (pif_n (by decide) (pif_n (by decide) t))
  · have t := h01 (Or.inr q)
    rw [q] at t ⊢
    exact pif_n (by decide) (pif_n (by decide) (pif_n (by decide) t))
  · rw [hH1 (Or.inl q)] at hk
    rw [q]
    exact pif_p rfl (k_fail (G := gu G 116 u (nI (p + 1))) h11 hu6 hk)
  · rw [hH1 (Or.inr q)] at hk
    rw [q]
    exact pif_n (by decide) (pif_p rfl (k_fail (G := gu G 116 u (nI (p + 1))) h11 hu6 hk))
  · rw [hH2 q] at hk
    rw [q]
    exact pif_n (by decide) (pif_n (by decide) (pif_p rfl (ptc rfl hk)))
theorem op_nc {S u d : Nat} {o : Int32} {G : Gt} : oOp S o (oNc u d G) = oNc u d (oOp S o G) := by
  unfold oNc
  rw [op_gu (by decide), op_gu (by decide), op_gu (by decide), op_n (by decide)]
theorem k_af {K : Gt → Prop} {G R : Gt} {u j mk m S S0 y d n : Nat} (hu : G 84 11 = nI u) (hu6 : u < 601) (hj : j < 601) (h138 : G 138 j = nI mk) (hmk : mk < 601) (h108 : G 108 mk = nI m) (hm : m < 120) (h112 : G 112 mk = nI S0) (h129 : G 129 2 = nI S) (hS : S < 1210) (h5 : G 5 m = nI y) (hy : y < 120) (hd : G 84 8 = nI d) (hn : G 84 10 = nI n) (hn6 : n < 601)
    (h : K (mxw (gu (oBg n (nI u) (nI y) (nI S) (nI (4 + j)) (G 13 y) (oNc u d (gu (oOp S (nI S0) G) 140 j 2))) 142 j (nI n)) R)) : w_X2_askFirst K (nI j) (mxw (gu G 140 j 2) R) := by
  unfold w_X2_askFirst w_X3_generatorMaker
  rw [rat_n hj (by decide), show (mxw (gu G 140 j 2) R) 138 j = nI mk from h138]
  refine k_nc (G := gu G 140 j 2) (d := d) hu hu6 hd ?_
  rw [rat_n hmk (by decide), rat_n hmk (by decide), show (mxw (oNc u d (gu G 140 j 2)) R) 112 mk = nI S0 from h112, show (mxw (oNc u d (gu G 140 j 2)) R) 108 mk = nI m from h108, rat_n hm (by decide), show (mxw (oNc u d (gu G 140 j 2)) R) 5 m = nI y from h5]
  refine k_open (G := oNc u d (gu G 140 j 2)) h129 hS ?_
  rw [op_nc, op_gu (by decide)]
  rw [show (4 : Int32) + nI j = nI (4 + j) from nI_a 4 j _ rfl]
  refine k_begin (G := oNc u d (gu (oOp S (nI S0) G) 140 j 2)) (u := nI u) hn hn6 hy hu ?_
  rw [show (mxw (oBg n (nI u) (nI y) (nI S) (nI (4 + j)) ((oNc u d (gu (oOp S (nI S0) G) 140 j 2)) 13 y) (oNc u d (gu (oOp S (nI S0) G) 140 j 2))) R) 84 11 = nI n from rfl]
  exact pcp rfl hj (by decide) rfl h
theorem k_go {K : Gt → Prop} {G R : Gt} {u j r w d : Nat} (hu : G 84 11 = nI u) (hu6 : u < 601) (hj : j < 601) (h142 : G 142 j = nI r) (hr : r < 601) (h144 : G 144 j = nI w) (hd : G 84 8 = nI d)
    (h : K (mxw (gu (gu (oNc u d (gu G 140 j 2)) 110 r (nI u)) 84 11 (nI w)) R)) : w_X2_goOn K (nI j) (mxw (gu G 140 j 2) R) := by
  unfold w_X2_goOn
  refine k_nc (G := gu G 140 j 2) (d := d) hu hu6 hd ?_
  rw [rat_n hj (by decide), show (mxw (oNc u d (gu G 140 j 2)) R) 142 j = nI r from h142, show (mxw (oNc u d (gu G 140 j 2)) R) 84 11 = nI u from hu]
  refine pcp rfl hr (by decide) rfl ?_
  rw [rat_n hj (by decide), show (mxw (gu (oNc u d (gu G 140 j 2)) 110 r (nI u)) R) 144 j = nI w from h144]
  exact ptc rfl h
/-- the reference -/
theorem r_ask_t {K : Gt → Prop} {C G : Gt} {f : Nat} {v : Int32} (hf : f < 1220) (hv : v - 30000 < 0) (h : K (mxw C (oFr f (-3) G))) : w_X11_asksOf K (nI f) v (mxw C G) := by
  unfold w_X11_asksOf w_X11_asksOf_j30 w_X11_asksOf_j166
  exact pif_p hv (r_fails hf h)
theorem r_ask_s {K : Gt → Prop} {C G H : Gt} {f j s d : Nat} (hf : f < 1220) (hj : j < 610) (h77 : G 77 j = nI s) (hs : s ≤ 4) (hd : G 46 50 = nI d) (hd12 : d ≤ 12)
    (hH1 : (s = 2 ∨ s = 3) → H = oFr f (-3) G) (hH2 : s = 4 → H = oEn (-1) (G 65 f) G) (hH3 : (s = 0 ∨ s = 1) → d = 12 → H = oFr f (-5) G)
    (hH4 : s = 0 → d < 12 → ∀ (C : Gt) (K : Gt → Prop), K (mxw C H) → w_X11_asksOf_j81 K (nI f) (nI j) 1 (mxw C (oCl f d G))) (hH5 : s = 1 → d < 12 → ∀ (C : Gt) (K : Gt → Prop), K (mxw C H) → w_X11_asksOf_j81 K (nI f) (nI j) 0 (mxw C (oCl f d G))) (hk : K (mxw C H)) : w_X11_asksOf K (nI f) (nI (30000 + j)) (mxw C G) := by
  unfold w_X11_asksOf w_X11_asksOf_j30 w_X11_asksOf_j166
  rw [nI_m30, nI_clamp (by omega), show (mxw C G) 77 j = nI s from h77]
  have hv := vp_n hj (by decide)
  have h01 : (s = 0 ∨ s = 1) → w_X11_calls (fun v3 G2 => pif (v3 = 0) (K G2) (vp_in (nI j) 610 ∧ pif (G2 77 j = 0) (w_X11_asksOf_j81 K (nI f) (nI j) 1 G2) (w_X11_asksOf_j81 K (nI f) (nI j) 0 G2))) (nI f) (mxw C G) := by
    intro q
    refine r_calls hf hd hd12 (fun c => pif_n (by decide) ⟨hv, ?_⟩) (fun c => pif_p rfl ?_)
    · rw [show (mxw C (oCl f d G)) 77 j = nI s from h77]
      rcases q with q | q
      · rw [q]; exact pif_p rfl (hH4 q c C _ hk)
      · rw [q]; exact pif_n (by decide) (hH5 q c C _ hk)
    · rw [hH3 q c] at hk; exact hk
  have hs5 : s = 0 ∨ s = 1 ∨ s = 2 ∨ s = 3 ∨ s = 4 := by omega
  refine pif_n (nI_n0 (by omega)) ⟨hv, ?_⟩
  rcases hs5 with q | q | q | q | q
  · have t := h01 (Or.inl q)
    rw [q]
    exact pif_n (by decide) ⟨hv, pif_n (by decide) ⟨hv, pif_n (by decide) t⟩⟩
  · have t := h01 (Or.inr q)
    rw [q]
    exact pif_n (by decide) ⟨hv, pif_n (by decide) ⟨hv, pif_n (by decide) t⟩⟩
  · rw [hH1 (Or.inl q)] at hk
    rw [q]
    exact pif_p rfl (r_fails hf hk)
  · rw [hH1 (Or.inr q)] at hk
    rw [q]
    exact pif_n (by decide) ⟨hv, pif_p rfl (r_fails hf hk)⟩
  · rw [hH2 q] at hk
    rw [q]
    exact pif_n (by decide) ⟨hv, pif_n (by decide) ⟨hv, pif_p rfl (r_ends hf hk)⟩⟩
theorem r_81_1 {K : Gt → Prop} {C G : Gt} {f j m s s5 y d F : Nat} (hj : j < 610) (h75 : G 75 j = nI m) (hm : m < 120) (h76 : G 76 j = nI s5) (h29 : G 46 29 = nI s) (hs : s < 620) (h48 : G 48 m = nI y) (h21 : G 46 21 = nI F) (hF : F < 1220)
    (h : K (mxw C (gu (gu (oAk (nI y) (nI F) (nI s) (oLa F (-1) (nI f) (nI s) 2 (gu (oCl f d (oOr s (nI s5) G)) 77 j 2))) 79 j (nI F)) 68 F (nI j)))) : w_X11_asksOf_j81 K (nI f) (nI j) 1 (mxw C (oCl f d G)) := by
  have ej : (nI j).toNatClampNeg = j := nI_clamp (by omega)
  have hv := vp_n hj (by decide)
  unfold w_X11_asksOf_j81 w_X11_asksOf_j166
  rw [ej]
  refine ⟨hv, ptr rfl (pif_n (by decide) ?_)⟩
  rw [show (mxw C (gu (oCl f d G) 77 j 2)) 75 j = nI m from h75, show (mxw C (gu (oCl f d G) 77 j 2)) 76 j = nI s5 from h76, nI_clamp (by omega), show (mxw C (gu (oCl f d G) 77 j 2)) 48 m = nI y from h48]
  refine ⟨hv, vp_n hm (by decide), hv, r_opens (G := gu (oCl f d G) 77 j 2) (s := s) h29 hs ?_⟩
  rw [or_gu (by omega), or_cl]
  refine r_begins (G := gu (oCl f d (oOr s (nI s5) G)) 77 j 2) (F := F) h21 hF ⟨hv, ptr rfl ⟨hv, ?_⟩⟩
  rw [show (mxw C (gu (oAk (nI y) (nI F) (nI s) (oLa F (-1) (nI f) (nI s) 2 (gu (oCl f d (oOr s (nI s5) G)) 77 j 2))) 79 j (nI F))) 79 j = nI F from by rw [mx_R rfl, gu_kk], nI_clamp (by omega)]
  exact ⟨vp_n hF (by decide), ptr rfl h⟩
theorem r_81_0 {K : Gt → Prop} {C G : Gt} {f j F fw : Nat} {a : Int32} (hj : j < 610) (h79 : G 79 j = nI F) (hF : F < 1220) (h78 : G 78 j = nI fw) (hfw : fw < 1220) (hne : ¬ fw = F) (h65 : G 65 fw = a) (h : K (mxw C (oEn 0 a (gu (gu G 77 j 2) 65 F (nI f))))) : w_X11_asksOf_j81 K (nI f) (nI j) 0 (mxw C G) := by
  have ej : (nI j).toNatClampNeg = j := nI_clamp (by omega)
  have hv := vp_n hj (by decide)
  unfold w_X11_asksOf_j81 w_X11_asksOf_j166
  rw [ej]
  refine ⟨hv, ptr rfl (pif_p rfl ⟨hv, ?_⟩)⟩
  rw [show (mxw C (gu G 77 j 2)) 79 j = nI F from h79, nI_clamp (by omega)]
  refine ⟨vp_n hF (by decide), ptr rfl ⟨hv, ?_⟩⟩
  rw [show (mxw C (gu (gu G 77 j 2) 65 F (nI f))) 78 j = nI fw from h78]
  refine r_ends hfw ?_
  rw [show (gu (gu G 77 j 2) 65 F (nI f)) 65 fw = a from by rw [gu_ko _ hne]; exact h65]
  exact h
theorem m30n {v : Int32} (h : v.toInt < 30000) (h2 : -9999 ≤ v.toInt) : v - 30000 < 0 := by
  rw [Int32.lt_iff_toInt_lt, Int32.toInt_sub, show (30000 : Int32).toInt = 30000 by decide, int32_0, Int.bmod_eq_of_le (by omega) (by omega)]
  omega
theorem mk_gn {N B : Nat} {z : Zt} {G : Gt} {x : Nat → Int32} {sp fp u k e j : Nat} (h : st N B z G x sp fp u k e) (hj : j < z 0 5) : ∃ mk y, mk < z 0 0 ∧ G 138 j = nI mk ∧ G 108 mk = nI (z 1 mk) ∧ z 1 mk < N ∧ G 112 mk = nI (z 13 (z 5 mk)) ∧ z 5 mk < z 0 2 ∧ G 75 j = nI (z 1 mk) ∧ G 76 j = nI (z 5 mk) ∧ G 5 (z 1 mk) = nI y ∧ G 48 (z 1 mk) = nI y ∧ y < N := by
  obtain ⟨⟨⟨hP, hA, hB, hC, hD, hE, hF, hG, hH, hI, hJ, hK, hL, hM, hN, hO, hPg, hQ, hR, hS, hT, hU⟩, hm, h6, h12, hFr⟩, hu, hn, hd, hk, he, h47, h13⟩ := h
  obtain ⟨o1, o2, o3, o4, o5, _⟩ := hPg j hj
  have a1 := hA (z 15 j) (by omega)
  have b1 := hB (z 15 j) (by omega)
  obtain ⟨n1, n2, n3, n4, n5, n6⟩ := node_k hP a1.2 (k := 23) o5 (by decide)
  obtain ⟨y, hy, ey⟩ := prt (k := 23) (w := 0) (by decide) (by decide) (by decide) (by omega) n4
  exact ⟨z 15 j, y, o1, o2, a1.1, a1.2, b1.1, b1.2, o3, o4, n2.trans ey, ey, hy⟩
theorem v_25_1 {N B : Nat} {z : Zt} {G : Gt} {x : Nat → Int32} {u e : Nat} (h : va N B z G x u 25 e 1) : eW N B z G (rS G) := by
  have hs := va_s h
  obtain ⟨f1, f2, f3, f4, f5, f6, f7, f8, f9, f10, f11, f12, f13, f14⟩ := st_f hs
  have hu := hs.2.1
  have hh := va_h h
  have hV := va_V h
  obtain ⟨v1, v2, v3⟩ := va_v h
  have kk := st_k hs
  have hun := hs.2.2.1
  have hx := va_x h (by decide)
  obtain ⟨hP, hA, hB, hC, hD, hE, hF, hG, hH, hI, hJ, hK, hL, hM, hN, hO, hPg, hQ, hR', hS, hT, hU⟩ := hs.1.1
  obtain ⟨Q1, Q2, Q3, Q4, Q5, Q6, Q7, Q8, Q9, Q10, Q11, Q12, Q13, Q14, Q15, Q16, Q17, Q18, Q19, Q20, Q21, Q22, Q23, Q24, Q25⟩ := hQ
  have hR1 := hR'.1
  have hR2 := hR'.2.1
  have hR3 := hR'.2.2.1
  have c1 := st_code hs (q := 1) (w := 25) (d := -1) (by rw [cd_25]; rfl)
  have c2 := st_code hs (q := 2) (w := 40) (d := -1) (by rw [cd_25]; rfl)
  have p1 := va_p h (q := 1) (by decide) rfl
  have hl := va_l h (show lao 25 1 = 0 from rfl)
  have hd0 := hs.2.2.2.1
  have h47 := hs.2.2.2.2.2.2.1
  have no : (G 84 16).toInt < 30000 → -9999 ≤ (G 84 16).toInt → eW N B z G (rS G) := fun a b => va_er h (by decide) (by unfold isnum; decide) (i_ask_t (cat f1 p1 c1.2.2 c1.1) (fun R K hk => by
      unfold w_X3_isGenerator w_X3_isGenerator_j23 w_X3_isGenerator_j24
      exact pif_p (by rw [Int32.lt_iff_toInt_lt, show (30000 : Int32).toInt = 30000 by decide]; exact a) ⟨bz_0, hk⟩)) (hV_25 hh (fun C K hk => by rw [v2]; exact r_ask_t f5 (m30n a b) hk)) rfl
  rcases v1 with a | ⟨j, hj, ej⟩ | ⟨j, hj, ej⟩
  · have a1 := a.1
    have a2 := a.2
    rw [i_ile, i_99.1] at a2
    rw [i_ile, i_99.2] at a1
    exact no (by omega) a1
  · have e1 : (G 84 16).toInt = ((20000 + j : Nat) : Int) := by rw [ej, nI_toInt (by omega)]
    exact no (by omega) (by omega)
  · obtain ⟨d, d1, d2, d3, d4⟩ := qL_d hs
    obtain ⟨P1, P2, P3, P4, P5, P6, P7, P8, P9, P10⟩ := hPg j hj
    have hFr := hs.1.2.2.2.2
    have s13 := st_13 hs
    have hst := st_fr (Gc := gu G 116 u (nI (e + 1 + 1))) (Gr := G) (sp' := 1) (fp' := 0) hs (ag1 hu (by decide) agw_rfl) agw_rfl ⟨rfl, rfl, rfl, rfl, rfl⟩ (Nat.le_refl _) (Nat.le_refl _)
    by_cases h4 : z 16 j = 4
    · have s1 := i_ask_s (H := gu (gu G 116 u (nI (e + 1 + 1))) 84 16 (-1)) (cat f1 p1 c1.2.2 c1.1) ej Q22 hj (by omega) P7 P6 d3 d1 (fun q => by omega) (fun _ => rfl) (fun q => by omega) (fun q => by omega) (fun q => by omega)
      have hR := hV_25 (H := oEn (-1) (G 65 (z 6 u)) G) hh (fun C K hk => by
        rw [v2, ej]
        exact r_ask_s (H := oEn (-1) (G 65 (z 6 u)) G) f5 (by omega) P8 P6 d4 d1 (fun q => by omega) (fun _ => rfl) (fun q => by omega) (fun q => by omega) (fun q => by omega) hk)
      have hst2 := st_fr (Gc := gu (gu G 116 u (nI (e + 1 + 1))) 84 16 (-1)) (Gr := G) (sp' := 1) (fp' := 0) hs (ag3 (by decide) (ag1 hu (by decide) agw_rfl)) agw_rfl ⟨rfl, rfl, rfl, rfl, rfl⟩ (Nat.le_refl _) (Nat.le_refl _)
      exact va_en (q := e + 2) (v := -1) h (by decide) hst2 rfl s1 (by rw [gu_oo _ (by decide), gu_kk]) ⟨c2.1, c2.2.2⟩ hR rfl v3 rfl (Or.inl (by unfold isnum; decide)) (kp_agw (ag3 (by decide) (ag1 hu (by decide) agw_rfl))) kp_rfl
    by_cases h23 : z 16 j = 2 ∨ z 16 j = 3
    · have s1 := i_ask_s (H := oFl u (-3) (gu G 116 u (nI (e + 1 + 1)))) (cat f1 p1 c1.2.2 c1.1) ej Q22 hj (by omega) P7 P6 d3 d1 (fun _ => rfl) (fun q => by omega) (fun q => by omega) (fun q => by omega) (fun q => by omega)
      have hR := hV_25 (H := oFr (z 6 u) (-3) G) hh (fun C K hk => by
        rw [v2, ej]
        exact r_ask_s (H := oFr (z 6 u) (-3) G) f5 (by omega) P8 P6 d4 d1 (fun _ => rfl) (fun q => by omega) (fun q => by omega) (fun q => by omega) (fun q => by omega) hk)
      exact va_er h (by decide) (by unfold isnum; decide) s1 hR rfl
    have h01 : z 16 j = 0 ∨ z 16 j = 1 := by omega
    by_cases c12 : d = 12
    · have s1 := i_ask_s (H := oFl u (-5) (gu G 116 u (nI (e + 1 + 1)))) (cat f1 p1 c1.2.2 c1.1) ej Q22 hj (by omega) P7 P6 d3 d1 (fun q => absurd q h23) (fun q => absurd q h4) (fun _ _ => rfl) (fun _ q => by omega) (fun _ q => by omega)
      have hR := hV_25 (H := oFr (z 6 u) (-5) G) hh (fun C K hk => by
        rw [v2, ej]
        exact r_ask_s (H := oFr (z 6 u) (-5) G) f5 (by omega) P8 P6 d4 d1 (fun q => absurd q h23) (fun q => absurd q h4) (fun _ _ => rfl) (fun _ q => by omega) (fun _ q => by omega) hk)
      exact va_er h (by decide) (by unfold isnum; decide) s1 hR rfl
    rcases h01 with h0 | h1
    · -- it begins
      obtain ⟨mk, y, m1, m2, m3, m4, m5, m6, m7, m8, m9, m10, m11⟩ := mk_gn hs hj
      have s1 := i_ask_s (H := gu (oBg (z 0 0) (nI u) (nI y) (nI (z 0 3)) (nI (4 + j)) (G 13 y) (oNc u d (gu (oOp (z 0 3) (nI (z 13 (z 5 mk))) (gu G 116 u (nI (e + 1 + 1)))) 140 j 2))) 142 j (nI (z 0 0))) (cat f1 p1 c1.2.2 c1.1) ej Q22 hj (by omega) P7 P6 d3 d1 (fun q => absurd q h23) (fun q => absurd q h4) (fun _ q => absurd q c12) (fun _ _ R K hk => k_af (G := gu G 116 u (nI (e + 1 + 1))) f1.2.2.1 f1.2.2.2 (by omega) m2 (by omega) m3 (by omega) m5 Q19 (by omega) m9 (by omega) d3 f10 (by omega) hk) (fun q => by omega)
      have hR := hV_25 (H := gu (gu (oAk (nI y) (nI (z 0 1)) (nI (z 0 2)) (oLa (z 0 1) (-1) (nI (z 6 u)) (nI (z 0 2)) 2 (gu (oCl (z 6 u) d (oOr (z 0 2) (nI (z 5 mk)) G)) 77 j 2))) 79 j (nI (z 0 1))) 68 (z 0 1) (nI j)) hh (fun C K hk => by
        rw [v2, ej]
        exact r_ask_s (H := gu (gu (oAk (nI y) (nI (z 0 1)) (nI (z 0 2)) (oLa (z 0 1) (-1) (nI (z 6 u)) (nI (z 0 2)) 2 (gu (oCl (z 6 u) d (oOr (z 0 2) (nI (z 5 mk)) G)) 77 j 2))) 79 j (nI (z 0 1))) 68 (z 0 1) (nI j)) f5 (by omega) P8 P6 d4 d1 (fun q => absurd q h23) (fun q => absurd q h4) (fun _ q => absurd q c12) (fun _ _ C K hk => r_81_1 (by omega) m7 (by omega) m8 Q18 (by omega) m10 Q17 (by omega) hk) (fun q => by omega) hk)
      have t0 := st_u (G' := gu G 116 u (nI (e + 1 + 1))) (sp' := 1) (fp' := 0) hs (ag1 hu (by decide) agw_rfl) ⟨rfl, rfl, rfl, rfl, rfl⟩ (Nat.le_refl _) (Nat.le_refl _)
      have t1 := st_sc (oc := nI (z 13 (z 5 mk))) (or' := nI (z 5 mk)) t0 (Or.inr ⟨z 5 mk, m6, rfl, rfl⟩)
      have em : oOp (z 0 3) (nI (z 13 (z 5 mk))) (oOr (z 0 2) (nI (z 5 mk)) (gu G 116 u (nI (e + 1 + 1)))) = mxw (oOp (z 0 3) (nI (z 13 (z 5 mk))) (gu G 116 u (nI (e + 1 + 1)))) (oOr (z 0 2) (nI (z 5 mk)) G) := by
        rw [mxw_op, mxw_or, ← mxw_gC rfl, mxw_self]
      rw [em] at t1
      have hp := pu_gn (z := zSc z) (Gc := oOp (z 0 3) (nI (z 13 (z 5 mk))) (gu G 116 u (nI (e + 1 + 1)))) (Gr := oOr (z 0 2) (nI (z 5 mk)) G) (x := y) (s := z 0 2) (d := d) (g := j) d2 (by omega) (by show ¬ z 0 7 = z 0 0; omega) (show j < z 0 5 from hj) (show z 16 j = 0 from h0) (by show G 47 (z 1 (z 0 7)) = 25; rw [hu]; exact h47)
      rw [zSc_n] at hp
      have hu' : (zSc z) 0 7 = u := hu
      rw [hu'] at hp
      refine eW_z (z' := zSc z) (mu_eq rfl rfl) (f_call (b := 4 + j) (p' := 4) (t := 1) clo_rS t1 hx m11 (Nat.lt_succ_self _) (by omega) hp (cT_1 s1) (by decide) hR ?_ ?_ (by rw [if_neg (by omega)]) (by unfold kP; omega) ?_ ?_ (xV_c4 (Or.inr (Or.inr (Or.inl rfl))) (fun q => by omega)))
      · unfold oNc
        exact kp_gu (by unfold kpc; omega) (kp_bg (kp_gu (by unfold kpc; omega) (kp_gu (by unfold kpc; omega) (kp_gu (by unfold kpc; omega) (kp_gu (by unfold kpc; omega) (kp_op (kp_gu (by unfold kpc; omega) kp_rfl)))))))
      · unfold oCl oLa
        exact kp_gu (by unfold kpc; omega) (kp_gu (by unfold kpc; omega) (kp_ak (kp_gu (by unfold kpc; omega) (kp_gu (by unfold kpc; omega) (kp_gu (by unfold kpc; omega) (kp_gu (by unfold kpc; omega) (kp_gu (by unfold kpc; omega) (kp_gu (by unfold kpc; omega) (kp_gu (by unfold kpc; omega) (kp_gu (by unfold kpc; omega) (kp_gu (by unfold kpc; omega) (kp_or kp_rfl))))))))))))
      · rw [op_n (by decide), gu_kk]; rfl
      · rw [op_n (by decide), gu_oo _ (by decide)]; exact hl
    · -- it goes on
      obtain ⟨r1, r2, r3, r4, r5, r6⟩ := P9 (by omega)
      obtain ⟨w1, w2, w3, w4, w5⟩ := P10 h1
      clear P9 P10 r6
      have h6r := (hF (z 17 j) r1 (by omega)).1
      have g61 := hG.2.1 (z 17 j) r1
      have g62 := hG.2.2 (z 18 j) w1
      have hne : ¬ z 6 (z 18 j) = z 6 (z 17 j) - 1 := by
        intro e
        rcases Nat.lt_trichotomy (z 18 j) (z 17 j) with q | q | q
        · have := (hG.1 _ _ q (by omega)).2 (by omega); omega
        · rw [q] at e; omega
        · have := (hG.1 _ _ q (by omega)).1; omega
      have h9u : z 9 u = 6 := by have := hs.1.2.2.1; rw [hu] at this; exact this
      have hwu : ¬ z 18 j = u := by intro q; rw [q] at w2; omega
      have huw : ¬ u = z 18 j := fun q => hwu q.symm
      have ed : z 12 (z 8 u) = d := by rw [← hu]; exact d2
      have s1 := i_ask_s (H := gu (gu (oNc u d (gu (gu G 116 u (nI (e + 1 + 1))) 140 j 2)) 110 (z 17 j) (nI u)) 84 11 (nI (z 18 j))) (cat f1 p1 c1.2.2 c1.1) ej Q22 hj (by omega) P7 P6 d3 d1 (fun q => absurd q h23) (fun q => absurd q h4) (fun _ q => absurd q c12) (fun q => by omega) (fun _ _ R K hk => k_go (G := gu G 116 u (nI (e + 1 + 1))) f1.2.2.1 f1.2.2.2 (by omega) r4 (by omega) w4 d3 hk)
      have hR := hV_25 (H := oEn 0 (G 65 (z 6 (z 18 j))) (gu (gu (oCl (z 6 u) d G) 77 j 2) 65 (z 6 (z 17 j) - 1) (nI (z 6 u)))) hh (fun C K hk => by
        rw [v2, ej]
        exact r_ask_s (H := oEn 0 (G 65 (z 6 (z 18 j))) (gu (gu (oCl (z 6 u) d G) 77 j 2) 65 (z 6 (z 17 j) - 1) (nI (z 6 u)))) f5 (by omega) P8 P6 d4 d1 (fun q => absurd q h23) (fun q => absurd q h4) (fun _ q => absurd q c12) (fun q => by omega) (fun _ _ C K hk => r_81_0 (G := oCl (z 6 u) d G) (by omega) r5 (by omega) w5 (by omega) hne rfl hk) hk)
      have z9 : (zRs z 1 j) 9 u = 4 := by simp [zRs, hu, huw]
      have zc : (zRs z 1 j) 0 7 = z 18 j := by simp [zRs]
      have zcc : (zRs z 1 j) 9 ((zRs z 1 j) 0 7) = 6 := by rw [zc]; simp [zRs]
      have T := t_rs (go := 1) (G := mxw (gu G 116 u (nI (e + 1 + 1))) G) (G' := mxw (gu (gu (oNc u d (gu (gu G 116 u (nI (e + 1 + 1))) 140 j 2)) 110 (z 17 j) (nI u)) 84 11 (nI (z 18 j))) (gu (gu (oCl (z 6 u) d G) 77 j 2) 65 (z 6 (z 17 j) - 1) (nI (z 6 u)))) hst.1.1 hs.1.2.1 hs.1.2.2.1 hu hj h1 rfl rfl (Or.inl ⟨rfl, hd0, by omega⟩) (agp_mx ?_ ?_) rfl ⟨?_, ?_⟩ ⟨?_, ?_⟩ (fun _ => ⟨?_, ?_, ?_, ?_, ?_, ?_⟩) (fun q => absurd q (by decide)) (fun _ => ?_) (fun _ => h47)
      · obtain ⟨T1, T2, T3, T4, T5, T6, T7, T8, T9⟩ := T
        rw [if_pos rfl] at T9
        have T1' := sIM_x (x' := G 31) T1 (fun o ho => (hx o ho).symm)
        obtain ⟨k', e', b1, b2, b3, b4, b5, b6, b7, b8⟩ := hH (z 18 j) w1 (by omega) (by omega)
        rw [w2] at b5 b6 b7
        have k24 : k' = 24 := by unfold kP at b5; omega
        subst k24
        have hwN := (hA (z 18 j) (by omega)).2
        have b6' : G 116 (z 18 j) = nI (e' + 2) := by
          rcases b6 with q | q
          · exact q
          · exact absurd q.1 (by decide)
        have y2 := code_at hP hwN b3 b4 (by decide) (by omega) (q := 2) (w := 0) (d := 0) (by rw [cd_24]; rfl)
        have y3 := code_at hP hwN b3 b4 (by decide) (by omega) (q := 3) (w := 40) (d := -1) (by rw [cd_24]; rfl)
        have hA3 : aST N B (zRs z 1 j) (mxw (gu (gu (oNc u d (gu (gu G 116 u (nI (e + 1 + 1))) 140 j 2)) 110 (z 17 j) (nI u)) 84 11 (nI (z 18 j))) (gu (gu (oCl (z 6 u) d G) 77 j 2) 65 (z 6 (z 17 j) - 1) (nI (z 6 u)))) (G 31) 1 0 := ⟨T1', hs.1.2.1, zcc, hs.1.2.2.2.1, hs.1.2.2.2.2⟩
        have s2 := i_num (G := gu (gu (oNc u d (gu (gu G 116 u (nI (e + 1 + 1))) 140 j 2)) 110 (z 17 j) (nI u)) 84 11 (nI (z 18 j))) (u := z 18 j) (p := e' + 2) ⟨f1.1, f1.2.1, gu_kk _ _ _ _, by omega, ?_, y2.2.2, y2.1⟩
        · rw [show (gu (gu (oNc u d (gu (gu G 116 u (nI (e + 1 + 1))) 140 j 2)) 110 (z 17 j) (nI u)) 84 11 (nI (z 18 j))) 18 (e' + 2) = 0 from y2.2.1] at s2
          have hA4 := as_u (G' := mxw (gu (gu (gu (gu (oNc u d (gu (gu G 116 u (nI (e + 1 + 1))) 140 j 2)) 110 (z 17 j) (nI u)) 84 11 (nI (z 18 j))) 116 (z 18 j) (nI (e' + 2 + 1))) 84 16 0) (gu (gu (oCl (z 6 u) d G) 77 j 2) 65 (z 6 (z 17 j) - 1) (nI (z 6 u)))) hA3 (agp_mx (agp_gu (fw84 (by decide)) (agp_gu (fw1 zc (by decide)) agp_rfl)) agp_rfl) rfl (as_s hA3 :)
          refine eW_m (z' := zRs z 1 j) (by omega) (ev_end (Gc := gu (gu (gu (gu (oNc u d (gu (gu G 116 u (nI (e + 1 + 1))) 140 j 2)) 110 (z 17 j) (nI u)) 84 11 (nI (z 18 j))) 116 (z 18 j) (nI (e' + 2 + 1))) 84 16 0) (Gr := gu (gu (oCl (z 6 u) d G) 77 j 2) 65 (z 6 (z 17 j) - 1) (nI (z 6 u))) (t := 2) (v := 0) clo_rS hA4 zc (by exact w1) ⟨_, s1, cT_1 s2⟩ (by decide) hR eqc_mx eqr_mx (kp_mx ?_ ?_) ?_ v3 rfl (Or.inl (by unfold isnum; decide)) ⟨e' + 3, y3.2.2, ?_, y3.1⟩)
          · unfold oNc
            repeat (refine kp_gu (by unfold kpc; omega) ?_)
            exact kp_rfl
          · unfold oCl
            repeat (refine kp_gu (by unfold kpc; omega) ?_)
            exact kp_rfl
          · rw [mx_R rfl]
            show (gu (gu (oCl (z 6 u) d G) 77 j 2) 65 (z 6 (z 17 j) - 1) (nI (z 6 u))) 65 (z 6 (z 18 j)) = G 65 (z 6 (z 18 j))
            rw [gu_ko _ hne]; rfl
          · rw [mx_C rfl, gu_oo _ (by decide), gu_kk]
        · rw [gu_oo _ (by decide), gu_oo _ (by decide)]
          unfold oNc
          rw [gu_oo _ (by decide), gu_oo _ (by decide), gu_oo _ (by decide), gu_oo _ (by decide), gu_ko _ hwu]; exact b6'
      · unfold oNc
        exact agp_gu (Or.inl ⟨rfl, by decide⟩) (agp_gu (Or.inr (Or.inr (Or.inr (Or.inl ⟨rfl, rfl⟩)))) (agp_gu (Or.inl ⟨rfl, by decide⟩) (agp_gu (Or.inl ⟨rfl, by decide⟩) (agp_gu (Or.inr (Or.inr (Or.inr (Or.inr (Or.inr (Or.inl ⟨rfl, rfl, hu.symm⟩)))))) (agp_gu (Or.inr (Or.inr (Or.inl ⟨by decide, Or.inl rfl⟩))) agp_rfl)))))
      · unfold oCl
        exact agp_gu (Or.inr (Or.inr (Or.inr (Or.inr (Or.inl ⟨rfl, rfl⟩))))) (agp_gu (Or.inr (Or.inr (Or.inl ⟨by decide, Or.inl rfl⟩))) (agp_gu (Or.inr (Or.inl ⟨rfl, by decide⟩)) (agp_gu (Or.inr (Or.inl ⟨rfl, by decide⟩)) (agp_gu (Or.inr (Or.inr (Or.inr (Or.inr (Or.inr (Or.inr ⟨rfl, rfl, by rw [hu]⟩)))))) agp_rfl))))
      · rw [mx_C rfl, gu_oo _ (by decide), gu_oo _ (by decide)]
        unfold oNc
        rw [gu_oo _ (by decide), gu_oo _ (by decide), gu_oo _ (by decide), gu_kk]; rfl
      · rw [mx_R rfl, gu_oo _ (by decide), gu_kk]; rfl
      · rw [mx_C rfl, gu_oo _ (by decide), gu_kk]; rfl
      · rw [mx_R rfl, gu_kk]; rfl
      · rw [ed]; rfl
      · rw [ed]; rfl
      · rfl
      · rfl
      · rw [mx_C rfl, gu_oo _ (by decide), gu_oo _ (by decide)]
        unfold oNc
        rw [gu_oo _ (by decide), gu_oo _ (by decide), gu_kk]; rfl
      · rw [mx_R rfl, gu_oo _ (by decide), gu_oo _ (by decide)]
        unfold oCl
        rw [gu_oo _ (by decide), gu_oo _ (by decide), gu_kk]; rfl
      · refine ⟨25, e, by decide, hs.2.2.2.2.2.1, hs.2.2.2.2.2.2.1, hs.2.2.2.2.2.2.2, ?_, Or.inl ?_, ?_, ?_⟩
        · rw [z9]; unfold kP; omega
        · rw [z9, mx_C rfl, gu_oo _ (by decide), gu_oo _ (by decide)]
          unfold oNc
          rw [gu_oo _ (by decide), gu_oo _ (by decide), gu_oo _ (by decide), gu_oo _ (by decide), gu_kk]; rfl
        · rw [z9, mx_C rfl, gu_oo _ (by decide), gu_oo _ (by decide)]
          unfold oNc
          rw [gu_oo _ (by decide), gu_oo _ (by decide), gu_oo _ (by decide), gu_oo _ (by decide), gu_oo _ (by decide)]; exact hl
        · rw [z9]; exact xV_c4 (Or.inr (Or.inr (Or.inl rfl))) (fun q => by omega)
