/-! FINALLY ends; APPLY -/
theorem r_isOver {K : Gt → Prop} {C G : Gt} {f a : Nat} (hf : f < 1220) (ha : G 68 f = nI a) (ha6 : a + 5 < 3660) (h : K (mxw C (gu (gu (gu (gu (gu (gu (gu G 46 41 (G 80 a)) 46 42 (G 80 (a + 1))) 46 43 (G 80 (a + 2))) 46 44 (G 80 (a + 3))) 46 45 (G 80 (a + 4))) 46 46 (G 80 (a + 5))) 46 57 (G 65 f)))) : w_X11_isOver K (nI f) (mxw C G) := by
  have e : (nI f).toNatClampNeg = f := nI_clamp (by omega)
  have ea : ∀ i, i ≤ 5 → (nI (a + i)).toNatClampNeg = a + i := fun i hi => nI_clamp (by omega)
  have ea0 : (nI a).toNatClampNeg = a := nI_clamp (by omega)
  unfold w_X11_isOver
  rw [e, show (mxw C G) 68 f = nI a from ha, nI_a _ 1 1 rfl, nI_a _ 2 2 rfl, nI_a _ 3 3 rfl, nI_a _ 4 4 rfl, nI_a _ 5 5 rfl, ea0, ea 1 (by decide), ea 2 (by decide), ea 3 (by decide), ea 4 (by decide), ea 5 (by decide)]
  exact ⟨vp_n hf (by decide), vp_n (by omega) (by decide), ptr rfl ⟨vp_n (by omega) (by decide), ptr rfl ⟨vp_n (by omega) (by decide), ptr rfl ⟨vp_n (by omega) (by decide), ptr rfl ⟨vp_n (by omega) (by decide), ptr rfl ⟨vp_n (by omega) (by decide), ptr rfl ⟨vp_n hf (by decide), ptr rfl h⟩⟩⟩⟩⟩⟩⟩
theorem v_21_2 {N B : Nat} {z : Zt} {G : Gt} {x : Nat → Int32} {u e : Nat} (h : va N B z G x u 21 e 2) : eW N B z G (rS G) := by
  have hs := va_s h
  obtain ⟨f1, f2, f3, f4, f5, f6, f7, f8, f9, f10, f11, f12, f13, f14⟩ := st_f hs
  have hu := hs.2.1
  have hh := va_h h
  have hV := va_V h
  obtain ⟨v1, v2, v3⟩ := va_v h
  have kk := st_k hs
  have hun := hs.2.2.1
  have hx := va_x h (by decide)
  obtain ⟨hP, hA, hB, hC, hD, hE, hF, hG, hH, hI, hJ, hK, hL, hM, hN, hO, hPg, hQ, hR', hS, hT, hU⟩ := hs.1.1
  obtain ⟨Q1, Q2, Q3, Q4, Q5, Q6, Q7, Q8, Q9, Q10, Q11, Q12, Q13, Q14, Q15, Q16, Q17, Q18, Q19, Q20, Q21, Q22, Q23, Q24, Q25⟩ := hQ
  have hR1 := hR'.1
  have hR2 := hR'.2.1
  have hR3 := hR'.2.2.1
  obtain ⟨w, w1, w2, w3⟩ := hV.2.2.2.2.1 rfl rfl
  have hf := fX_of hA hC (by omega)
  have c1 := st_code hs (q := 5) (w := 51) (d := -1) (by rw [cd_21]; rfl)
  have c2 := st_code hs (q := 6) (w := 40) (d := -1) (by rw [cd_21]; rfl)
  have p1 := va_p h (q := 5) (by decide) rfl
  have s1 := i_rev (cat f1 p1 c1.2.2 c1.1)
  have hR := hV_21_1 hh (by rw [xV_67b hV]; decide) (fun C K hk => r_isOver f5 w2 (by omega) hk)
  have hX : eX N z G z (mxw (gu (gu (gu (gu (gu G 116 u (nI (e + 5 + 1))) 84 15 (G 124 u)) 84 16 (G 122 u)) 84 18 (G 126 u)) 84 17 (G 128 u)) (gu (gu (gu (gu (gu (gu (gu G 46 41 (G 80 (6 * w))) 46 42 (G 80 (6 * w + 1))) 46 43 (G 80 (6 * w + 2))) 46 44 (G 80 (6 * w + 3))) 46 45 (G 80 (6 * w + 4))) 46 46 (G 80 (6 * w + 5))) 46 57 (G 65 (z 6 u)))) :=
    ⟨⟨Nat.le_refl _, Nat.le_refl _, Nat.le_refl _, Nat.le_refl _, Nat.le_refl _⟩, fun _ _ => ⟨rfl, rfl, rfl, rfl, rfl⟩, fun _ _ _ => rfl, fun _ _ h0 => ⟨h0, rfl⟩, fun _ hs => rfl, fun _ _ => ⟨rfl, rfl, rfl, rfl, rfl⟩, fun _ _ => rfl, fun _ _ h => h⟩
  have hao := oU_ext (c' := u) hX hf hun (fun q => absurd q (by omega)) w3
  have hst := st_fr (Gc := gu (gu (gu (gu (gu G 116 u (nI (e + 5 + 1))) 84 15 (G 124 u)) 84 16 (G 122 u)) 84 18 (G 126 u)) 84 17 (G 128 u)) (Gr := gu (gu (gu (gu (gu (gu (gu G 46 41 (G 80 (6 * w))) 46 42 (G 80 (6 * w + 1))) 46 43 (G 80 (6 * w + 2))) 46 44 (G 80 (6 * w + 3))) 46 45 (G 80 (6 * w + 4))) 46 46 (G 80 (6 * w + 5))) 46 57 (G 65 (z 6 u))) (sp' := 1) (fp' := 0) hs (ag3 (by decide) (ag3 (by decide) (ag3 (by decide) (ag3 (by decide) (ag1 hu (by decide) agw_rfl))))) (ag4 (by decide) (ag4 (by decide) (ag4 (by decide) (ag4 (by decide) (ag4 (by decide) (ag4 (by decide) (ag4 (by decide) agw_rfl))))))) ⟨rfl, rfl, rfl, rfl, rfl⟩ (Nat.le_refl _) (Nat.le_refl _)
  exact f_out (p := e + 6) (t := 1) clo_rS hst hx (cT_1 s1) (by decide) (by rw [gu_oo _ (by decide), gu_oo _ (by decide), gu_oo _ (by decide), gu_oo _ (by decide), gu_kk]) ⟨c2.1, c2.2.2⟩ hR rfl hao (Or.inl rfl) (kp_agw (ag3 (by decide) (ag3 (by decide) (ag3 (by decide) (ag3 (by decide) (ag1 hu (by decide) agw_rfl)))))) (kp_agw (z := z) (ag4 (by decide) (ag4 (by decide) (ag4 (by decide) (ag4 (by decide) (ag4 (by decide) (ag4 (by decide) (ag4 (by decide) agw_rfl))))))))
/-! calls -/
theorem k_enter {K : Gt → Prop} {G R : Gt} {u d n y S : Nat} (hu : G 84 11 = nI u) (hu6 : u < 601) (hd : G 84 8 = nI d) (hd12 : d ≤ 12) (hn : G 84 10 = nI n) (hn6 : n < 601) (h124 : G 124 u = nI S) (hy : y < 120) (hy2 : d < 12 → K (mxw (oBg n (nI u) (nI y) (nI S) 3 (G 13 y) (oNc u d G)) R)) (hn2 : d = 12 → K (mxw (oFl u (-5) G) R)) : w_X2_enter K (nI y) (mxw G R) := by
  unfold w_X2_enter
  rw [show (mxw G R) 84 8 = nI d from hd]
  have q := nI_ltL (w := d) (a := 12) (b := 12) rfl (by omega) (by decide)
  by_cases c : d < 12
  · refine pif_p (q.mpr c) ?_
    unfold w_X2_noteCall
    rw [show (mxw G R) 84 11 = nI u from hu]
    refine pcp rfl hu6 (by decide) rfl ?_
    rw [show (mxw (gu G 120 u ((mxw G R) 84 13)) R) 84 11 = nI u from hu]
    refine ptc rfl ?_
    have e8 : (mxw (gu (gu G 120 u ((mxw G R) 84 13)) 84 13 (nI u)) R) 84 8 + 1 = nI (d + 1) := by
      rw [show (mxw (gu (gu G 120 u ((mxw G R) 84 13)) 84 13 (nI u)) R) 84 8 = nI d from hd, nI_1]
    rw [e8]
    refine ptc rfl ?_
    dsimp only
    have e124 : rat (mxw (gu (gu (gu G 120 u ((mxw G R) 84 13)) 84 13 (nI u)) 84 8 (nI (d + 1))) R) 124 601 ((mxw (gu (gu (gu G 120 u ((mxw G R) 84 13)) 84 13 (nI u)) 84 8 (nI (d + 1))) R) 84 11) = nI S := by
      rw [rat_u (G := gu (gu (gu G 120 u ((mxw G R) 84 13)) 84 13 (nI u)) 84 8 (nI (d + 1))) hu hu6]
      exact h124
    rw [e124]
    exact k_begin (G := oNc u d G) (u := nI u) hn hn6 hy hu (hy2 c)
  · exact pif_n (fun z => c (q.mp z)) (k_fail hu hu6 (hn2 (by omega)))
theorem r_calls {K : Int32 → Gt → Prop} {C G : Gt} {f d : Nat} (hf : f < 1220) (hd : G 46 50 = nI d) (hd12 : d ≤ 12) (hy : d < 12 → K 1 (mxw C (oCl f d G))) (hn : d = 12 → K 0 (mxw C (oFr f (-5) G))) : w_X11_calls K (nI f) (mxw C G) := by
  have e : (nI f).toNatClampNeg = f := nI_clamp (by omega)
  unfold w_X11_calls
  rw [show (mxw C G) 46 50 = nI d from hd, e]
  have q := nI_eqL (w := d) (a := 12) (b := 12) rfl (by omega) (by decide)
  by_cases c : d = 12
  · exact pif_p (q.mpr c) (r_fails hf (hn c))
  · refine pif_n (fun z => c (q.mp z)) ⟨vp_n hf (by decide), ptr rfl (ptr rfl ?_)⟩
    have e50 : (mxw C (gu (gu G 70 f ((mxw C G) 46 49)) 46 49 (nI f))) 46 50 + 1 = nI (d + 1) := by
      rw [show (mxw C (gu (gu G 70 f ((mxw C G) 46 49)) 46 49 (nI f))) 46 50 = nI d from hd, nI_1]
    have hg : pt (gu (mxw C (gu (gu G 70 f ((mxw C G) 46 49)) 46 49 (nI f))) 46 50 ((mxw C (gu (gu G 70 f ((mxw C G) 46 49)) 46 49 (nI f))) 46 50 + 1)) (fun G3 => K 1 G3) := by
      rw [e50]
      exact ptr rfl (hy (by omega))
    exact hg
theorem gu_comm {G : Gt} {k j k' j' : Nat} {v v' : Int32} (h : ¬ (k = k' ∧ j = j')) : gu (gu G k j v) k' j' v' = gu (gu G k' j' v') k j v := by
  funext a b
  by_cases e : a = k ∧ b = j
  · obtain ⟨rfl, rfl⟩ := e
    rw [gu_kk, gu_n (by omega), gu_kk]
  · rw [gu_n (G := gu G k' j' v') e]
    by_cases e' : a = k' ∧ b = j'
    · obtain ⟨rfl, rfl⟩ := e'
      rw [gu_kk, gu_kk]
    · rw [gu_n e', gu_n e', gu_n e]
theorem or_cl {s f d : Nat} {o : Int32} {G : Gt} : oOr s o (oCl f d G) = oCl f d (oOr s o G) := by
  unfold oCl
  rw [or_gu (by omega), or_gu (by omega), or_gu (by omega), or_n (k := 46) (j := 49) (by decide)]
theorem gu_cl {f d c i : Nat} {v : Int32} {G : Gt} (h : ¬ c = 70 ∧ ¬ c = 46) : gu (oCl f d G) c i v = oCl f d (gu G c i v) := by
  unfold oCl
  rw [gu_comm (by omega), gu_comm (k' := c) (by omega), gu_comm (k' := c) (by omega), gu_oo _ (k := c) (a := 46) (fun q => h.2 q.symm)]
theorem nI_nltx {a b : Nat} {x : Int32} (e : x = nI b) (h : b ≤ a) (ha : a < 2 ^ 31) : ¬ nI a < x := fun q => by
  have := (nI_ltL (w := a) (a := b) e ha (by omega)).mp q
  omega
theorem nI_ltx {a b : Nat} {x : Int32} (e : x = nI b) (h : a < b) (hb : b < 2 ^ 31) : nI a < x := (nI_ltL (w := a) (a := b) e (by omega) hb).mpr h
theorem qL_d {N B : Nat} {z : Zt} {G : Gt} {x : Nat → Int32} {sp fp u k e : Nat} (h : st N B z G x sp fp u k e) : ∃ d, d ≤ 12 ∧ z 12 (z 8 (z 0 7)) = d ∧ G 84 8 = nI d ∧ G 46 50 = nI d := by
  obtain ⟨d, d1, d2, d3, d4, d5⟩ := h.1.1.2.2.2.2.2.2.2.2.2.2.2.2.1.2
  exact ⟨d, d1, d2, d3, d4⟩
/-- cells of the class that no scope of both has -/
theorem st_133 {N B : Nat} {z : Zt} {G : Gt} {x : Nat → Int32} {sp fp u k e i : Nat} {v : Int32} (h : st N B z G x sp fp u k e) (hi : ∀ a, a < z 0 2 → ∀ j, j < 8 → ¬ 8 * z 13 a + j = i) : st N B z (gu G 133 i v) x sp fp u k e := by
  obtain ⟨⟨⟨hP, hA, hB, hC, hD, hE, hF, hG, hH, hI, hJ, hK, hL, hM, hN, hO, hPg, hQ, hR, hS, hT, hU⟩, hm, h6, h12, hFr⟩, hu, hn, hd, hk, he, h47, h13⟩ := h
  have hX : eX N z G z (gu G 133 i v) := ⟨⟨Nat.le_refl _, Nat.le_refl _, Nat.le_refl _, Nat.le_refl _, Nat.le_refl _⟩, fun _ _ => ⟨rfl, rfl, rfl, rfl, rfl⟩, fun _ _ _ => rfl, fun _ _ h0 => ⟨h0, rfl⟩, fun _ _ => rfl, fun _ _ => ⟨rfl, rfl, rfl, rfl, rfl⟩, fun _ _ => rfl, fun _ _ h => h⟩
  have hf := fX_of hA hC (by omega)
  have hH' : qH z (gu G 133 i v) := fun i hi h1 h2 => dV_ext hX hf hi (by have := hQ.1; have := hQ.2.2.2.1; omega) rfl rfl rfl rfl rfl rfl rfl rfl rfl rfl rfl rfl (hH i hi h1 h2)
  have hS' : qS z (gu G 133 i v) x := by
    obtain ⟨f', hf'⟩ := hS
    refine ⟨f', fun o ho => ?_⟩
    exact oK_ext (N := N) (z := z) (G := G) (G' := gu G 133 i v) (z' := z) (Nat.le_refl _) hf.1 (fun _ _ => rfl) (fun _ _ => ⟨rfl, rfl⟩) f' (fun q _ q2 _ _ => ⟨q2, rfl, rfl, rfl⟩) _ _ (hf' o ho)
  have hN' : qN z (gu G 133 i v) := by
    obtain ⟨q1, q2⟩ := hN
    refine ⟨q1, fun a ha => ?_⟩
    obtain ⟨w1, w2, w3, w4⟩ := q2 a ha
    refine ⟨w1, w2, w3, fun j hj => ?_⟩
    rw [gu_ko _ (hi a ha j hj)]
    exact w4 j hj
  exact ⟨⟨⟨hP, hA, hB, hC, hD, hE, hF, hG, hH', hI, hJ, hK, hL, hM, hN', hO, hPg, hQ, hR, hS', hT, hU⟩, hm, h6, h12, hFr⟩, hu, hn, hd, hk, he, h47, h13⟩
/-- what a function, a generator is -/
theorem mk_fn {N B : Nat} {z : Zt} {G : Gt} {x : Nat → Int32} {sp fp u k e j : Nat} (h : st N B z G x sp fp u k e) (hj : j < z 0 4) : ∃ mk y nm, mk < z 0 0 ∧ G 136 j = nI mk ∧ G 108 mk = nI (z 1 mk) ∧ z 1 mk < N ∧ G 112 mk = nI (z 13 (z 5 mk)) ∧ z 5 mk < z 0 2 ∧ G 73 j = nI (z 1 mk) ∧ G 74 j = nI (z 5 mk) ∧ G 5 (z 1 mk) = nI nm ∧ G 48 (z 1 mk) = nI nm ∧ nm < 8 ∧ G 7 (z 1 mk) = nI y ∧ G 49 (z 1 mk) = nI y ∧ y < N := by
  obtain ⟨⟨⟨hP, hA, hB, hC, hD, hE, hF, hG, hH, hI, hJ, hK, hL, hM, hN, hO, hPg, hQ, hR, hS, hT, hU⟩, hm, h6, h12, hFr⟩, hu, hn, hd, hk, he, h47, h13⟩ := h
  obtain ⟨o1, o2, o3, o4, o5⟩ := hO j hj
  have a1 := hA (z 14 j) (by omega)
  have b1 := hB (z 14 j) (by omega)
  obtain ⟨n1, n2, n3, n4, n5, n6⟩ := node_k hP a1.2 (k := 16) o5 (by decide)
  obtain ⟨nm, hnm, enm⟩ := prq (k := 16) (w := 0) (d := 3) (n := 8) (by decide) (by decide) (by decide) (by omega) (Or.inl ⟨rfl, rfl⟩) n4
  obtain ⟨y, hy, ey⟩ := prt (k := 16) (w := 1) (by decide) (by decide) (by decide) (by omega) n5
  exact ⟨z 14 j, y, nm, o1, o2, a1.1, a1.2, b1.1, b1.2, o3, o4, n2.trans enm, enm, hnm, n3.trans ey, ey, hy⟩
theorem i_app_n {G : Gt} {u p : Nat} (h : cAt G u p 17) (hn : ∀ (R : Gt) (K : Int32 → Gt → Prop), K 0 (mxw (gu G 116 u (nI (p + 1))) R) → w_X3_isFunction K (G 122 u) (mxw (gu G 116 u (nI (p + 1))) R)) : cS G (oFl u (-3) (gu G 116 u (nI (p + 1)))) := by
  refine cS_c h (by decide) (fun R K hk => ?_)
  obtain ⟨h7, h12, h11, hu6, hp, hp2, hw0⟩ := h
  refine pif_n (by decide) (pif_n (by decide) (pif_n (by decide) (pif_p (by decide) ?_)))
  unfold w_X2_apply
  rw [rat_u (G := gu G 116 u (nI (p + 1))) h11 hu6, show (mxw (gu G 116 u (nI (p + 1))) R) 122 u = G 122 u from rfl]
  exact hn R _ (pif_p rfl (k_fail (G := gu G 116 u (nI (p + 1))) h11 hu6 hk))
def oAp (u p S nm : Nat) (o : Int32) (G : Gt) : Gt := gu (gu (oOp S o (gu G 116 u (nI (p + 1)))) 133 (8 * S + nm) (G 84 16)) 124 u (nI S)
theorem i_app {G H : Gt} {u p j mk m S S0 nm y d n n4 : Nat} (h : cAt G u p 17) (hv : G 122 u = nI (20000 + j)) (h4 : G 134 5 = nI n4) (hj : j < n4) (hn4 : n4 < 601) (h136 : G 136 j = nI mk) (hmk : mk < 601) (h108 : G 108 mk = nI m) (hm : m < 120) (h112 : G 112 mk = nI S0) (h129 : G 129 2 = nI S) (hS : S < 1210) (h5 : G 5 m = nI nm) (hnm : nm < 8) (h7' : G 7 m = nI y) (hy : y < 120) (hd : G 84 8 = nI d) (hd12 : d ≤ 12) (hn : G 84 10 = nI n) (hn6 : n < 601)
    (hH : H = if d = 12 then oFl u (-5) (oAp u p S nm (nI S0) G) else oBg n (nI u) (nI y) (nI S) 3 (G 13 y) (oNc u d (oAp u p S nm (nI S0) G))) : cS G H := by
  refine cS_c h (by decide) (fun R K hk => ?_)
  obtain ⟨h7, h12, h11, hu6, hp, hp2, hw0⟩ := h
  refine pif_n (by decide) (pif_n (by decide) (pif_n (by decide) (pif_p (by decide) ?_)))
  unfold w_X2_apply
  rw [rat_u (G := gu G 116 u (nI (p + 1))) h11 hu6, show (mxw (gu G 116 u (nI (p + 1))) R) 122 u = nI (20000 + j) from hv]
  have e2 : nI (20000 + j) - 20000 = nI j := by
    rw [← nI_a 20000 j _ rfl]
    show nI 20000 + nI j - nI 20000 = nI j
    rw [Int32.add_comm, Int32.add_sub_cancel]
  have hk' : ∀ K' : Int32 → Gt → Prop, K' 1 (mxw (gu G 116 u (nI (p + 1))) R) → w_X3_isFunction K' (nI (20000 + j)) (mxw (gu G 116 u (nI (p + 1))) R) := by
    intro K' hK'
    unfold w_X3_isFunction w_X3_isFunction_j24
    rw [e2, show (mxw (gu G 116 u (nI (p + 1))) R) 134 5 = nI n4 from h4]
    refine pif_n (nI_nltx (b := 20000) rfl (by omega) (by omega)) (pif_n (fun q => ?_) ⟨bz_1, hK'⟩)
    have := (nI_leI (a := n4) (b := j) (by omega) (by omega)).mp q
    omega
  refine hk' _ (pif_n (by decide) ?_)
  unfold w_X3_functionMaker
  dsimp only
  rw [e2, rat_n (by omega) (by decide), show (mxw (gu G 116 u (nI (p + 1))) R) 136 j = nI mk from h136, rat_n hmk (by decide), show (mxw (gu G 116 u (nI (p + 1))) R) 108 mk = nI m from h108, rat_n hmk (by decide), show (mxw (gu G 116 u (nI (p + 1))) R) 112 mk = nI S0 from h112]
  refine k_open (G := gu G 116 u (nI (p + 1))) h129 hS ?_
  rw [rat_n hm (by decide), show (mxw (oOp S (nI S0) (gu G 116 u (nI (p + 1)))) R) 5 m = nI nm from h5]
  refine k_bind (G := oOp S (nI S0) (gu G 116 u (nI (p + 1)))) hS hnm ?_
  refine pcp (i := u) ?_ hu6 (by decide) rfl ?_
  · exact h11
  · rw [rat_n hm (by decide)]
    have e7 : (mxw (gu (gu (oOp S (nI S0) (gu G 116 u (nI (p + 1)))) 133 (8 * S + nm) ((mxw (oOp S (nI S0) (gu G 116 u (nI (p + 1)))) R) 84 16)) 124 u (nI S)) R) 7 m = nI y := h7'
    rw [e7]
    refine k_enter (G := oAp u p S nm (nI S0) G) (n := n) (S := S) (d := d) h11 hu6 hd hd12 hn hn6 (gu_kk _ _ _ _) hy (fun c => ?_) (fun c => ?_)
    · rw [hH, if_neg (by omega)] at hk; exact hk
    · rw [hH, if_pos c] at hk; exact hk
theorem r_app_n {K : Gt → Prop} {C G : Gt} {f : Nat} {a v : Int32} (hf : f < 1220) (ha : a < 20000 ∨ ¬ a < 30000) (h : K (mxw C (oFr f (-3) G))) : w_X11_applies K (nI f) a v (mxw C G) := by
  unfold w_X11_applies w_X11_applies_j14
  by_cases c : a < 20000
  · exact pif_p c (r_fails hf h)
  · rcases ha with q | q
    · exact absurd q c
    · exact pif_n c (pif_n q (r_fails hf h))
theorem r_app {K : Gt → Prop} {C G H : Gt} {f j m s s5 nm y d F : Nat} {v : Int32} (hf : f < 1220) (hj : j < 610) (h73 : G 73 j = nI m) (hm : m < 120) (h74 : G 74 j = nI s5) (h29 : G 46 29 = nI s) (hs : s < 620) (h48 : G 48 m = nI nm) (hnm : nm < 8) (h49 : G 49 m = nI y) (hd : G 46 50 = nI d) (hd12 : d ≤ 12) (h21 : G 46 21 = nI F) (hF : F < 1220)
    (hH : H = if d = 12 then oFr f (-5) G else oAk (nI y) (nI F) (nI s) (oLa F (-1) (nI f) (nI s) 1 (oCl f d (gu (oOr s (nI s5) G) 72 (8 * s + nm) v)))) (h : K (mxw C H)) : w_X11_applies K (nI f) (nI (20000 + j)) v (mxw C G) := by
  have e2 : nI (20000 + j) - 20000 = nI j := by
    rw [← nI_a 20000 j _ rfl]
    show nI 20000 + nI j - nI 20000 = nI j
    rw [Int32.add_comm, Int32.add_sub_cancel]
  have ej : (nI j).toNatClampNeg = j := nI_clamp (by omega)
  have em : (nI m).toNatClampNeg = m := nI_clamp (by omega)
  unfold w_X11_applies
  rw [e2]
  refine pif_n (nI_nltx (b := 20000) rfl (by omega) (by omega)) (pif_p ?_ (r_calls hf hd hd12 (fun c => pif_n (by decide) ?_) (fun c => pif_p rfl ?_)))
  · exact nI_ltx (b := 30000) rfl (by omega) (by decide)
  · rw [hH, if_neg (by omega), ← gu_cl (by decide), ← or_cl] at h
    rw [ej, show (mxw C (oCl f d G)) 74 j = nI s5 from h74, show (mxw C (oCl f d G)) 73 j = nI m from h73, em]
    refine ⟨vp_n hj (by decide), vp_n hj (by decide), r_opens (s := s) h29 hs ?_⟩
    have e48 : (8 : Int32) * nI s + (mxw C (oOr s (nI s5) (oCl f d G))) 48 m = nI (8 * s + nm) := by
      rw [show (mxw C (oOr s (nI s5) (oCl f d G))) 48 m = nI nm from h48, show (8 : Int32) = nI 8 from rfl, nI_mulx, nI_add]
    rw [e48]
    refine ⟨vp_n hm (by decide), ptri rfl (by omega) (by decide) rfl ⟨vp_n hm (by decide), ?_⟩⟩
    rw [show (mxw C (gu (oOr s (nI s5) (oCl f d G)) 72 (8 * s + nm) v)) 49 m = nI y from h49]
    exact r_begins (F := F) h21 hF h
  · rw [hH, if_pos c] at h; exact h
theorem v_17_2 {N B : Nat} {z : Zt} {G : Gt} {x : Nat → Int32} {u e : Nat} (h : va N B z G x u 17 e 2) : eW N B z G (rS G) := by
  have hs := va_s h
  obtain ⟨f1, f2, f3, f4, f5, f6, f7, f8, f9, f10, f11, f12, f13, f14⟩ := st_f hs
  have hu := hs.2.1
  have hh := va_h h
  have hV := va_V h
  obtain ⟨v1, v2, v3⟩ := va_v h
  have kk := st_k hs
  have hun := hs.2.2.1
  have hx := va_x h (by decide)
  obtain ⟨hP, hA, hB, hC, hD, hE, hF, hG, hH, hI, hJ, hK, hL, hM, hN, hO, hPg, hQ, hR', hS, hT, hU⟩ := hs.1.1
  obtain ⟨Q1, Q2, Q3, Q4, Q5, Q6, Q7, Q8, Q9, Q10, Q11, Q12, Q13, Q14, Q15, Q16, Q17, Q18, Q19, Q20, Q21, Q22, Q23, Q24, Q25⟩ := hQ
  have hR1 := hR'.1
  have hR2 := hR'.2.1
  have hR3 := hR'.2.2.1
  obtain ⟨w1, w2⟩ := xV_kept hV (by omega)
  have c3 := st_code hs (q := 3) (w := 17) (d := -1) (by rw [cd_17]; rfl)
  have p1 := va_p h (q := 3) (by decide) rfl
  have hl := va_l h (show lao 17 2 = 0 from rfl)
  have h67 : ¬ G 67 (z 6 u) = 0 := by rw [xV_67b hV]; decide
  have no : (G 122 u < 20000 ∨ ¬ G 122 u < 30000) → (∀ (R : Gt) (K : Int32 → Gt → Prop), K 0 (mxw (gu G 116 u (nI (e + 3 + 1))) R) → w_X3_isFunction K (G 122 u) (mxw (gu G 116 u (nI (e + 3 + 1))) R)) → eW N B z G (rS G) := fun a b =>
    va_er h (by decide) (by unfold isnum; decide) (i_app_n (cat f1 p1 c3.2.2 c3.1) b) (hV_17_1 hh h67 (fun C K hk => r_app_n f5 (by rw [← w1]; exact a) hk)) rfl
  rcases w2 with a | ⟨j, hj, ej⟩ | ⟨j, hj, ej⟩
  · have a1 : G 122 u < 20000 := by
      have := a.2
      rw [i_ile, i_99.1] at this
      rw [Int32.lt_iff_toInt_lt, show (20000 : Int32).toInt = 20000 by decide]
      omega
    exact no (Or.inl a1) (fun R K hk => pif_p a1 ⟨bz_0, hk⟩)
  · obtain ⟨d, d1, d2, d3, d4⟩ := qL_d hs
    obtain ⟨mk, y, nm, m1, m2, m3, m4, m5, m6, m7, m8, m9, m10, m11, m12, m13, m14⟩ := mk_fn hs hj
    have hFr := hs.1.2.2.2.2
    have s13 := st_13 hs
    have hr := hV_17_1 (H := if d = 12 then oFr (z 6 u) (-5) G else oAk (nI y) (nI (z 0 1)) (nI (z 0 2)) (oLa (z 0 1) (-1) (nI (z 6 u)) (nI (z 0 2)) 1 (oCl (z 6 u) d (gu (oOr (z 0 2) (nI (z 5 mk)) G) 72 (8 * z 0 2 + nm) (G 84 16))))) hh h67 (fun C K hk => by
      rw [← w1, ej, v2]
      exact r_app f5 (by omega) m7 (by omega) m8 Q18 (by omega) m10 m11 m13 d4 d1 Q17 (by omega) rfl hk)
    have s1 := i_app (cat f1 p1 c3.2.2 c3.1) (S := z 0 3) (n := z 0 0) ej Q20 hj (by omega) m2 (by omega) m3 (by omega) m5 Q19 (by omega) m9 m11 m12 (by omega) d3 d1 f10 (by omega) rfl
    have t0 := st_u (G' := gu G 116 u (nI (e + 3 + 1))) (sp' := 1) (fp' := 0) hs (ag1 hu (by decide) agw_rfl) ⟨rfl, rfl, rfl, rfl, rfl⟩ (Nat.le_refl _) (Nat.le_refl _)
    by_cases c : d = 12
    · rw [if_pos c] at hr s1
      have t1 := st_s1 (o := nI (z 13 (z 5 mk))) t0
      have t2 := st_133 (i := 8 * z 0 3 + nm) (v := G 84 16) t1 (fun a ha j hj => by have := s13 a ha; show ¬ 8 * z 13 a + j = 8 * z 0 3 + nm; omega)
      have t3 := st_u (G' := oAp u (e + 3) (z 0 3) nm (nI (z 13 (z 5 mk))) G) (sp' := 0) (fp' := 0) t2 (ag1 (z := zS1 z) hu (by decide) agw_rfl) ⟨rfl, rfl, rfl, rfl, rfl⟩ (Nat.le_refl _) (Nat.le_refl _)
      have em : oAp u (e + 3) (z 0 3) nm (nI (z 13 (z 5 mk))) G = mxw (oAp u (e + 3) (z 0 3) nm (nI (z 13 (z 5 mk))) G) G := by
        unfold oAp
        rw [← mxw_gC rfl, ← mxw_gC rfl, mxw_op, ← mxw_gC rfl, mxw_self]
      rw [em] at t3
      refine eW_z (z' := zS1 z) (mu_eq rfl rfl) (f_err (t := 1) clo_rS t3 hx (by unfold isnum; decide) (cT_1 s1) (by decide) hr ?_ kp_rfl ?_)
      · exact kp_gu (by unfold kpc; omega) (kp_gu (by unfold kpc; omega) (kp_op (kp_gu (by unfold kpc; omega) kp_rfl)))
      · unfold oAp
        rw [gu_oo _ (by decide), gu_oo _ (by decide), op_n (by decide), gu_oo _ (by decide)]; exact hl
    · rw [if_neg c] at hr s1
      have t1 := st_sc (oc := nI (z 13 (z 5 mk))) (or' := nI (z 5 mk)) t0 (Or.inr ⟨z 5 mk, m6, rfl, rfl⟩)
      have t2 := st_bn (s := z 0 2) (j := nm) (v := G 84 16) t1 (Nat.lt_succ_self _) m11 v1
      rw [zSc_n] at t2
      have t3 := st_u (G' := gu (gu (gu (oOp (z 0 3) (nI (z 13 (z 5 mk))) (oOr (z 0 2) (nI (z 5 mk)) (gu G 116 u (nI (e + 3 + 1))))) 133 (8 * z 0 3 + nm) (G 84 16)) 72 (8 * z 0 2 + nm) (G 84 16)) 124 u (nI (z 0 3))) (sp' := 0) (fp' := 0) t2 (ag1 (z := zSc z) hu (by decide) agw_rfl) ⟨rfl, rfl, rfl, rfl, rfl⟩ (Nat.le_refl _) (Nat.le_refl _)
      have em : gu (gu (gu (oOp (z 0 3) (nI (z 13 (z 5 mk))) (oOr (z 0 2) (nI (z 5 mk)) (gu G 116 u (nI (e + 3 + 1))))) 133 (8 * z 0 3 + nm) (G 84 16)) 72 (8 * z 0 2 + nm) (G 84 16)) 124 u (nI (z 0 3)) = mxw (oAp u (e + 3) (z 0 3) nm (nI (z 13 (z 5 mk))) G) (gu (oOr (z 0 2) (nI (z 5 mk)) G) 72 (8 * z 0 2 + nm) (G 84 16)) := by
        unfold oAp
        rw [← mxw_gC rfl, ← mxw_gR rfl, ← mxw_gC rfl, mxw_op, mxw_or, ← mxw_gC rfl, mxw_self]
      rw [em] at t3
      have hp := pu_fn (z := zSc z) (Gc := oAp u (e + 3) (z 0 3) nm (nI (z 13 (z 5 mk))) G) (Gr := gu (oOr (z 0 2) (nI (z 5 mk)) G) 72 (8 * z 0 2 + nm) (G 84 16)) (x := y) (s := z 0 2) (d := d) d2 (by omega) (by show ¬ z 0 7 = z 0 0; omega)
      rw [zSc_n] at hp
      have hu' : (zSc z) 0 7 = u := hu
      rw [hu'] at hp
      refine eW_z (z' := zSc z) (mu_eq rfl rfl) (f_call (b := 3) (p' := 4) (t := 1) clo_rS t3 hx m14 (Nat.lt_succ_self _) (by decide) hp (cT_1 s1) (by decide) hr ?_ ?_ rfl (by unfold kP; omega) ?_ ?_ (xV_c4 (Or.inl rfl) (fun q => by omega)))
      · unfold oNc oAp
        exact kp_bg (kp_gu (by unfold kpc; omega) (kp_gu (by unfold kpc; omega) (kp_gu (by unfold kpc; omega) (kp_gu (by unfold kpc; omega) (kp_gu (by unfold kpc; omega) (kp_op (kp_gu (by unfold kpc; omega) kp_rfl)))))))
      · unfold oCl oLa
        exact kp_ak (kp_gu (by unfold kpc; omega) (kp_gu (by unfold kpc; omega) (kp_gu (by unfold kpc; omega) (kp_gu (by unfold kpc; omega) (kp_gu (by unfold kpc; omega) (kp_gu (by unfold kpc; omega) (kp_gu (by unfold kpc; omega) (kp_gu (by unfold kpc; omega) (kp_gu (by unfold kpc; omega) (kp_or kp_rfl))))))))))
      · unfold oAp
        rw [gu_oo _ (by decide), gu_oo _ (by decide), op_n (by decide), gu_kk]; rfl
      · unfold oAp
        rw [gu_oo _ (by decide), gu_oo _ (by decide), op_n (by decide), gu_oo _ (by decide)]; exact hl
  · have e30 : ¬ G 122 u < 30000 := by
      rw [ej]
      intro q
      have := (nI_ltL (w := 30000 + j) (a := 30000) (b := 30000) rfl (by omega) (by decide)).mp q
      omega
    refine no (Or.inr e30) (fun R K hk => ?_)
    have e2 : nI (30000 + j) - 20000 = nI (10000 + j) := by
      have : 30000 + j = 20000 + (10000 + j) := by omega
      rw [this, ← nI_a 20000 (10000 + j) _ rfl]
      show nI 20000 + nI (10000 + j) - nI 20000 = nI (10000 + j)
      rw [Int32.add_comm, Int32.add_sub_cancel]
    rw [ej]
    unfold w_X3_isFunction w_X3_isFunction_j23 w_X3_isFunction_j24
    rw [e2, show (mxw (gu G 116 u (nI (e + 3 + 1))) R) 134 5 = nI (z 0 4) from Q20]
    exact pif_n (nI_nltx (b := 20000) rfl (by omega) (by omega)) (pif_p (nI_le (by omega) (by omega)) ⟨bz_0, hk⟩)
