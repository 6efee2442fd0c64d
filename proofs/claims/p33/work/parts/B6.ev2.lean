/-! VALUE EVENTS: two numbers are reckoned -/
def cl (r : Int32) : Int32 := mx (-9999) (mn 9999 r)
theorem i_ile {a b : Int32} : a ≤ b ↔ a.toInt ≤ b.toInt := Int32.le_iff_toInt_le
theorem i_99 : (9999 : Int32).toInt = 9999 ∧ (-9999 : Int32).toInt = -9999 := by decide
theorem cl_int (r : Int32) : (cl r).toInt = if r.toInt < 9999 then (if -9999 < r.toInt then r.toInt else -9999) else 9999 := by
  obtain ⟨a1, a2⟩ := i_99
  unfold cl mx mn
  by_cases c : r < 9999
  · have c' := c
    rw [Int32.lt_iff_toInt_lt, a1] at c'
    rw [if_pos c, if_pos c']
    by_cases d : (-9999 : Int32) < r
    · have d' := d
      rw [Int32.lt_iff_toInt_lt, a2] at d'
      rw [if_pos d, if_pos d']
    · have d' := d
      rw [Int32.lt_iff_toInt_lt, a2] at d'
      rw [if_neg d, if_neg d', a2]
  · have c' := c
    rw [Int32.lt_iff_toInt_lt, a1] at c'
    rw [if_neg c, if_neg c', if_pos (by decide), a1]
theorem cl_num (r : Int32) : isnum (cl r) := by
  obtain ⟨a1, a2⟩ := i_99
  unfold isnum
  rw [i_ile, i_ile, a1, a2, cl_int]
  split
  · split <;> omega
  · omega
theorem cl_in {r : Int32} (h : isnum r) : cl r = r := by
  obtain ⟨a1, a2⟩ := i_99
  unfold isnum at h
  rw [i_ile, i_ile, a1, a2] at h
  apply Int32.toInt_inj.mp
  rw [cl_int]
  split
  · split <;> omega
  · omega
theorem r_within {K : Int32 → Gt → Prop} {r : Int32} {G : Gt} (h : K (cl r) G) : w_X11_within K r G := by
  obtain ⟨a1, a2⟩ := i_99
  unfold w_X11_within w_X11_within_j27
  refine ⟨fun a => ⟨fun b => ?_, fun b => ?_⟩, fun a => ?_⟩
  · rwa [cl_in ⟨b, a⟩] at h
  · have e : cl r = -9999 := by
      rw [i_ile] at a b
      rw [a1] at a; rw [a2] at b
      apply Int32.toInt_inj.mp
      rw [cl_int, a2, if_pos (by omega), if_neg (by omega)]
    rwa [e] at h
  · have e : cl r = 9999 := by
      rw [i_ile, a1] at a
      apply Int32.toInt_inj.mp
      rw [cl_int, a1, if_neg (by omega)]
    rwa [e] at h
theorem cl_1 : cl 1 = 1 := by decide
theorem cl_0 : cl 0 = 0 := by decide
theorem div_num {a b : Int32} (ha : isnum a) (hb : ¬ b = 0) : isnum (a / b) := by
  unfold isnum at ha ⊢
  rw [i_ile, i_ile] at ha ⊢
  have a1 : (9999 : Int32).toInt = 9999 := by decide
  have a2 : (-9999 : Int32).toInt = -9999 := by decide
  rw [a1, a2] at ha ⊢
  have hm : a ≠ Int32.minValue := by
    intro e
    rw [e] at ha
    have : Int32.minValue.toInt = -2147483648 := by decide
    omega
  rw [Int32.toInt_div_of_ne_left _ _ hm]
  have := Int.natAbs_tdiv_le_natAbs a.toInt b.toInt
  omega
/-- a value is a number, or it is no number in both -/
theorem st_vv {N B : Nat} {z : Zt} {G : Gt} {x : Nat → Int32} {sp fp u k e : Nat} (h : st N B z G x sp fp u k e) {v : Int32} (hv : vV z v) : (isnum v ∧ inm v = 1 ∧ ¬ 20000 ≤ v) ∨ (¬ isnum v ∧ inm v = 0 ∧ 20000 ≤ v) := by
  have f4 := (st_f h).2.2.2.1
  have hR := h.1.1.2.2.2.2.2.2.2.2.2.2.2.2.2.2.2.2.2.2.1
  have r3 := hR.2.2.1
  have hb : ∀ j, j ≤ 20000 → ¬ isnum (nI (20000 + j)) ∧ 20000 ≤ nI (20000 + j) := by
    intro j hj
    have e : (nI (20000 + j)).toInt = 20000 + j := by rw [nI_toInt (by omega)]; omega
    have a1 : (9999 : Int32).toInt = 9999 := by decide
    have a3 : (20000 : Int32).toInt = 20000 := by decide
    refine ⟨fun q => ?_, ?_⟩
    · have := q.2
      rw [i_ile, e, a1] at this; omega
    · rw [i_ile, e, a3]; omega
  rcases hv with a | ⟨j, hj, rfl⟩ | ⟨j, hj, rfl⟩
  · left
    refine ⟨a, by rw [inm_bi, bi_T a], fun q => ?_⟩
    have := a.2
    have a1 : (9999 : Int32).toInt = 9999 := by decide
    have a3 : (20000 : Int32).toInt = 20000 := by decide
    rw [i_ile] at this q
    rw [a1] at this; rw [a3] at q; omega
  · right
    obtain ⟨q1, q2⟩ := hb j (by omega)
    exact ⟨q1, by rw [inm_bi, bi_F q1], q2⟩
  · right
    have e : 30000 + j = 20000 + (10000 + j) := by omega
    rw [e]
    obtain ⟨q1, q2⟩ := hb (10000 + j) (by omega)
    exact ⟨q1, by rw [inm_bi, bi_F q1], q2⟩
theorem i_10 : ¬ (1 : Int32) = 0 := by decide
theorem rat_u {G R : Gt} {u a : Nat} (hu : G 84 11 = nI u) (hu6 : u < 601) : rat (mxw G R) a 601 ((mxw G R) 84 11) = (mxw G R) a u := by
  rw [show (mxw G R) 84 11 = nI u from hu, rat_n hu6 (by decide)]
theorem r_isn {K : Int32 → Gt → Prop} {x : Int32} {G : Gt} (h : K (if 20000 ≤ x then 0 else 1) G) : w_X11_isNumber K x G := by
  unfold w_X11_isNumber w_X11_isNumber_j12
  refine ⟨fun a => ⟨bz_0, ?_⟩, fun a => ⟨bz_1, ?_⟩⟩
  · rwa [if_pos a] at h
  · rwa [if_neg a] at h
theorem i_rk_4 {G : Gt} {u p : Nat} {a b : Int32} (h : cAt G u p 4) (ha : G 122 u = a) (hb : G 84 16 = b) (na : ¬ inm a = 0) (nb : ¬ inm b = 0) : cS G (gu (gu G 116 u (nI (p + 1))) 84 16 (cl (a + b))) := by
  refine cS_r h (by decide) (fun R K hk => ?_)
  obtain ⟨h7, h12, h11, hu6, hp, hp2, hw0⟩ := h
  refine pif_n (by decide) (pif_n (by decide) (pif_n (by decide) (pif_n (by decide) (pif_n (by decide) (?_)))))
  show w_X2_reckon _ (nI 4) (rat (mxw (gu G 116 u (nI (p + 1))) R) 122 601 ((mxw (gu G 116 u (nI (p + 1))) R) 84 11)) (G 84 16) _
  rw [rat_u (G := gu G 116 u (nI (p + 1))) h11 hu6, show (mxw (gu G 116 u (nI (p + 1))) R) 122 u = a from ha, hb]
  exact pif_n na (pif_n nb (pif_n (by decide) (pif_p (by decide) (ptc rfl hk))))
theorem i_rk_4_t {G : Gt} {u p : Nat} {a b : Int32} (h : cAt G u p 4) (ha : G 122 u = a) (hb : G 84 16 = b) (nn : inm a = 0 ∨ inm b = 0) : cS G (oFl u (-3) (gu G 116 u (nI (p + 1)))) := by
  refine cS_r h (by decide) (fun R K hk => ?_)
  obtain ⟨h7, h12, h11, hu6, hp, hp2, hw0⟩ := h
  refine pif_n (by decide) (pif_n (by decide) (pif_n (by decide) (pif_n (by decide) (pif_n (by decide) (?_)))))
  show w_X2_reckon _ (nI 4) (rat (mxw (gu G 116 u (nI (p + 1))) R) 122 601 ((mxw (gu G 116 u (nI (p + 1))) R) 84 11)) (G 84 16) _
  rw [rat_u (G := gu G 116 u (nI (p + 1))) h11 hu6, show (mxw (gu G 116 u (nI (p + 1))) R) 122 u = a from ha, hb]
  have w := k_fail (G := gu G 116 u (nI (p + 1))) (R := R) (K := K) (e := -3) h11 hu6 hk
  by_cases na : inm a = 0
  · exact pif_p na w
  · refine pif_n na (pif_p ?_ w)
    rcases nn with q | q
    · exact absurd q na
    · exact q
theorem r_rk_4 {K : Gt → Prop} {C G : Gt} {f : Nat} {a b : Int32} (hf : f < 1220) (na : ¬ 20000 ≤ a) (nb : ¬ 20000 ≤ b) (hA : isnum a) (h : K (mxw C (oEn (cl (a + b)) (G 65 f) G))) : w_X11_reckons K (nI f) (nI 4) a b (mxw C G) := by
  refine pif_n (by decide) (r_isn ?_)
  rw [if_neg na]
  refine pif_n i_10 (r_isn ?_)
  rw [if_neg nb]
  refine pif_n i_10 ?_
  exact pif_n (by decide) (pif_p (by decide) (r_within (r_ends hf h)))
theorem r_rk_4_t {K : Gt → Prop} {C G : Gt} {f : Nat} {a b : Int32} (hf : f < 1220) (nn : 20000 ≤ a ∨ 20000 ≤ b) (h : K (mxw C (oFr f (-3) G))) : w_X11_reckons K (nI f) (nI 4) a b (mxw C G) := by
  refine pif_n (by decide) (r_isn ?_)
  by_cases c : 20000 ≤ a
  · rw [if_pos c]; exact pif_p rfl (r_fails hf h)
  · rw [if_neg c]
    refine pif_n i_10 (r_isn ?_)
    rcases nn with q | q
    · exact absurd q c
    · rw [if_pos q]; exact pif_p rfl (r_fails hf h)
theorem v_4_2 {N B : Nat} {z : Zt} {G : Gt} {x : Nat → Int32} {u e : Nat} (h : va N B z G x u 4 e 2) : eW N B z G (rS G) := by
  have hs := va_s h
  obtain ⟨f1, f2, f3, f4, f5, f6, f7, f8, f9, f10, f11, f12, f13, f14⟩ := st_f hs
  have hu := hs.2.1
  have hh := va_h h
  have hV := va_V h
  obtain ⟨v1, v2, v3⟩ := va_v h
  have kk := st_k hs
  have hx := va_x h (by decide)
  obtain ⟨w1, w2⟩ := xV_kept hV (by omega)
  have c3 := st_code hs (q := 3) (w := 4) (d := -1) (by rw [cd_4]; rfl)
  have c4 := st_code hs (q := 4) (w := 40) (d := -1) (by rw [cd_4]; rfl)
  have p1 := va_p h (q := 3) (by decide) rfl
  have hl := va_l h (show lao 4 2 = 0 from rfl)
  have h67 : ¬ G 67 (z 6 u) = 0 := by rw [xV_67b hV]; decide
  have hst := st_fr (Gc := gu G 116 u (nI (e + 3 + 1))) (Gr := G) (sp' := 0) (fp' := 0) hs (ag1 hu (by decide) agw_rfl) agw_rfl ⟨rfl, rfl, rfl, rfl, rfl⟩ (Nat.zero_le _) (Nat.le_refl _)
  have hla : (gu G 116 u (nI (e + 3 + 1))) 118 u = 0 := by rw [gu_oo _ (by decide)]; exact hl
  have nt : (20000 ≤ G 68 (z 6 u) ∨ 20000 ≤ G 46 42) → (inm (G 122 u) = 0 ∨ inm (G 84 16) = 0) → eW N B z G (rS G) := by
    intro q1 q2
    have s1 := i_rk_4_t (cat f1 p1 c3.2.2 c3.1) rfl rfl q2
    have hR := hV_4_1 (H := oFr (z 6 u) (-3) G) hh h67 (fun C K hk => r_rk_4_t f5 q1 hk)
    exact f_err (t := 1) clo_rS hst hx (by unfold isnum; decide) (cT_1 s1) (by decide) hR (kp_agw (ag1 hu (by decide) agw_rfl)) (kp_agw (z := z) agw_rfl) hla
  rcases st_vv hs w2 with ⟨a1, a2, a3⟩ | ⟨a1, a2, a3⟩
  · rcases st_vv hs v1 with ⟨b1, b2, b3⟩ | ⟨b1, b2, b3⟩
    · have na : ¬ inm (G 122 u) = 0 := by rw [a2]; decide
      have nb : ¬ inm (G 84 16) = 0 := by rw [b2]; decide
      have a3' : ¬ 20000 ≤ G 68 (z 6 u) := by rw [← w1]; exact a3
      have b3' : ¬ 20000 ≤ G 46 42 := by rw [v2]; exact b3
      have a1' : isnum (G 68 (z 6 u)) := by rw [← w1]; exact a1
      have s1 := i_rk_4 (cat f1 p1 c3.2.2 c3.1) rfl rfl na nb
      have hR := hV_4_1 (H := oEn _ (G 65 (z 6 u)) G) hh h67 (fun C K hk => r_rk_4 f5 a3' b3' a1' hk)
      rw [v2, ← w1] at hR
      have hst2 := st_fr (Gc := gu (gu G 116 u (nI (e + 3 + 1))) 84 16 (cl (G 122 u + G 84 16))) (Gr := G) (sp' := 1) (fp' := 0) hs (ag3 (by decide) (ag1 hu (by decide) agw_rfl)) agw_rfl ⟨rfl, rfl, rfl, rfl, rfl⟩ (Nat.le_refl _) (Nat.le_refl _)
      exact f_end (p := e + 4) (t := 1) clo_rS hst2 hx (cT_1 s1) (by decide) (by rw [gu_oo _ (by decide), gu_kk]) ⟨c4.1, c4.2.2⟩ hR rfl (by rw [gu_ko _ (by decide), gu_oo _ (by decide)]; exact v3) (by rw [gu_kk]) (Or.inl (cl_num _)) (kp_agw (ag3 (by decide) (ag1 hu (by decide) agw_rfl))) (kp_agw (z := z) agw_rfl)
    · exact nt (Or.inr (by rw [v2]; exact b3)) (Or.inr b2)
  · exact nt (Or.inl (by rw [← w1]; exact a3)) (Or.inl a2)
theorem i_rk_5 {G : Gt} {u p : Nat} {a b : Int32} (h : cAt G u p 5) (ha : G 122 u = a) (hb : G 84 16 = b) (na : ¬ inm a = 0) (nb : ¬ inm b = 0) : cS G (gu (gu G 116 u (nI (p + 1))) 84 16 (cl (a - b))) := by
  refine cS_r h (by decide) (fun R K hk => ?_)
  obtain ⟨h7, h12, h11, hu6, hp, hp2, hw0⟩ := h
  refine pif_n (by decide) (pif_n (by decide) (pif_n (by decide) (pif_n (by decide) (pif_n (by decide) (?_)))))
  show w_X2_reckon _ (nI 5) (rat (mxw (gu G 116 u (nI (p + 1))) R) 122 601 ((mxw (gu G 116 u (nI (p + 1))) R) 84 11)) (G 84 16) _
  rw [rat_u (G := gu G 116 u (nI (p + 1))) h11 hu6, show (mxw (gu G 116 u (nI (p + 1))) R) 122 u = a from ha, hb]
  exact pif_n na (pif_n nb (pif_n (by decide) (pif_n (by decide) (pif_p (by decide) (ptc rfl hk)))))
theorem i_rk_5_t {G : Gt} {u p : Nat} {a b : Int32} (h : cAt G u p 5) (ha : G 122 u = a) (hb : G 84 16 = b) (nn : inm a = 0 ∨ inm b = 0) : cS G (oFl u (-3) (gu G 116 u (nI (p + 1)))) := by
  refine cS_r h (by decide) (fun R K hk => ?_)
  obtain ⟨h7, h12, h11, hu6, hp, hp2, hw0⟩ := h
  refine pif_n (by decide) (pif_n (by decide) (pif_n (by decide) (pif_n (by decide) (pif_n (by decide) (?_)))))
  show w_X2_reckon _ (nI 5) (rat (mxw (gu G 116 u (nI (p + 1))) R) 122 601 ((mxw (gu G 116 u (nI (p + 1))) R) 84 11)) (G 84 16) _
  rw [rat_u (G := gu G 116 u (nI (p + 1))) h11 hu6, show (mxw (gu G 116 u (nI (p + 1))) R) 122 u = a from ha, hb]
  have w := k_fail (G := gu G 116 u (nI (p + 1))) (R := R) (K := K) (e := -3) h11 hu6 hk
  by_cases na : inm a = 0
  · exact pif_p na w
  · refine pif_n na (pif_p ?_ w)
    rcases nn with q | q
    · exact absurd q na
    · exact q
theorem r_rk_5 {K : Gt → Prop} {C G : Gt} {f : Nat} {a b : Int32} (hf : f < 1220) (na : ¬ 20000 ≤ a) (nb : ¬ 20000 ≤ b) (hA : isnum a) (h : K (mxw C (oEn (cl (a - b)) (G 65 f) G))) : w_X11_reckons K (nI f) (nI 5) a b (mxw C G) := by
  refine pif_n (by decide) (r_isn ?_)
  rw [if_neg na]
  refine pif_n i_10 (r_isn ?_)
  rw [if_neg nb]
  refine pif_n i_10 ?_
  exact pif_n (by decide) (pif_n (by decide) (pif_p (by decide) (r_within (r_ends hf h))))
theorem r_rk_5_t {K : Gt → Prop} {C G : Gt} {f : Nat} {a b : Int32} (hf : f < 1220) (nn : 20000 ≤ a ∨ 20000 ≤ b) (h : K (mxw C (oFr f (-3) G))) : w_X11_reckons K (nI f) (nI 5) a b (mxw C G) := by
  refine pif_n (by decide) (r_isn ?_)
  by_cases c : 20000 ≤ a
  · rw [if_pos c]; exact pif_p rfl (r_fails hf h)
  · rw [if_neg c]
    refine pif_n i_10 (r_isn ?_)
    rcases nn with q | q
    · exact absurd q c
    · rw [if_pos q]; exact pif_p rfl (r_fails hf h)
theorem v_5_2 {N B : Nat} {z : Zt} {G : Gt} {x : Nat → Int32} {u e : Nat} (h : va N B z G x u 5 e 2) : eW N B z G (rS G) := by
  have hs := va_s h
  obtain ⟨f1, f2, f3, f4, f5, f6, f7, f8, f9, f10, f11, f12, f13, f14⟩ := st_f hs
  have hu := hs.2.1
  have hh := va_h h
  have hV := va_V h
  obtain ⟨v1, v2, v3⟩ := va_v h
  have kk := st_k hs
  have hx := va_x h (by decide)
  obtain ⟨w1, w2⟩ := xV_kept hV (by omega)
  have c3 := st_code hs (q := 3) (w := 5) (d := -1) (by rw [cd_5]; rfl)
  have c4 := st_code hs (q := 4) (w := 40) (d := -1) (by rw [cd_5]; rfl)
  have p1 := va_p h (q := 3) (by decide) rfl
  have hl := va_l h (show lao 5 2 = 0 from rfl)
  have h67 : ¬ G 67 (z 6 u) = 0 := by rw [xV_67b hV]; decide
  have hst := st_fr (Gc := gu G 116 u (nI (e + 3 + 1))) (Gr := G) (sp' := 0) (fp' := 0) hs (ag1 hu (by decide) agw_rfl) agw_rfl ⟨rfl, rfl, rfl, rfl, rfl⟩ (Nat.zero_le _) (Nat.le_refl _)
  have hla : (gu G 116 u (nI (e + 3 + 1))) 118 u = 0 := by rw [gu_oo _ (by decide)]; exact hl
  have nt : (20000 ≤ G 68 (z 6 u) ∨ 20000 ≤ G 46 42) → (inm (G 122 u) = 0 ∨ inm (G 84 16) = 0) → eW N B z G (rS G) := by
    intro q1 q2
    have s1 := i_rk_5_t (cat f1 p1 c3.2.2 c3.1) rfl rfl q2
    have hR := hV_5_1 (H := oFr (z 6 u) (-3) G) hh h67 (fun C K hk => r_rk_5_t f5 q1 hk)
    exact f_err (t := 1) clo_rS hst hx (by unfold isnum; decide) (cT_1 s1) (by decide) hR (kp_agw (ag1 hu (by decide) agw_rfl)) (kp_agw (z := z) agw_rfl) hla
  rcases st_vv hs w2 with ⟨a1, a2, a3⟩ | ⟨a1, a2, a3⟩
  · rcases st_vv hs v1 with ⟨b1, b2, b3⟩ | ⟨b1, b2, b3⟩
    · have na : ¬ inm (G 122 u) = 0 := by rw [a2]; decide
      have nb : ¬ inm (G 84 16) = 0 := by rw [b2]; decide
      have a3' : ¬ 20000 ≤ G 68 (z 6 u) := by rw [← w1]; exact a3
      have b3' : ¬ 20000 ≤ G 46 42 := by rw [v2]; exact b3
      have a1' : isnum (G 68 (z 6 u)) := by rw [← w1]; exact a1
      have s1 := i_rk_5 (cat f1 p1 c3.2.2 c3.1) rfl rfl na nb
      have hR := hV_5_1 (H := oEn _ (G 65 (z 6 u)) G) hh h67 (fun C K hk => r_rk_5 f5 a3' b3' a1' hk)
      rw [v2, ← w1] at hR
      have hst2 := st_fr (Gc := gu (gu G 116 u (nI (e + 3 + 1))) 84 16 (cl (G 122 u - G 84 16))) (Gr := G) (sp' := 1) (fp' := 0) hs (ag3 (by decide) (ag1 hu (by decide) agw_rfl)) agw_rfl ⟨rfl, rfl, rfl, rfl, rfl⟩ (Nat.le_refl _) (Nat.le_refl _)
      exact f_end (p := e + 4) (t := 1) clo_rS hst2 hx (cT_1 s1) (by decide) (by rw [gu_oo _ (by decide), gu_kk]) ⟨c4.1, c4.2.2⟩ hR rfl (by rw [gu_ko _ (by decide), gu_oo _ (by decide)]; exact v3) (by rw [gu_kk]) (Or.inl (cl_num _)) (kp_agw (ag3 (by decide) (ag1 hu (by decide) agw_rfl))) (kp_agw (z := z) agw_rfl)
    · exact nt (Or.inr (by rw [v2]; exact b3)) (Or.inr b2)
  · exact nt (Or.inl (by rw [← w1]; exact a3)) (Or.inl a2)
theorem i_rk_6 {G : Gt} {u p : Nat} {a b : Int32} (h : cAt G u p 6) (ha : G 122 u = a) (hb : G 84 16 = b) (na : ¬ inm a = 0) (nb : ¬ inm b = 0) : cS G (gu (gu G 116 u (nI (p + 1))) 84 16 (cl (a * b))) := by
  refine cS_r h (by decide) (fun R K hk => ?_)
  obtain ⟨h7, h12, h11, hu6, hp, hp2, hw0⟩ := h
  refine pif_n (by decide) (pif_n (by decide) (pif_n (by decide) (pif_n (by decide) (pif_n (by decide) (?_)))))
  show w_X2_reckon _ (nI 6) (rat (mxw (gu G 116 u (nI (p + 1))) R) 122 601 ((mxw (gu G 116 u (nI (p + 1))) R) 84 11)) (G 84 16) _
  rw [rat_u (G := gu G 116 u (nI (p + 1))) h11 hu6, show (mxw (gu G 116 u (nI (p + 1))) R) 122 u = a from ha, hb]
  exact pif_n na (pif_n nb (pif_n (by decide) (pif_n (by decide) (pif_n (by decide) (pif_p (by decide) (ptc rfl hk))))))
theorem i_rk_6_t {G : Gt} {u p : Nat} {a b : Int32} (h : cAt G u p 6) (ha : G 122 u = a) (hb : G 84 16 = b) (nn : inm a = 0 ∨ inm b = 0) : cS G (oFl u (-3) (gu G 116 u (nI (p + 1)))) := by
  refine cS_r h (by decide) (fun R K hk => ?_)
  obtain ⟨h7, h12, h11, hu6, hp, hp2, hw0⟩ := h
  refine pif_n (by decide) (pif_n (by decide) (pif_n (by decide) (pif_n (by decide) (pif_n (by decide) (?_)))))
  show w_X2_reckon _ (nI 6) (rat (mxw (gu G 116 u (nI (p + 1))) R) 122 601 ((mxw (gu G 116 u (nI (p + 1))) R) 84 11)) (G 84 16) _
  rw [rat_u (G := gu G 116 u (nI (p + 1))) h11 hu6, show (mxw (gu G 116 u (nI (p + 1))) R) 122 u = a from ha, hb]
  have w := k_fail (G := gu G 116 u (nI (p + 1))) (R := R) (K := K) (e := -3) h11 hu6 hk
  by_cases na : inm a = 0
  · exact pif_p na w
  · refine pif_n na (pif_p ?_ w)
    rcases nn with q | q
    · exact absurd q na
    · exact q
theorem r_rk_6 {K : Gt → Prop} {C G : Gt} {f : Nat} {a b : Int32} (hf : f < 1220) (na : ¬ 20000 ≤ a) (nb : ¬ 20000 ≤ b) (hA : isnum a) (h : K (mxw C (oEn (cl (a * b)) (G 65 f) G))) : w_X11_reckons K (nI f) (nI 6) a b (mxw C G) := by
  refine pif_n (by decide) (r_isn ?_)
  rw [if_neg na]
  refine pif_n i_10 (r_isn ?_)
  rw [if_neg nb]
  refine pif_n i_10 ?_
  exact pif_n (by decide) (pif_n (by decide) (pif_n (by decide) (pif_p (by decide) (r_within (r_ends hf h)))))
theorem r_rk_6_t {K : Gt → Prop} {C G : Gt} {f : Nat} {a b : Int32} (hf : f < 1220) (nn : 20000 ≤ a ∨ 20000 ≤ b) (h : K (mxw C (oFr f (-3) G))) : w_X11_reckons K (nI f) (nI 6) a b (mxw C G) := by
  refine pif_n (by decide) (r_isn ?_)
  by_cases c : 20000 ≤ a
  · rw [if_pos c]; exact pif_p rfl (r_fails hf h)
  · rw [if_neg c]
    refine pif_n i_10 (r_isn ?_)
    rcases nn with q | q
    · exact absurd q c
    · rw [if_pos q]; exact pif_p rfl (r_fails hf h)
theorem v_6_2 {N B : Nat} {z : Zt} {G : Gt} {x : Nat → Int32} {u e : Nat} (h : va N B z G x u 6 e 2) : eW N B z G (rS G) := by
  have hs := va_s h
  obtain ⟨f1, f2, f3, f4, f5, f6, f7, f8, f9, f10, f11, f12, f13, f14⟩ := st_f hs
  have hu := hs.2.1
  have hh := va_h h
  have hV := va_V h
  obtain ⟨v1, v2, v3⟩ := va_v h
  have kk := st_k hs
  have hx := va_x h (by decide)
  obtain ⟨w1, w2⟩ := xV_kept hV (by omega)
  have c3 := st_code hs (q := 3) (w := 6) (d := -1) (by rw [cd_6]; rfl)
  have c4 := st_code hs (q := 4) (w := 40) (d := -1) (by rw [cd_6]; rfl)
  have p1 := va_p h (q := 3) (by decide) rfl
  have hl := va_l h (show lao 6 2 = 0 from rfl)
  have h67 : ¬ G 67 (z 6 u) = 0 := by rw [xV_67b hV]; decide
  have hst := st_fr (Gc := gu G 116 u (nI (e + 3 + 1))) (Gr := G) (sp' := 0) (fp' := 0) hs (ag1 hu (by decide) agw_rfl) agw_rfl ⟨rfl, rfl, rfl, rfl, rfl⟩ (Nat.zero_le _) (Nat.le_refl _)
  have hla : (gu G 116 u (nI (e + 3 + 1))) 118 u = 0 := by rw [gu_oo _ (by decide)]; exact hl
  have nt : (20000 ≤ G 68 (z 6 u) ∨ 20000 ≤ G 46 42) → (inm (G 122 u) = 0 ∨ inm (G 84 16) = 0) → eW N B z G (rS G) := by
    intro q1 q2
    have s1 := i_rk_6_t (cat f1 p1 c3.2.2 c3.1) rfl rfl q2
    have hR := hV_6_1 (H := oFr (z 6 u) (-3) G) hh h67 (fun C K hk => r_rk_6_t f5 q1 hk)
    exact f_err (t := 1) clo_rS hst hx (by unfold isnum; decide) (cT_1 s1) (by decide) hR (kp_agw (ag1 hu (by decide) agw_rfl)) (kp_agw (z := z) agw_rfl) hla
  rcases st_vv hs w2 with ⟨a1, a2, a3⟩ | ⟨a1, a2, a3⟩
  · rcases st_vv hs v1 with ⟨b1, b2, b3⟩ | ⟨b1, b2, b3⟩
    · have na : ¬ inm (G 122 u) = 0 := by rw [a2]; decide
      have nb : ¬ inm (G 84 16) = 0 := by rw [b2]; decide
      have a3' : ¬ 20000 ≤ G 68 (z 6 u) := by rw [← w1]; exact a3
      have b3' : ¬ 20000 ≤ G 46 42 := by rw [v2]; exact b3
      have a1' : isnum (G 68 (z 6 u)) := by rw [← w1]; exact a1
      have s1 := i_rk_6 (cat f1 p1 c3.2.2 c3.1) rfl rfl na nb
      have hR := hV_6_1 (H := oEn _ (G 65 (z 6 u)) G) hh h67 (fun C K hk => r_rk_6 f5 a3' b3' a1' hk)
      rw [v2, ← w1] at hR
      have hst2 := st_fr (Gc := gu (gu G 116 u (nI (e + 3 + 1))) 84 16 (cl (G 122 u * G 84 16))) (Gr := G) (sp' := 1) (fp' := 0) hs (ag3 (by decide) (ag1 hu (by decide) agw_rfl)) agw_rfl ⟨rfl, rfl, rfl, rfl, rfl⟩ (Nat.le_refl _) (Nat.le_refl _)
      exact f_end (p := e + 4) (t := 1) clo_rS hst2 hx (cT_1 s1) (by decide) (by rw [gu_oo _ (by decide), gu_kk]) ⟨c4.1, c4.2.2⟩ hR rfl (by rw [gu_ko _ (by decide), gu_oo _ (by decide)]; exact v3) (by rw [gu_kk]) (Or.inl (cl_num _)) (kp_agw (ag3 (by decide) (ag1 hu (by decide) agw_rfl))) (kp_agw (z := z) agw_rfl)
    · exact nt (Or.inr (by rw [v2]; exact b3)) (Or.inr b2)
  · exact nt (Or.inl (by rw [← w1]; exact a3)) (Or.inl a2)
theorem i_rk_7 {G : Gt} {u p : Nat} {a b : Int32} (h : cAt G u p 7) (ha : G 122 u = a) (hb : G 84 16 = b) (na : ¬ inm a = 0) (nb : ¬ inm b = 0) (b0 : ¬ b = 0) : cS G (gu (gu G 116 u (nI (p + 1))) 84 16 (cl (a / b))) := by
  refine cS_r h (by decide) (fun R K hk => ?_)
  obtain ⟨h7, h12, h11, hu6, hp, hp2, hw0⟩ := h
  refine pif_n (by decide) (pif_n (by decide) (pif_n (by decide) (pif_n (by decide) (pif_n (by decide) (?_)))))
  show w_X2_reckon _ (nI 7) (rat (mxw (gu G 116 u (nI (p + 1))) R) 122 601 ((mxw (gu G 116 u (nI (p + 1))) R) 84 11)) (G 84 16) _
  rw [rat_u (G := gu G 116 u (nI (p + 1))) h11 hu6, show (mxw (gu G 116 u (nI (p + 1))) R) 122 u = a from ha, hb]
  exact pif_n na (pif_n nb (pif_p rfl (pif_n b0 (pif_n (by decide) (pif_n (by decide) (pif_n (by decide) (pif_p rfl (pif_n b0 ⟨b0, ptc rfl hk⟩))))))))
theorem i_rk_7_t {G : Gt} {u p : Nat} {a b : Int32} (h : cAt G u p 7) (ha : G 122 u = a) (hb : G 84 16 = b) (nn : inm a = 0 ∨ inm b = 0) : cS G (oFl u (-3) (gu G 116 u (nI (p + 1)))) := by
  refine cS_r h (by decide) (fun R K hk => ?_)
  obtain ⟨h7, h12, h11, hu6, hp, hp2, hw0⟩ := h
  refine pif_n (by decide) (pif_n (by decide) (pif_n (by decide) (pif_n (by decide) (pif_n (by decide) (?_)))))
  show w_X2_reckon _ (nI 7) (rat (mxw (gu G 116 u (nI (p + 1))) R) 122 601 ((mxw (gu G 116 u (nI (p + 1))) R) 84 11)) (G 84 16) _
  rw [rat_u (G := gu G 116 u (nI (p + 1))) h11 hu6, show (mxw (gu G 116 u (nI (p + 1))) R) 122 u = a from ha, hb]
  have w := k_fail (G := gu G 116 u (nI (p + 1))) (R := R) (K := K) (e := -3) h11 hu6 hk
  by_cases na : inm a = 0
  · exact pif_p na w
  · refine pif_n na (pif_p ?_ w)
    rcases nn with q | q
    · exact absurd q na
    · exact q
theorem i_rk_7_z {G : Gt} {u p : Nat} {a b : Int32} (h : cAt G u p 7) (ha : G 122 u = a) (hb : G 84 16 = b) (na : ¬ inm a = 0) (nb : ¬ inm b = 0) (b0 : b = 0) : cS G (oFl u (-2) (gu G 116 u (nI (p + 1)))) := by
  refine cS_r h (by decide) (fun R K hk => ?_)
  obtain ⟨h7, h12, h11, hu6, hp, hp2, hw0⟩ := h
  refine pif_n (by decide) (pif_n (by decide) (pif_n (by decide) (pif_n (by decide) (pif_n (by decide) (?_)))))
  show w_X2_reckon _ (nI 7) (rat (mxw (gu G 116 u (nI (p + 1))) R) 122 601 ((mxw (gu G 116 u (nI (p + 1))) R) 84 11)) (G 84 16) _
  rw [rat_u (G := gu G 116 u (nI (p + 1))) h11 hu6, show (mxw (gu G 116 u (nI (p + 1))) R) 122 u = a from ha, hb]
  exact pif_n na (pif_n nb (pif_p rfl (pif_p b0 (k_fail (G := gu G 116 u (nI (p + 1))) (R := R) (K := K) (e := -2) h11 hu6 hk))))
theorem r_rk_7 {K : Gt → Prop} {C G : Gt} {f : Nat} {a b : Int32} (hf : f < 1220) (na : ¬ 20000 ≤ a) (nb : ¬ 20000 ≤ b) (b0 : ¬ b = 0) (hA : isnum a) (h : K (mxw C (oEn (cl (a / b)) (G 65 f) G))) : w_X11_reckons K (nI f) (nI 7) a b (mxw C G) := by
  refine pif_n (by decide) (r_isn ?_)
  rw [if_neg na]
  refine pif_n i_10 (r_isn ?_)
  rw [if_neg nb]
  refine pif_n i_10 ?_
  rw [cl_in (div_num hA b0)] at h
  exact pif_p rfl (pif_n b0 (pif_n (by decide) (pif_n (by decide) (pif_n (by decide) (pif_p rfl ⟨b0, r_ends hf h⟩)))))
theorem r_rk_7_t {K : Gt → Prop} {C G : Gt} {f : Nat} {a b : Int32} (hf : f < 1220) (nn : 20000 ≤ a ∨ 20000 ≤ b) (h : K (mxw C (oFr f (-3) G))) : w_X11_reckons K (nI f) (nI 7) a b (mxw C G) := by
  refine pif_n (by decide) (r_isn ?_)
  by_cases c : 20000 ≤ a
  · rw [if_pos c]; exact pif_p rfl (r_fails hf h)
  · rw [if_neg c]
    refine pif_n i_10 (r_isn ?_)
    rcases nn with q | q
    · exact absurd q c
    · rw [if_pos q]; exact pif_p rfl (r_fails hf h)
theorem r_rk_7_z {K : Gt → Prop} {C G : Gt} {f : Nat} {a b : Int32} (hf : f < 1220) (na : ¬ 20000 ≤ a) (nb : ¬ 20000 ≤ b) (b0 : b = 0) (h : K (mxw C (oFr f (-2) G))) : w_X11_reckons K (nI f) (nI 7) a b (mxw C G) := by
  refine pif_n (by decide) (r_isn ?_)
  rw [if_neg na]
  refine pif_n i_10 (r_isn ?_)
  rw [if_neg nb]
  exact pif_n i_10 (pif_p rfl (pif_p b0 (r_fails hf h)))
theorem v_7_2 {N B : Nat} {z : Zt} {G : Gt} {x : Nat → Int32} {u e : Nat} (h : va N B z G x u 7 e 2) : eW N B z G (rS G) := by
  have hs := va_s h
  obtain ⟨f1, f2, f3, f4, f5, f6, f7, f8, f9, f10, f11, f12, f13, f14⟩ := st_f hs
  have hu := hs.2.1
  have hh := va_h h
  have hV := va_V h
  obtain ⟨v1, v2, v3⟩ := va_v h
  have kk := st_k hs
  have hx := va_x h (by decide)
  obtain ⟨w1, w2⟩ := xV_kept hV (by omega)
  have c3 := st_code hs (q := 3) (w := 7) (d := -1) (by rw [cd_7]; rfl)
  have c4 := st_code hs (q := 4) (w := 40) (d := -1) (by rw [cd_7]; rfl)
  have p1 := va_p h (q := 3) (by decide) rfl
  have hl := va_l h (show lao 7 2 = 0 from rfl)
  have h67 : ¬ G 67 (z 6 u) = 0 := by rw [xV_67b hV]; decide
  have hst := st_fr (Gc := gu G 116 u (nI (e + 3 + 1))) (Gr := G) (sp' := 0) (fp' := 0) hs (ag1 hu (by decide) agw_rfl) agw_rfl ⟨rfl, rfl, rfl, rfl, rfl⟩ (Nat.zero_le _) (Nat.le_refl _)
  have hla : (gu G 116 u (nI (e + 3 + 1))) 118 u = 0 := by rw [gu_oo _ (by decide)]; exact hl
  have nt : (20000 ≤ G 68 (z 6 u) ∨ 20000 ≤ G 46 42) → (inm (G 122 u) = 0 ∨ inm (G 84 16) = 0) → eW N B z G (rS G) := by
    intro q1 q2
    have s1 := i_rk_7_t (cat f1 p1 c3.2.2 c3.1) rfl rfl q2
    have hR := hV_7_1 (H := oFr (z 6 u) (-3) G) hh h67 (fun C K hk => r_rk_7_t f5 q1 hk)
    exact f_err (t := 1) clo_rS hst hx (by unfold isnum; decide) (cT_1 s1) (by decide) hR (kp_agw (ag1 hu (by decide) agw_rfl)) (kp_agw (z := z) agw_rfl) hla
  rcases st_vv hs w2 with ⟨a1, a2, a3⟩ | ⟨a1, a2, a3⟩
  · rcases st_vv hs v1 with ⟨b1, b2, b3⟩ | ⟨b1, b2, b3⟩
    · have na : ¬ inm (G 122 u) = 0 := by rw [a2]; decide
      have nb : ¬ inm (G 84 16) = 0 := by rw [b2]; decide
      have a3' : ¬ 20000 ≤ G 68 (z 6 u) := by rw [← w1]; exact a3
      have b3' : ¬ 20000 ≤ G 46 42 := by rw [v2]; exact b3
      have a1' : isnum (G 68 (z 6 u)) := by rw [← w1]; exact a1
      by_cases c : G 84 16 = 0
      · have s1 := i_rk_7_z (cat f1 p1 c3.2.2 c3.1) rfl rfl na nb c
        have hR := hV_7_1 (H := oFr (z 6 u) (-2) G) hh h67 (fun C K hk => r_rk_7_z f5 a3' b3' (v2.trans c) hk)
        exact f_err (t := 1) clo_rS hst hx (by unfold isnum; decide) (cT_1 s1) (by decide) hR (kp_agw (ag1 hu (by decide) agw_rfl)) (kp_agw (z := z) agw_rfl) hla
      · have s1 := i_rk_7 (cat f1 p1 c3.2.2 c3.1) rfl rfl na nb c
        have hR := hV_7_1 (H := oEn _ (G 65 (z 6 u)) G) hh h67 (fun C K hk => r_rk_7 f5 a3' b3' (by rw [v2]; exact c) a1' hk)
        rw [v2, ← w1] at hR
        have hst2 := st_fr (Gc := gu (gu G 116 u (nI (e + 3 + 1))) 84 16 (cl (G 122 u / G 84 16))) (Gr := G) (sp' := 1) (fp' := 0) hs (ag3 (by decide) (ag1 hu (by decide) agw_rfl)) agw_rfl ⟨rfl, rfl, rfl, rfl, rfl⟩ (Nat.le_refl _) (Nat.le_refl _)
        exact f_end (p := e + 4) (t := 1) clo_rS hst2 hx (cT_1 s1) (by decide) (by rw [gu_oo _ (by decide), gu_kk]) ⟨c4.1, c4.2.2⟩ hR rfl (by rw [gu_ko _ (by decide), gu_oo _ (by decide)]; exact v3) (by rw [gu_kk]) (Or.inl (cl_num _)) (kp_agw (ag3 (by decide) (ag1 hu (by decide) agw_rfl))) (kp_agw (z := z) agw_rfl)
    · exact nt (Or.inr (by rw [v2]; exact b3)) (Or.inr b2)
  · exact nt (Or.inl (by rw [← w1]; exact a3)) (Or.inl a2)
theorem i_rk_8 {G : Gt} {u p : Nat} {a b : Int32} (h : cAt G u p 8) (ha : G 122 u = a) (hb : G 84 16 = b) (na : ¬ inm a = 0) (nb : ¬ inm b = 0) : cS G (gu (gu G 116 u (nI (p + 1))) 84 16 (cl ((if b ≤ a then 0 else 1)))) := by
  refine cS_r h (by decide) (fun R K hk => ?_)
  obtain ⟨h7, h12, h11, hu6, hp, hp2, hw0⟩ := h
  refine pif_n (by decide) (pif_n (by decide) (pif_n (by decide) (pif_n (by decide) (pif_n (by decide) (?_)))))
  show w_X2_reckon _ (nI 8) (rat (mxw (gu G 116 u (nI (p + 1))) R) 122 601 ((mxw (gu G 116 u (nI (p + 1))) R) 84 11)) (G 84 16) _
  rw [rat_u (G := gu G 116 u (nI (p + 1))) h11 hu6, show (mxw (gu G 116 u (nI (p + 1))) R) 122 u = a from ha, hb]
  refine pif_n na (pif_n nb (pif_n (by decide) (pif_n (by decide) (pif_n (by decide) (pif_n (by decide) (pif_n (by decide) (pif_p rfl ?_)))))))
  by_cases c : b ≤ a
  · rw [if_pos c] at hk; exact pif_p c (ptc rfl hk)
  · rw [if_neg c] at hk; exact pif_n c (ptc rfl hk)
theorem i_rk_8_t {G : Gt} {u p : Nat} {a b : Int32} (h : cAt G u p 8) (ha : G 122 u = a) (hb : G 84 16 = b) (nn : inm a = 0 ∨ inm b = 0) : cS G (oFl u (-3) (gu G 116 u (nI (p + 1)))) := by
  refine cS_r h (by decide) (fun R K hk => ?_)
  obtain ⟨h7, h12, h11, hu6, hp, hp2, hw0⟩ := h
  refine pif_n (by decide) (pif_n (by decide) (pif_n (by decide) (pif_n (by decide) (pif_n (by decide) (?_)))))
  show w_X2_reckon _ (nI 8) (rat (mxw (gu G 116 u (nI (p + 1))) R) 122 601 ((mxw (gu G 116 u (nI (p + 1))) R) 84 11)) (G 84 16) _
  rw [rat_u (G := gu G 116 u (nI (p + 1))) h11 hu6, show (mxw (gu G 116 u (nI (p + 1))) R) 122 u = a from ha, hb]
  have w := k_fail (G := gu G 116 u (nI (p + 1))) (R := R) (K := K) (e := -3) h11 hu6 hk
  by_cases na : inm a = 0
  · exact pif_p na w
  · refine pif_n na (pif_p ?_ w)
    rcases nn with q | q
    · exact absurd q na
    · exact q
theorem r_rk_8 {K : Gt → Prop} {C G : Gt} {f : Nat} {a b : Int32} (hf : f < 1220) (na : ¬ 20000 ≤ a) (nb : ¬ 20000 ≤ b) (hA : isnum a) (h : K (mxw C (oEn (cl ((if b ≤ a then 0 else 1))) (G 65 f) G))) : w_X11_reckons K (nI f) (nI 8) a b (mxw C G) := by
  refine pif_n (by decide) (r_isn ?_)
  rw [if_neg na]
  refine pif_n i_10 (r_isn ?_)
  rw [if_neg nb]
  refine pif_n i_10 ?_
  refine pif_n (by decide) (pif_n (by decide) (pif_n (by decide) (pif_n (by decide) (pif_n (by decide) ?_))))
  by_cases c : b ≤ a
  · rw [if_pos c, cl_0] at h; exact pif_p c (r_ends hf h)
  · rw [if_neg c, cl_1] at h; exact pif_n c (r_ends hf h)
theorem r_rk_8_t {K : Gt → Prop} {C G : Gt} {f : Nat} {a b : Int32} (hf : f < 1220) (nn : 20000 ≤ a ∨ 20000 ≤ b) (h : K (mxw C (oFr f (-3) G))) : w_X11_reckons K (nI f) (nI 8) a b (mxw C G) := by
  refine pif_n (by decide) (r_isn ?_)
  by_cases c : 20000 ≤ a
  · rw [if_pos c]; exact pif_p rfl (r_fails hf h)
  · rw [if_neg c]
    refine pif_n i_10 (r_isn ?_)
    rcases nn with q | q
    · exact absurd q c
    · rw [if_pos q]; exact pif_p rfl (r_fails hf h)
theorem v_8_2 {N B : Nat} {z : Zt} {G : Gt} {x : Nat → Int32} {u e : Nat} (h : va N B z G x u 8 e 2) : eW N B z G (rS G) := by
  have hs := va_s h
  obtain ⟨f1, f2, f3, f4, f5, f6, f7, f8, f9, f10, f11, f12, f13, f14⟩ := st_f hs
  have hu := hs.2.1
  have hh := va_h h
  have hV := va_V h
  obtain ⟨v1, v2, v3⟩ := va_v h
  have kk := st_k hs
  have hx := va_x h (by decide)
  obtain ⟨w1, w2⟩ := xV_kept hV (by omega)
  have c3 := st_code hs (q := 3) (w := 8) (d := -1) (by rw [cd_8]; rfl)
  have c4 := st_code hs (q := 4) (w := 40) (d := -1) (by rw [cd_8]; rfl)
  have p1 := va_p h (q := 3) (by decide) rfl
  have hl := va_l h (show lao 8 2 = 0 from rfl)
  have h67 : ¬ G 67 (z 6 u) = 0 := by rw [xV_67b hV]; decide
  have hst := st_fr (Gc := gu G 116 u (nI (e + 3 + 1))) (Gr := G) (sp' := 0) (fp' := 0) hs (ag1 hu (by decide) agw_rfl) agw_rfl ⟨rfl, rfl, rfl, rfl, rfl⟩ (Nat.zero_le _) (Nat.le_refl _)
  have hla : (gu G 116 u (nI (e + 3 + 1))) 118 u = 0 := by rw [gu_oo _ (by decide)]; exact hl
  have nt : (20000 ≤ G 68 (z 6 u) ∨ 20000 ≤ G 46 42) → (inm (G 122 u) = 0 ∨ inm (G 84 16) = 0) → eW N B z G (rS G) := by
    intro q1 q2
    have s1 := i_rk_8_t (cat f1 p1 c3.2.2 c3.1) rfl rfl q2
    have hR := hV_8_1 (H := oFr (z 6 u) (-3) G) hh h67 (fun C K hk => r_rk_8_t f5 q1 hk)
    exact f_err (t := 1) clo_rS hst hx (by unfold isnum; decide) (cT_1 s1) (by decide) hR (kp_agw (ag1 hu (by decide) agw_rfl)) (kp_agw (z := z) agw_rfl) hla
  rcases st_vv hs w2 with ⟨a1, a2, a3⟩ | ⟨a1, a2, a3⟩
  · rcases st_vv hs v1 with ⟨b1, b2, b3⟩ | ⟨b1, b2, b3⟩
    · have na : ¬ inm (G 122 u) = 0 := by rw [a2]; decide
      have nb : ¬ inm (G 84 16) = 0 := by rw [b2]; decide
      have a3' : ¬ 20000 ≤ G 68 (z 6 u) := by rw [← w1]; exact a3
      have b3' : ¬ 20000 ≤ G 46 42 := by rw [v2]; exact b3
      have a1' : isnum (G 68 (z 6 u)) := by rw [← w1]; exact a1
      have s1 := i_rk_8 (cat f1 p1 c3.2.2 c3.1) rfl rfl na nb
      have hR := hV_8_1 (H := oEn _ (G 65 (z 6 u)) G) hh h67 (fun C K hk => r_rk_8 f5 a3' b3' a1' hk)
      rw [v2, ← w1] at hR
      have hst2 := st_fr (Gc := gu (gu G 116 u (nI (e + 3 + 1))) 84 16 (cl ((if G 84 16 ≤ G 122 u then 0 else 1)))) (Gr := G) (sp' := 1) (fp' := 0) hs (ag3 (by decide) (ag1 hu (by decide) agw_rfl)) agw_rfl ⟨rfl, rfl, rfl, rfl, rfl⟩ (Nat.le_refl _) (Nat.le_refl _)
      exact f_end (p := e + 4) (t := 1) clo_rS hst2 hx (cT_1 s1) (by decide) (by rw [gu_oo _ (by decide), gu_kk]) ⟨c4.1, c4.2.2⟩ hR rfl (by rw [gu_ko _ (by decide), gu_oo _ (by decide)]; exact v3) (by rw [gu_kk]) (Or.inl (cl_num _)) (kp_agw (ag3 (by decide) (ag1 hu (by decide) agw_rfl))) (kp_agw (z := z) agw_rfl)
    · exact nt (Or.inr (by rw [v2]; exact b3)) (Or.inr b2)
  · exact nt (Or.inl (by rw [← w1]; exact a3)) (Or.inl a2)
theorem i_sm {G : Gt} {u p : Nat} (h : cAt G u p 9) : cS G (gu (gu G 116 u (nI (p + 1))) 84 16 (bi (G 122 u = G 84 16))) := by
  refine cS_r h (by decide) (fun R K hk => ?_)
  obtain ⟨h7, h12, h11, hu6, hp, hp2, hw0⟩ := h
  refine pif_n (by decide) (pif_n (by decide) (pif_n (by decide) (pif_n (by decide) (pif_p (by decide) ?_))))
  rw [rat_u (G := gu G 116 u (nI (p + 1))) h11 hu6, show (mxw (gu G 116 u (nI (p + 1))) R) 122 u = G 122 u from rfl, show (mxw (gu G 116 u (nI (p + 1))) R) 84 16 = G 84 16 from rfl]
  by_cases c : G 122 u = G 84 16
  · rw [bi_T c] at hk; exact pif_p c (ptc rfl hk)
  · rw [bi_F c] at hk; exact pif_n c (ptc rfl hk)
theorem v_9_2 {N B : Nat} {z : Zt} {G : Gt} {x : Nat → Int32} {u e : Nat} (h : va N B z G x u 9 e 2) : eW N B z G (rS G) := by
  have hs := va_s h
  obtain ⟨f1, f2, f3, f4, f5, f6, f7, f8, f9, f10, f11, f12, f13, f14⟩ := st_f hs
  have hu := hs.2.1
  have hh := va_h h
  have hV := va_V h
  obtain ⟨v1, v2, v3⟩ := va_v h
  have kk := st_k hs
  have hx := va_x h (by decide)
  obtain ⟨w1, w2⟩ := xV_kept hV (by omega)
  have c3 := st_code hs (q := 3) (w := 9) (d := -1) (by rw [cd_9]; rfl)
  have c4 := st_code hs (q := 4) (w := 40) (d := -1) (by rw [cd_9]; rfl)
  have p1 := va_p h (q := 3) (by decide) rfl
  have h67 : ¬ G 67 (z 6 u) = 0 := by rw [xV_67b hV]; decide
  have s1 := i_sm (cat f1 p1 c3.2.2 c3.1)
  have hR := hV_9_1 (H := oEn (bi (G 122 u = G 84 16)) (G 65 (z 6 u)) G) hh h67 (fun C K hk => by
    rw [v2, ← w1]
    refine pif_p (by decide) ?_
    by_cases c : G 122 u = G 84 16
    · rw [bi_T c] at hk; exact pif_p c (r_ends f5 hk)
    · rw [bi_F c] at hk; exact pif_n c (r_ends f5 hk))
  have hst2 := st_fr (Gc := gu (gu G 116 u (nI (e + 3 + 1))) 84 16 (bi (G 122 u = G 84 16))) (Gr := G) (sp' := 1) (fp' := 0) hs (ag3 (by decide) (ag1 hu (by decide) agw_rfl)) agw_rfl ⟨rfl, rfl, rfl, rfl, rfl⟩ (Nat.le_refl _) (Nat.le_refl _)
  have hn : isnum (bi (G 122 u = G 84 16)) := by
    by_cases c : G 122 u = G 84 16
    · rw [bi_T c]; unfold isnum; decide
    · rw [bi_F c]; unfold isnum; decide
  exact f_end (p := e + 4) (t := 1) clo_rS hst2 hx (cT_1 s1) (by decide) (by rw [gu_oo _ (by decide), gu_kk]) ⟨c4.1, c4.2.2⟩ hR rfl (by rw [gu_ko _ (by decide), gu_oo _ (by decide)]; exact v3) (by rw [gu_kk]) (Or.inl hn) (kp_agw (ag3 (by decide) (ag1 hu (by decide) agw_rfl))) (kp_agw (z := z) agw_rfl)
