/-! P33: makes -/
theorem l_node_A {N k s : Nat} {a b c : Int32} {R G : Gt} (h : Jn N R G) (hN : N < 120) (hk : k < 40) (nh : nHas N k a b c) (nc : nCan k a b c) (hz : szA G (nI k) a b c = nI s) (hs1 : 1 ≤ s) (hs : s ≤ 150) (K : Int32 → Sh → Gt → Prop) (hK : ∀ G' R', Jn (N + 1) R' G' → G' 9 N = nI s → (∀ p j, ¬ ((p = 3 ∨ p = 5 ∨ p = 7 ∨ p = 9 ∨ p = 13) ∧ j = N) → ¬ (p = 1 ∧ j = 7) → ¬ p = 14 → ¬ p = 16 → ¬ p = 18 → G' p j = G p j) → K (nI N) shA G') : w_L_node_A K (nI k) a b c G := by
  obtain ⟨p1, _, _, _, _, U, p6, p7, p8, _⟩ := h.1
  have p6' : G 14 2 = nI U := (mx_C (C := G) (R := R) (k := 14) rfl).symm.trans p6
  have p2 := (Jn_n h).2.1
  have q0 := lacks_iff (a := a) (b := b) (c := c) p1 p2 hk
  have q1 := fits_iff (a := a) (b := b) (c := c) hk
  obtain ⟨o0, o1, o2⟩ := ok_iff hk nh nc
  have b120 : ¬ 120 ≤ G 1 7 := by rw [p2]; exact nI_ge (b := 120) hN (by decide)
  have b150 : ¬ 150 < szA G (nI k) a b c := by rw [hz]; exact le_not_lt ((nI_leL (a := 150) rfl (by omega) (by decide)).mpr hs)
  unfold w_L_node_A
  refine s10_node_A (fun z => absurd nh (q0.mp z)) (fun _ z => absurd (q1.mpr nc) z) (fun _ _ z => absurd ⟨b120, b150⟩ z) (fun _ _ _ => s4_add ?_)
  intro G3 G6 e3 e6
  rw [p2] at e3 e6 ⊢
  rw [rput_n hN (by decide), rput_n hN (by decide), rput_n hN (by decide)] at e3
  have es3 : szA G3 (nI k) a b c = nI s := by rw [e3]; exact hz
  rw [es3, rput_n hN (by decide), e3] at e6
  have e614 : G6 14 2 = nI U := by rw [e6]; exact p6'
  rw [e614, rput_n hN (by decide), nI_1]
  subst e6
  show K (nI N) shA (nX N U (nI k) a b c (nI s) G)
  exact hK _ _ (Jn_add h p6' p8 hN hk hs1 hs (okL_mono o0 (by omega)) (okL_mono o1 (by omega)) (okL_mono o2 (by omega))) nX_9 (fun p j a1 a2 a3 a4 a5 => nX_oth a1 a2 a3 a4 a5)
theorem l_nodef_A {N k : Nat} {a b c : Int32} {G : Gt} (h1 : G 1 7 = nI N) (hN : N ≤ 120) (hk : k < 40) (nh : nHas N k a b c) (nc : nCan k a b c) (hz : 150 < szA G (nI k) a b c) (K : Int32 → Sh → Gt → Prop) (hK : K (-1000003) shA G) : w_L_node_A K (nI k) a b c G := by
  have q0 := lacks_iff (a := a) (b := b) (c := c) hN h1 hk
  have q1 := fits_iff (a := a) (b := b) (c := c) hk
  unfold w_L_node_A
  exact s10_node_A (fun z => absurd nh (q0.mp z)) (fun _ z => absurd (q1.mpr nc) z) (fun _ _ _ => Or.inr (Or.inr ⟨rfl, hK⟩)) (fun _ _ z => absurd hz z.2)
theorem l_nod1_A {G : Gt} (K : Int32 → Sh → Gt → Prop) (hK : K (-1000002) shA G) : w_L_node_A K 40 0 0 0 G := by
  unfold w_L_node_A
  have hb : ¬ ((0 : Int32) ≤ 40 ∧ (40 : Int32) < 40) := by decide
  have nl : ∀ x, ¬ lk G 45 x := by
    intro x z
    unfold lk at z
    simp at z
  refine s10_node_A (fun z => ?_) (fun _ _ => Or.inr (Or.inl ⟨rfl, hK⟩)) (fun _ z1 _ => absurd z1.1 hb) (fun _ z1 _ => absurd z1.1 hb)
  rw [show shp 40 0 0 = 45 from by decide, show shp 40 1 0 = 45 from by decide, show shp 40 2 0 = 45 from by decide] at z
  rcases z with z | z | z <;> exact absurd z (nl 0)
theorem l_nod2_A {N : Nat} {G : Gt} (h1 : G 1 7 = nI N) (hN : N ≤ 120) (K : Int32 → Sh → Gt → Prop) (hK : K (-1000001) shA G) : w_L_node_A K 4 (nI N) 0 (-1) G := by
  have q0 := lacks_iff (k := 4) (a := nI N) (b := 0) (c := -1) hN h1 (by decide)
  have nh : ¬ nHas N 4 (nI N) 0 (-1) := fun h => by
    obtain ⟨i, hi, e⟩ := h.1 (Or.inl (by decide))
    have := (nI_eq (by omega) (by omega)).mp e
    omega
  have z := q0.mpr nh
  unfold w_L_node_A
  exact s10_node_A (fun _ => Or.inl ⟨rfl, hK⟩) (fun y _ => absurd z y) (fun y _ _ => absurd z y) (fun y _ _ => absurd z y)
theorem l_nod3_A {N : Nat} {G : Gt} (h1 : G 1 7 = nI N) (hN : N ≤ 120) (K : Int32 → Sh → Gt → Prop) (hK : K (-1000002) shA G) : w_L_node_A K 1 8 (-1) (-1) G := by
  have q0 := lacks_iff (k := 1) (a := 8) (b := -1) (c := -1) hN h1 (by decide)
  have q1 := fits_iff (k := 1) (a := 8) (b := -1) (c := -1) (by decide)
  have t0 : tb 1 0 = 3 := by decide
  have t1 : tb 1 1 = 0 := by decide
  have t2 : tb 1 2 = 0 := by decide
  have nh : nHas N 1 8 (-1) (-1) := by
    refine ⟨fun q => ?_, fun q => ?_, fun q => ?_⟩
    · rcases q with q | q | q
      · omega
      · omega
      · have := q.1; omega
    · rcases q with q | q | q
      · omega
      · omega
      · have := q.1; omega
    · rcases q with q | q | q
      · omega
      · omega
      · have := q.1; omega
  have nc : ¬ nCan 1 8 (-1) (-1) := fun h => by
    obtain ⟨i, hi, e⟩ := h.1.2.2.1 t0
    have := (nI_eq (a := 8) (by omega) (by omega)).mp e
    omega
  unfold w_L_node_A
  exact s10_node_A (fun z => absurd nh (q0.mp z)) (fun _ _ => Or.inr (Or.inl ⟨rfl, hK⟩)) (fun _ z1 _ => absurd (q1.mp z1) nc) (fun _ z1 _ => absurd (q1.mp z1) nc)
theorem j371_A {N : Nat} {K : Sh → Gt → Prop} {G : Gt} (h1 : G 1 7 = nI N) (hN : N ≤ 120) (h0 : G 47 0 = nI N) (hK : K shA G) : w_L_makes_A_j371 K G := by
  unfold w_L_makes_A_j371
  refine ⟨by unfold vp_in; decide, ?_⟩
  show w_L_size_A _ (G 47 0) G
  rw [h0]
  refine l_sizx_A h1 hN _ ⟨rfl, pif_p rfl (l_nod1_A _ ⟨rfl, pif_p rfl ⟨by unfold vp_in; decide, ?_⟩⟩)⟩
  show w_L_node_A _ 4 (G 47 0) 0 (-1) G
  rw [h0]
  exact l_nod2_A h1 hN _ ⟨rfl, pif_p rfl (l_nod3_A h1 hN _ ⟨rfl, pif_p rfl hK⟩)⟩
theorem j300_A {N k : Nat} {a b c : Int32} {K : Sh → Gt → Prop} {R G : Gt} (hI : INV N 300 R G) (h58 : N < 58) (hk : k < 40) (hA : AK N k a) (hB : BK N k b) (hC : CK N k b c) (hK : ∀ N' R' G', INV N' 300 R' G' →  K shA G') : w_L_makes_A_j284 K (nI k) a b c ((1 + vA k a G) + vB k b G) (vC c G) G := by
  obtain ⟨nh, nc⟩ := has_it hk hA hB hC
  obtain ⟨z1, z2⟩ := sz_law hI hk hA hB hC
  have hN := (Jn_n hI.1).1
  have g1 := (Jn_n hI.1).2.1
  have t0 := hI.2.2.2.2.2.1.1
  unfold w_L_makes_A_j284 w_L_makes_A_j299 w_L_makes_A_j300
  rw [← z1]
  by_cases hz : 150 < szA G (nI k) a b c
  · refine pif_p hz (l_nodef_A g1 hN hk nh nc hz _ ⟨rfl, pif_p rfl ?_⟩)
    unfold w_L_makes_A_j335 w_L_makes_A_j350 w_L_makes_A_j352
    exact pif_p rfl (pif_p rfl (pif_p rfl (j371_A g1 hN t0 (hK N R G hI))))
  · obtain ⟨s, s1, s2, es⟩ := z2 hz
    refine pif_n hz (l_node_A hI.1 (by omega) hk nh nc es s1 s2 _ (fun G' R' hJ' e9 eo => ⟨rfl, pif_n (by decide) ?_⟩))
    rw [es]
    have lo : ∀ p j, 19 ≤ p → G' p j = G p j := fun p j hp => eo p j (by omega) (by omega) (by omega) (by omega) (by omega)
    have g0 : G' 47 0 = nI N := by rw [lo 47 0 (by decide)]; exact t0
    refine ⟨by unfold vp_in; decide, ?_⟩
    have g0' : G' 47 (0 : Int32).toNatClampNeg = nI N := g0
    rw [g0', nI_clamp (by omega)]
    refine ⟨vp_n (by omega) (by decide), pt_of ⟨by unfold vp_in; decide, by unfold vp_in; decide, ?_⟩⟩
    have g27 : (gu G' 46 N (nI s)) 47 (0 : Int32).toNatClampNeg = nI N := g0
    rw [g27, nI_1]
    refine pt_of ?_
    have e : ∀ p j, ¬ (p = 46 ∧ j = N) → ¬ (p = 47 ∧ j = 0) → (gu (gu G' 46 N (nI s)) 47 0 (nI (N + 1))) p j = G' p j := fun p j x1 x2 => by
      rw [gu_n x2, gu_n x1]
    have hI' : INV (N + 1) 300 R' (gu (gu G' 46 N (nI s)) 47 0 (nI (N + 1))) := by
      obtain ⟨i1, i2, i3, i4, i5, ⟨u0, u2, u3, u4, u5, u6⟩, i7⟩ := hI
      refine ⟨Jn_keq hJ' (fun p j q => e p j (by have := kC_b q; omega) (by have := kC_b q; omega)), by omega, fun m hm => ?_, ?_, ?_, ⟨gu_kk _ _ _ _, ?_, ?_, ?_, ?_, ?_⟩, fun m hm => ?_⟩
      · rw [e 9 m (by omega) (by omega), gu_n (by omega)]
        by_cases q : m = N
        · subst q
          rw [gu_kk, e9]
        · rw [gu_ko _ q, lo 46 m (by decide), eo 9 m (by omega) (by omega) (by omega) (by omega) (by omega)]
          exact i3 m (by omega)
      · rw [e 47 1 (by omega) (by omega), lo 47 1 (by decide)]; exact i4
      · rw [e 0 4 (by omega) (by omega), eo 0 4 (by omega) (by omega) (by omega) (by omega) (by omega)]; exact i5
      · rw [e 47 2 (by omega) (by omega), e 40 0 (by omega) (by omega), lo 47 2 (by decide), lo 40 0 (by decide)]; exact u2
      · rw [e 47 3 (by omega) (by omega), e 40 1 (by omega) (by omega), lo 47 3 (by decide), lo 40 1 (by decide)]; exact u3
      · rw [e 47 4 (by omega) (by omega), e 40 2 (by omega) (by omega), lo 47 4 (by decide), lo 40 2 (by decide)]; exact u4
      · rw [e 47 5 (by omega) (by omega), e 40 3 (by omega) (by omega), lo 47 5 (by decide), lo 40 3 (by decide)]; exact u5
      · refine tvC_eq (tvC_le u6 (Nat.le_succ N)) (fun p j q => ?_)
        rw [e p j (by omega) (by omega), lo p j (by omega)]
      · rw [e 11 m (by omega) (by omega), eo 11 m (by omega) (by omega) (by omega) (by omega) (by omega)]; exact i7 m hm
    unfold w_L_makes_A_j335 w_L_makes_A_j350 w_L_makes_A_j352
    refine pif_n (by decide) ⟨by unfold vp_in; decide, pif_p ?_ (pif_n (by decide) (l_siz_A (Jn_n hI'.1).2.1 (by omega) (by omega) _ ⟨rfl, pif_p ?_ (j371_A (Jn_n hI'.1).2.1 (by omega) (gu_kk _ _ _ _) (hK _ _ _ hI'))⟩))⟩
    · show nI N = (gu (gu G' 46 N (nI s)) 47 0 (nI (N + 1))) 47 0 - 1
      rw [gu_kk, nI_pred]
    · rw [e 9 N (by omega) (by omega)]; exact e9
theorem j228_A {N k : Nat} {a b c : Int32} {K : Sh → Gt → Prop} {R G : Gt} (hI : INV N 300 R G) (hk : k < 40) (hA : AK N k a) (hB : BK N k b) (hC : CK N k b c) (hz : w_L_makes_A_j284 K (nI k) a b c ((1 + vA k a G) + vB k b G) (vC c G) G) : w_L_makes_A_j228 K (nI k) a b c (nI (fb k)) G := by
  have h58 := hI.2.1
  obtain ⟨f1, f0, f2⟩ := tab1 k hk
  obtain ⟨s1, s0, s2, s3, s18, _⟩ := tab2 k hk
  obtain ⟨r1, r0, r2, r3, r18⟩ := tab3 k hk
  have k38 : nI k = 38 ↔ k = 38 := nI_eq (b := 38) (by omega) (by decide)
  have m1 : (-1 : Int32) < 0 := by decide
  -- the third part
  have h3 : ∀ x y, x + y = (1 + vA k a G) + vB k b G → w_L_makes_A_j270 K (nI k) a b c x y G := by
    intro x y e
    unfold w_L_makes_A_j270 w_L_makes_A_j283
    rw [e]
    unfold vC at hz
    by_cases w : c = -1
    · rw [if_neg (fun q => q w)] at hz
      exact pif_p (by rw [w]; exact m1) hz
    · rw [if_pos w] at hz
      obtain ⟨i, hi, rfl⟩ : ∃ i, i < N ∧ c = nI i := by
        have cs : sc k = 0 ∨ sc k = 1 ∨ sc k = 2 := by omega
        rcases cs with z | z | z
        · exact absurd (hC.2.1 z) w
        · exact hC.1 z
        · exact ((hC.2.2 z).resolve_left w).2
      exact pif_n (nI_lt0 (by omega)) ⟨vp_n (by omega) (by decide), hz⟩
  have h2 : ∀ x, x = 1 + vA k a G → w_L_makes_A_j249 K (nI k) a b c 1 (vA k a G) G := by
    intro x e
    unfold w_L_makes_A_j249 w_L_makes_A_j269
    by_cases w : b = -1
    · refine pif_p (by rw [w]; exact m1) (h3 _ _ ?_)
      unfold vB
      rw [if_neg (fun q => q.1 w)]
    · obtain ⟨i, hi, rfl⟩ : ∃ i, i < N ∧ b = nI i := by
        have cs : sb k = 0 ∨ sb k = 1 ∨ sb k = 2 := by omega
        rcases cs with z | z | z
        · exact absurd (hB.2.1 z) w
        · exact hB.1 z
        · exact (hB.2.2 z).resolve_left w
      refine pif_n (nI_lt0 (by omega)) ?_
      by_cases z : k = 38
      · refine pif_p (k38.mpr z) (h3 _ _ ?_)
        unfold vB
        rw [if_neg (fun q => q.2 z)]
      · refine pif_n (fun q => z (k38.mp q)) ⟨vp_n (by omega) (by decide), h3 _ _ ?_⟩
        unfold vB
        rw [if_pos ⟨w, z⟩]
  unfold w_L_makes_A_j228 w_L_makes_A_j248
  by_cases z : fb k = 1
  · obtain ⟨i, hi, rfl⟩ := hA.2.2.2.2.2 (f1 z)
    rw [z]
    refine pif_n (by decide) (pif_n (nI_lt0 (by omega)) ⟨vp_n (by omega) (by decide), ?_⟩)
    have := h2 _ rfl
    have ev : vA k (nI i) G = G 46 (nI i).toNatClampNeg := by unfold vA; rw [if_pos z]
    rw [ev] at this
    exact this
  · have z0 : fb k = 0 := by omega
    rw [z0]
    have := h2 _ rfl
    have ev : vA k a G = 0 := by unfold vA; rw [if_neg z]
    rw [ev] at this
    exact pif_p rfl this
theorem j152_A {k : Nat} (hk : k < 40) {a b c : Int32} {K : Sh → Gt → Prop} {G : Gt} (h : w_L_makes_A_j228 K (nI k) a b c (nI (fb k)) G) : w_L_makes_A_j152 K (nI k) a b c G := by
  have y1 : fb k = 1 → w_L_makes_A_j223 K (nI k) a b c G := fun q => by rw [q] at h; exact h
  have y0 : fb k = 0 → w_L_makes_A_j227 K (nI k) a b c G := fun q => by rw [q] at h; exact h
  unfold w_L_makes_A_j152
  have : k = 0 ∨ k = 1 ∨ k = 2 ∨ k = 3 ∨ k = 4 ∨ k = 5 ∨ k = 6 ∨ k = 7 ∨ k = 8 ∨ k = 9 ∨ k = 10 ∨ k = 11 ∨ k = 12 ∨ k = 13 ∨ k = 14 ∨ k = 15 ∨ k = 16 ∨ k = 17 ∨ k = 18 ∨ k = 19 ∨ k = 20 ∨ k = 21 ∨ k = 22 ∨ k = 23 ∨ k = 24 ∨ k = 25 ∨ k = 26 ∨ k = 27 ∨ k = 28 ∨ k = 29 ∨ k = 30 ∨ k = 31 ∨ k = 32 ∨ k = 33 ∨ k = 34 ∨ k = 35 ∨ k = 36 ∨ k = 37 ∨ k = 38 ∨ k = 39 := by omega
  rcases this with rfl | rfl | rfl | rfl | rfl | rfl | rfl | rfl | rfl | rfl | rfl | rfl | rfl | rfl | rfl | rfl | rfl | rfl | rfl | rfl | rfl | rfl | rfl | rfl | rfl | rfl | rfl | rfl | rfl | rfl | rfl | rfl | rfl | rfl | rfl | rfl | rfl | rfl | rfl | rfl <;> (repeat (first | exact y1 (by decide) | exact y0 (by decide) | refine pif_p (by decide) ?_ | refine pif_n (by decide) ?_))
theorem j43_A {N k : Nat} {y : Int32} {K : Sh → Gt → Prop} {R G : Gt} (hI : INV N 300 R G) (h58 : N < 58) (hk : k < 40) (hk0 : k = 0 ∨ 1 ≤ N) (hK : ∀ N' R' G', INV N' 300 R' G' →  K shA G') : w_L_makes_A_j43 K y (nI k) G := by
  have hN := (Jn_n hI.1).1
  have t0 := hI.2.2.2.2.2.1.1
  obtain ⟨s1, s0, s2, s3, s18, s00⟩ := tab2 k hk
  obtain ⟨r1, r0, r2, r3, r18⟩ := tab3 k hk
  have kq : ∀ j, j < 40 → (nI k = nI j ↔ k = j) := fun j hj => nI_eq (by omega) (by omega)
  have fin : ∀ a b c, AK N k a → BK N k b → CK N k b c → w_L_makes_A_j152 K (nI k) a b c G := fun a b c hA hB hC => j152_A hk (j228_A hI hk hA hB hC (j300_A hI h58 hk hA hB hC hK))
  have c93 : ∀ a b, AK N k a → BK N k b → w_L_makes_A_j93 K y (nI k) a b G := by
    intro a b hA hB
    have c139 : (sc k = 1 ∨ (sc k = 2 ∧ ¬ b = -1)) → 1 ≤ N → w_L_makes_A_j139 K y (nI k) a b G := fun q hN1 => by
      unfold w_L_makes_A_j139
      exact part_n t0 hN1 hN (fun i hi => fin a b _ hA hB ⟨fun _ => ⟨i, hi, rfl⟩, fun z => by omega, fun z => Or.inr ⟨by
        rcases q with q | q
        · omega
        · exact q.2, i, hi, rfl⟩⟩)
    have c151 : ¬ sc k = 1 → w_L_makes_A_j151 K (nI k) a b G := fun q => fin a b _ hA hB ⟨fun z => absurd z q, fun _ => rfl, fun _ => Or.inl rfl⟩
    unfold w_L_makes_A_j93
    by_cases k10 : k = 10
    · exact pif_p ((kq 10 (by decide)).mpr k10) (c139 (Or.inl (by rw [k10]; decide)) (by omega))
    refine pif_n (fun q => k10 ((kq 10 (by decide)).mp q)) ?_
    by_cases k20 : k = 20
    · exact pif_p ((kq 20 (by decide)).mpr k20) (c139 (Or.inl (by rw [k20]; decide)) (by omega))
    refine pif_n (fun q => k20 ((kq 20 (by decide)).mp q)) ?_
    by_cases k26 : k = 26
    · exact pif_p ((kq 26 (by decide)).mpr k26) (c139 (Or.inl (by rw [k26]; decide)) (by omega))
    refine pif_n (fun q => k26 ((kq 26 (by decide)).mp q)) ?_
    have n1 : ¬ sc k = 1 := fun q => by have := (r1 q).2; omega
    by_cases k18 : k = 18
    · refine pif_p ((kq 18 (by decide)).mpr k18) ?_
      by_cases hb : b = -1
      · exact pif_p (by rw [hb]; decide) (c151 n1)
      · obtain ⟨i, hi, rfl⟩ := (hB.2.2 (s18 k18)).resolve_left hb
        obtain ⟨i3, _, l3⟩ := low_n (x := y >>> (4 &&& 31)) (n := 3) (by decide) (by decide)
        exact pif_n (nI_lt0 (by omega)) (l3 _ _ ⟨fun _ => c139 (Or.inr ⟨r18 k18, hb⟩) (by omega), fun _ => c151 n1⟩)
    · exact pif_n (fun q => k18 ((kq 18 (by decide)).mp q)) (c151 n1)
  unfold w_L_makes_A_j43
  refine first_n hk t0 hk0 hN (fun a hA => ?_)
  have c81 : ¬ sb k = 0 → w_L_makes_A_j81 K y (nI k) a G := fun q => by
    unfold w_L_makes_A_j81
    exact part_n t0 (hk0.resolve_left (fun z => q (s00 z))) hN (fun i hi => c93 a _ hA ⟨fun _ => ⟨i, hi, rfl⟩, fun z => absurd z q, fun _ => Or.inr ⟨i, hi, rfl⟩⟩)
  have c92 : ¬ sb k = 1 → w_L_makes_A_j92 K y (nI k) a G := fun q => c93 a _ hA ⟨fun z => absurd z q, fun _ => rfl, fun _ => Or.inl rfl⟩
  refine second_n hk (fun q => pif_n (by decide) (c81 (by omega))) (fun q => pif_p rfl ?_)
  by_cases k18 : k = 18
  · refine pif_p ((kq 18 (by decide)).mpr k18) ?_
    obtain ⟨i3, _, l3⟩ := low_n (x := y >>> (3 &&& 31)) (n := 3) (by decide) (by decide)
    have := s18 k18
    exact l3 _ _ ⟨fun _ => c92 q, fun _ => c81 (by omega)⟩
  · exact pif_n (fun z => k18 ((kq 18 (by decide)).mp z)) (c92 q)
theorem makes_A {N : Nat} {x y : Int32} {K : Sh → Gt → Prop} {R G : Gt} (hI : INV N 300 R G) (h58 : N < 58) (hK : ∀ N' R' G', INV N' 300 R' G' →  K shA G') : w_L_makes_A K x y G := by
  have t0 := hI.2.2.2.2.2.1.1
  unfold w_L_makes_A w_L_makes_A_j20 w_L_makes_A_j35
  refine ⟨by unfold vp_in; decide, ?_⟩
  have t0' : G 47 (0 : Int32).toNatClampNeg = nI N := t0
  rw [t0']
  rcases Nat.eq_zero_or_pos N with z | z
  · subst z
    exact pif_p rfl (j43_A (k := 0) hI h58 (by decide) (Or.inl rfl) hK)
  · refine pif_n (fun q => ?_) ?_
    · have := (nI_eq (b := 0) (by omega) (by decide)).mp q
      omega
    obtain ⟨i9, _, l9⟩ := low_n (x := x) (n := 9) (by decide) (by decide)
    obtain ⟨i40, h40, l40⟩ := low_n (x := x >>> (4 &&& 31)) (n := 40) (by decide) (by decide)
    exact l9 _ _ ⟨fun _ => l9 _ _ ⟨fun _ => j43_A (k := 29) hI h58 (by decide) (Or.inr z) hK, fun _ => l40 _ _ (j43_A hI h58 h40 (Or.inr z) hK)⟩, fun _ => j43_A (k := 0) hI h58 (by decide) (Or.inl rfl) hK⟩
theorem l_node_B {N k s : Nat} {a b c : Int32} {R G : Gt} (h : Jn N R G) (hN : N < 120) (hk : k < 40) (nh : nHas N k a b c) (nc : nCan k a b c) (hz : szA G (nI k) a b c = nI s) (hs1 : 1 ≤ s) (hs : s ≤ 150) (K : Int32 → Sh → Gt → Prop) (hK : ∀ G' R', Jn (N + 1) R' G' → G' 9 N = nI s → (∀ p j, ¬ ((p = 3 ∨ p = 5 ∨ p = 7 ∨ p = 9 ∨ p = 13) ∧ j = N) → ¬ (p = 1 ∧ j = 7) → ¬ p = 14 → ¬ p = 16 → ¬ p = 18 → G' p j = G p j) → K (nI N) shB G') : w_L_node_B K (nI k) a b c G := by
  obtain ⟨p1, _, _, _, _, U, p6, p7, p8, _⟩ := h.1
  have p6' : G 14 2 = nI U := (mx_C (C := G) (R := R) (k := 14) rfl).symm.trans p6
  have p2 := (Jn_n h).2.1
  have q0 := lacks_iff (a := a) (b := b) (c := c) p1 p2 hk
  have q1 := fits_iff (a := a) (b := b) (c := c) hk
  obtain ⟨o0, o1, o2⟩ := ok_iff hk nh nc
  have b120 : ¬ 120 ≤ G 1 7 := by rw [p2]; exact nI_ge (b := 120) hN (by decide)
  have b150 : ¬ 150 < szA G (nI k) a b c := by rw [hz]; exact le_not_lt ((nI_leL (a := 150) rfl (by omega) (by decide)).mpr hs)
  unfold w_L_node_B
  refine s10_node_B (fun z => absurd nh (q0.mp z)) (fun _ z => absurd (q1.mpr nc) z) (fun _ _ z => absurd ⟨b120, b150⟩ z) (fun _ _ _ => s4_add ?_)
  intro G3 G6 e3 e6
  rw [p2] at e3 e6 ⊢
  rw [rput_n hN (by decide), rput_n hN (by decide), rput_n hN (by decide)] at e3
  have es3 : szA G3 (nI k) a b c = nI s := by rw [e3]; exact hz
  rw [es3, rput_n hN (by decide), e3] at e6
  have e614 : G6 14 2 = nI U := by rw [e6]; exact p6'
  rw [e614, rput_n hN (by decide), nI_1]
  subst e6
  show K (nI N) shB (nX N U (nI k) a b c (nI s) G)
  exact hK _ _ (Jn_add h p6' p8 hN hk hs1 hs (okL_mono o0 (by omega)) (okL_mono o1 (by omega)) (okL_mono o2 (by omega))) nX_9 (fun p j a1 a2 a3 a4 a5 => nX_oth a1 a2 a3 a4 a5)
theorem l_nodef_B {N k : Nat} {a b c : Int32} {G : Gt} (h1 : G 1 7 = nI N) (hN : N ≤ 120) (hk : k < 40) (nh : nHas N k a b c) (nc : nCan k a b c) (hz : 150 < szA G (nI k) a b c) (K : Int32 → Sh → Gt → Prop) (hK : K (-1000003) shB G) : w_L_node_B K (nI k) a b c G := by
  have q0 := lacks_iff (a := a) (b := b) (c := c) hN h1 hk
  have q1 := fits_iff (a := a) (b := b) (c := c) hk
  unfold w_L_node_B
  exact s10_node_B (fun z => absurd nh (q0.mp z)) (fun _ z => absurd (q1.mpr nc) z) (fun _ _ _ => Or.inr (Or.inr ⟨rfl, hK⟩)) (fun _ _ z => absurd hz z.2)
theorem l_nod1_B {G : Gt} (K : Int32 → Sh → Gt → Prop) (hK : K (-1000002) shB G) : w_L_node_B K 40 0 0 0 G := by
  unfold w_L_node_B
  have hb : ¬ ((0 : Int32) ≤ 40 ∧ (40 : Int32) < 40) := by decide
  have nl : ∀ x, ¬ lk G 45 x := by
    intro x z
    unfold lk at z
    simp at z
  refine s10_node_B (fun z => ?_) (fun _ _ => Or.inr (Or.inl ⟨rfl, hK⟩)) (fun _ z1 _ => absurd z1.1 hb) (fun _ z1 _ => absurd z1.1 hb)
  rw [show shp 40 0 0 = 45 from by decide, show shp 40 1 0 = 45 from by decide, show shp 40 2 0 = 45 from by decide] at z
  rcases z with z | z | z <;> exact absurd z (nl 0)
theorem l_nod2_B {N : Nat} {G : Gt} (h1 : G 1 7 = nI N) (hN : N ≤ 120) (K : Int32 → Sh → Gt → Prop) (hK : K (-1000001) shB G) : w_L_node_B K 4 (nI N) 0 (-1) G := by
  have q0 := lacks_iff (k := 4) (a := nI N) (b := 0) (c := -1) hN h1 (by decide)
  have nh : ¬ nHas N 4 (nI N) 0 (-1) := fun h => by
    obtain ⟨i, hi, e⟩ := h.1 (Or.inl (by decide))
    have := (nI_eq (by omega) (by omega)).mp e
    omega
  have z := q0.mpr nh
  unfold w_L_node_B
  exact s10_node_B (fun _ => Or.inl ⟨rfl, hK⟩) (fun y _ => absurd z y) (fun y _ _ => absurd z y) (fun y _ _ => absurd z y)
theorem l_nod3_B {N : Nat} {G : Gt} (h1 : G 1 7 = nI N) (hN : N ≤ 120) (K : Int32 → Sh → Gt → Prop) (hK : K (-1000002) shB G) : w_L_node_B K 1 8 (-1) (-1) G := by
  have q0 := lacks_iff (k := 1) (a := 8) (b := -1) (c := -1) hN h1 (by decide)
  have q1 := fits_iff (k := 1) (a := 8) (b := -1) (c := -1) (by decide)
  have t0 : tb 1 0 = 3 := by decide
  have t1 : tb 1 1 = 0 := by decide
  have t2 : tb 1 2 = 0 := by decide
  have nh : nHas N 1 8 (-1) (-1) := by
    refine ⟨fun q => ?_, fun q => ?_, fun q => ?_⟩
    · rcases q with q | q | q
      · omega
      · omega
      · have := q.1; omega
    · rcases q with q | q | q
      · omega
      · omega
      · have := q.1; omega
    · rcases q with q | q | q
      · omega
      · omega
      · have := q.1; omega
  have nc : ¬ nCan 1 8 (-1) (-1) := fun h => by
    obtain ⟨i, hi, e⟩ := h.1.2.2.1 t0
    have := (nI_eq (a := 8) (by omega) (by omega)).mp e
    omega
  unfold w_L_node_B
  exact s10_node_B (fun z => absurd nh (q0.mp z)) (fun _ _ => Or.inr (Or.inl ⟨rfl, hK⟩)) (fun _ z1 _ => absurd (q1.mp z1) nc) (fun _ z1 _ => absurd (q1.mp z1) nc)
theorem j371_B {N : Nat} {K : Sh → Gt → Prop} {G : Gt} (h1 : G 1 7 = nI N) (hN : N ≤ 120) (h0 : G 47 0 = nI N) (hK : K shB G) : w_L_makes_B_j371 K G := by
  unfold w_L_makes_B_j371
  refine ⟨by unfold vp_in; decide, ?_⟩
  show w_L_size_B _ (G 47 0) G
  rw [h0]
  refine l_sizx_B h1 hN _ ⟨rfl, pif_p rfl (l_nod1_B _ ⟨rfl, pif_p rfl ⟨by unfold vp_in; decide, ?_⟩⟩)⟩
  show w_L_node_B _ 4 (G 47 0) 0 (-1) G
  rw [h0]
  exact l_nod2_B h1 hN _ ⟨rfl, pif_p rfl (l_nod3_B h1 hN _ ⟨rfl, pif_p rfl hK⟩)⟩
theorem j300_B {N k : Nat} {a b c : Int32} {K : Sh → Gt → Prop} {R G : Gt} (hI : INV N 300 R G) (h7 : G 84 7 = 0) (h58 : N < 58) (hk : k < 40) (hA : AK N k a) (hB : BK N k b) (hC : CK N k b c) (hK : ∀ N' R' G', INV N' 300 R' G' → G' 84 7 = 0 → K shB G') : w_L_makes_B_j284 K (nI k) a b c ((1 + vA k a G) + vB k b G) (vC c G) G := by
  obtain ⟨nh, nc⟩ := has_it hk hA hB hC
  obtain ⟨z1, z2⟩ := sz_law hI hk hA hB hC
  have hN := (Jn_n hI.1).1
  have g1 := (Jn_n hI.1).2.1
  have t0 := hI.2.2.2.2.2.1.1
  unfold w_L_makes_B_j284 w_L_makes_B_j299 w_L_makes_B_j300
  rw [← z1]
  by_cases hz : 150 < szA G (nI k) a b c
  · refine pif_p hz (l_nodef_B g1 hN hk nh nc hz _ ⟨rfl, pif_p rfl ?_⟩)
    unfold w_L_makes_B_j335 w_L_makes_B_j350 w_L_makes_B_j352
    exact pif_p rfl (pif_p rfl (pif_p rfl (j371_B g1 hN t0 (hK N R G hI h7))))
  · obtain ⟨s, s1, s2, es⟩ := z2 hz
    refine pif_n hz (l_node_B hI.1 (by omega) hk nh nc es s1 s2 _ (fun G' R' hJ' e9 eo => ⟨rfl, pif_n (by decide) ?_⟩))
    rw [es]
    have lo : ∀ p j, 19 ≤ p → G' p j = G p j := fun p j hp => eo p j (by omega) (by omega) (by omega) (by omega) (by omega)
    have g0 : G' 47 0 = nI N := by rw [lo 47 0 (by decide)]; exact t0
    refine ⟨by unfold vp_in; decide, ?_⟩
    have g0' : G' 47 (0 : Int32).toNatClampNeg = nI N := g0
    rw [g0', nI_clamp (by omega)]
    refine ⟨vp_n (by omega) (by decide), pt_of ⟨by unfold vp_in; decide, by unfold vp_in; decide, ?_⟩⟩
    have g27 : (gu G' 46 N (nI s)) 47 (0 : Int32).toNatClampNeg = nI N := g0
    rw [g27, nI_1]
    refine pt_of ?_
    have e : ∀ p j, ¬ (p = 46 ∧ j = N) → ¬ (p = 47 ∧ j = 0) → (gu (gu G' 46 N (nI s)) 47 0 (nI (N + 1))) p j = G' p j := fun p j x1 x2 => by
      rw [gu_n x2, gu_n x1]
    have hI' : INV (N + 1) 300 R' (gu (gu G' 46 N (nI s)) 47 0 (nI (N + 1))) := by
      obtain ⟨i1, i2, i3, i4, i5, ⟨u0, u2, u3, u4, u5, u6⟩, i7⟩ := hI
      refine ⟨Jn_keq hJ' (fun p j q => e p j (by have := kC_b q; omega) (by have := kC_b q; omega)), by omega, fun m hm => ?_, ?_, ?_, ⟨gu_kk _ _ _ _, ?_, ?_, ?_, ?_, ?_⟩, fun m hm => ?_⟩
      · rw [e 9 m (by omega) (by omega), gu_n (by omega)]
        by_cases q : m = N
        · subst q
          rw [gu_kk, e9]
        · rw [gu_ko _ q, lo 46 m (by decide), eo 9 m (by omega) (by omega) (by omega) (by omega) (by omega)]
          exact i3 m (by omega)
      · rw [e 47 1 (by omega) (by omega), lo 47 1 (by decide)]; exact i4
      · rw [e 0 4 (by omega) (by omega), eo 0 4 (by omega) (by omega) (by omega) (by omega) (by omega)]; exact i5
      · rw [e 47 2 (by omega) (by omega), e 40 0 (by omega) (by omega), lo 47 2 (by decide), lo 40 0 (by decide)]; exact u2
      · rw [e 47 3 (by omega) (by omega), e 40 1 (by omega) (by omega), lo 47 3 (by decide), lo 40 1 (by decide)]; exact u3
      · rw [e 47 4 (by omega) (by omega), e 40 2 (by omega) (by omega), lo 47 4 (by decide), lo 40 2 (by decide)]; exact u4
      · rw [e 47 5 (by omega) (by omega), e 40 3 (by omega) (by omega), lo 47 5 (by decide), lo 40 3 (by decide)]; exact u5
      · refine tvC_eq (tvC_le u6 (Nat.le_succ N)) (fun p j q => ?_)
        rw [e p j (by omega) (by omega), lo p j (by omega)]
      · rw [e 11 m (by omega) (by omega), eo 11 m (by omega) (by omega) (by omega) (by omega) (by omega)]; exact i7 m hm
    unfold w_L_makes_B_j335 w_L_makes_B_j350 w_L_makes_B_j352
    refine pif_n (by decide) ⟨by unfold vp_in; decide, pif_p ?_ (pif_n (by decide) (l_siz_B (Jn_n hI'.1).2.1 (by omega) (by omega) _ ⟨rfl, pif_p ?_ (j371_B (Jn_n hI'.1).2.1 (by omega) (gu_kk _ _ _ _) (hK _ _ _ hI' ?_))⟩))⟩
    · show nI N = (gu (gu G' 46 N (nI s)) 47 0 (nI (N + 1))) 47 0 - 1
      rw [gu_kk, nI_pred]
    · rw [e 9 N (by omega) (by omega)]; exact e9
    · rw [e 84 7 (by omega) (by omega), lo 84 7 (by decide)]; exact h7
theorem j228_B {N k : Nat} {a b c : Int32} {K : Sh → Gt → Prop} {R G : Gt} (hI : INV N 300 R G) (hk : k < 40) (hA : AK N k a) (hB : BK N k b) (hC : CK N k b c) (hz : w_L_makes_B_j284 K (nI k) a b c ((1 + vA k a G) + vB k b G) (vC c G) G) : w_L_makes_B_j228 K (nI k) a b c (nI (fb k)) G := by
  have h58 := hI.2.1
  obtain ⟨f1, f0, f2⟩ := tab1 k hk
  obtain ⟨s1, s0, s2, s3, s18, _⟩ := tab2 k hk
  obtain ⟨r1, r0, r2, r3, r18⟩ := tab3 k hk
  have k38 : nI k = 38 ↔ k = 38 := nI_eq (b := 38) (by omega) (by decide)
  have m1 : (-1 : Int32) < 0 := by decide
  -- the third part
  have h3 : ∀ x y, x + y = (1 + vA k a G) + vB k b G → w_L_makes_B_j270 K (nI k) a b c x y G := by
    intro x y e
    unfold w_L_makes_B_j270 w_L_makes_B_j283
    rw [e]
    unfold vC at hz
    by_cases w : c = -1
    · rw [if_neg (fun q => q w)] at hz
      exact pif_p (by rw [w]; exact m1) hz
    · rw [if_pos w] at hz
      obtain ⟨i, hi, rfl⟩ : ∃ i, i < N ∧ c = nI i := by
        have cs : sc k = 0 ∨ sc k = 1 ∨ sc k = 2 := by omega
        rcases cs with z | z | z
        · exact absurd (hC.2.1 z) w
        · exact hC.1 z
        · exact ((hC.2.2 z).resolve_left w).2
      exact pif_n (nI_lt0 (by omega)) ⟨vp_n (by omega) (by decide), hz⟩
  have h2 : ∀ x, x = 1 + vA k a G → w_L_makes_B_j249 K (nI k) a b c 1 (vA k a G) G := by
    intro x e
    unfold w_L_makes_B_j249 w_L_makes_B_j269
    by_cases w : b = -1
    · refine pif_p (by rw [w]; exact m1) (h3 _ _ ?_)
      unfold vB
      rw [if_neg (fun q => q.1 w)]
    · obtain ⟨i, hi, rfl⟩ : ∃ i, i < N ∧ b = nI i := by
        have cs : sb k = 0 ∨ sb k = 1 ∨ sb k = 2 := by omega
        rcases cs with z | z | z
        · exact absurd (hB.2.1 z) w
        · exact hB.1 z
        · exact (hB.2.2 z).resolve_left w
      refine pif_n (nI_lt0 (by omega)) ?_
      by_cases z : k = 38
      · refine pif_p (k38.mpr z) (h3 _ _ ?_)
        unfold vB
        rw [if_neg (fun q => q.2 z)]
      · refine pif_n (fun q => z (k38.mp q)) ⟨vp_n (by omega) (by decide), h3 _ _ ?_⟩
        unfold vB
        rw [if_pos ⟨w, z⟩]
  unfold w_L_makes_B_j228 w_L_makes_B_j248
  by_cases z : fb k = 1
  · obtain ⟨i, hi, rfl⟩ := hA.2.2.2.2.2 (f1 z)
    rw [z]
    refine pif_n (by decide) (pif_n (nI_lt0 (by omega)) ⟨vp_n (by omega) (by decide), ?_⟩)
    have := h2 _ rfl
    have ev : vA k (nI i) G = G 46 (nI i).toNatClampNeg := by unfold vA; rw [if_pos z]
    rw [ev] at this
    exact this
  · have z0 : fb k = 0 := by omega
    rw [z0]
    have := h2 _ rfl
    have ev : vA k a G = 0 := by unfold vA; rw [if_neg z]
    rw [ev] at this
    exact pif_p rfl this
theorem j152_B {k : Nat} (hk : k < 40) {a b c : Int32} {K : Sh → Gt → Prop} {G : Gt} (h : w_L_makes_B_j228 K (nI k) a b c (nI (fb k)) G) : w_L_makes_B_j152 K (nI k) a b c G := by
  have y1 : fb k = 1 → w_L_makes_B_j223 K (nI k) a b c G := fun q => by rw [q] at h; exact h
  have y0 : fb k = 0 → w_L_makes_B_j227 K (nI k) a b c G := fun q => by rw [q] at h; exact h
  unfold w_L_makes_B_j152
  have : k = 0 ∨ k = 1 ∨ k = 2 ∨ k = 3 ∨ k = 4 ∨ k = 5 ∨ k = 6 ∨ k = 7 ∨ k = 8 ∨ k = 9 ∨ k = 10 ∨ k = 11 ∨ k = 12 ∨ k = 13 ∨ k = 14 ∨ k = 15 ∨ k = 16 ∨ k = 17 ∨ k = 18 ∨ k = 19 ∨ k = 20 ∨ k = 21 ∨ k = 22 ∨ k = 23 ∨ k = 24 ∨ k = 25 ∨ k = 26 ∨ k = 27 ∨ k = 28 ∨ k = 29 ∨ k = 30 ∨ k = 31 ∨ k = 32 ∨ k = 33 ∨ k = 34 ∨ k = 35 ∨ k = 36 ∨ k = 37 ∨ k = 38 ∨ k = 39 := by omega
  rcases this with rfl | rfl | rfl | rfl | rfl | rfl | rfl | rfl | rfl | rfl | rfl | rfl | rfl | rfl | rfl | rfl | rfl | rfl | rfl | rfl | rfl | rfl | rfl | rfl | rfl | rfl | rfl | rfl | rfl | rfl | rfl | rfl | rfl | rfl | rfl | rfl | rfl | rfl | rfl | rfl <;> (repeat (first | exact y1 (by decide) | exact y0 (by decide) | refine pif_p (by decide) ?_ | refine pif_n (by decide) ?_))
theorem j43_B {N k : Nat} {y : Int32} {K : Sh → Gt → Prop} {R G : Gt} (hI : INV N 300 R G) (h7 : G 84 7 = 0) (h58 : N < 58) (hk : k < 40) (hk0 : k = 0 ∨ 1 ≤ N) (hK : ∀ N' R' G', INV N' 300 R' G' → G' 84 7 = 0 → K shB G') : w_L_makes_B_j43 K y (nI k) G := by
  have hN := (Jn_n hI.1).1
  have t0 := hI.2.2.2.2.2.1.1
  obtain ⟨s1, s0, s2, s3, s18, s00⟩ := tab2 k hk
  obtain ⟨r1, r0, r2, r3, r18⟩ := tab3 k hk
  have kq : ∀ j, j < 40 → (nI k = nI j ↔ k = j) := fun j hj => nI_eq (by omega) (by omega)
  have fin : ∀ a b c, AK N k a → BK N k b → CK N k b c → w_L_makes_B_j152 K (nI k) a b c G := fun a b c hA hB hC => j152_B hk (j228_B hI hk hA hB hC (j300_B hI h7 h58 hk hA hB hC hK))
  have c93 : ∀ a b, AK N k a → BK N k b → w_L_makes_B_j93 K y (nI k) a b G := by
    intro a b hA hB
    have c139 : (sc k = 1 ∨ (sc k = 2 ∧ ¬ b = -1)) → 1 ≤ N → w_L_makes_B_j139 K y (nI k) a b G := fun q hN1 => by
      unfold w_L_makes_B_j139
      exact part_n t0 hN1 hN (fun i hi => fin a b _ hA hB ⟨fun _ => ⟨i, hi, rfl⟩, fun z => by omega, fun z => Or.inr ⟨by
        rcases q with q | q
        · omega
        · exact q.2, i, hi, rfl⟩⟩)
    have c151 : ¬ sc k = 1 → w_L_makes_B_j151 K (nI k) a b G := fun q => fin a b _ hA hB ⟨fun z => absurd z q, fun _ => rfl, fun _ => Or.inl rfl⟩
    unfold w_L_makes_B_j93
    by_cases k10 : k = 10
    · exact pif_p ((kq 10 (by decide)).mpr k10) (c139 (Or.inl (by rw [k10]; decide)) (by omega))
    refine pif_n (fun q => k10 ((kq 10 (by decide)).mp q)) ?_
    by_cases k20 : k = 20
    · exact pif_p ((kq 20 (by decide)).mpr k20) (c139 (Or.inl (by rw [k20]; decide)) (by omega))
    refine pif_n (fun q => k20 ((kq 20 (by decide)).mp q)) ?_
    by_cases k26 : k = 26
    · exact pif_p ((kq 26 (by decide)).mpr k26) (c139 (Or.inl (by rw [k26]; decide)) (by omega))
    refine pif_n (fun q => k26 ((kq 26 (by decide)).mp q)) ?_
    have n1 : ¬ sc k = 1 := fun q => by have := (r1 q).2; omega
    by_cases k18 : k = 18
    · refine pif_p ((kq 18 (by decide)).mpr k18) ?_
      by_cases hb : b = -1
      · exact pif_p (by rw [hb]; decide) (c151 n1)
      · obtain ⟨i, hi, rfl⟩ := (hB.2.2 (s18 k18)).resolve_left hb
        obtain ⟨i3, _, l3⟩ := low_n (x := y >>> (4 &&& 31)) (n := 3) (by decide) (by decide)
        exact pif_n (nI_lt0 (by omega)) (l3 _ _ ⟨fun _ => c139 (Or.inr ⟨r18 k18, hb⟩) (by omega), fun _ => c151 n1⟩)
    · exact pif_n (fun q => k18 ((kq 18 (by decide)).mp q)) (c151 n1)
  unfold w_L_makes_B_j43
  refine first_n hk t0 hk0 hN (fun a hA => ?_)
  have c81 : ¬ sb k = 0 → w_L_makes_B_j81 K y (nI k) a G := fun q => by
    unfold w_L_makes_B_j81
    exact part_n t0 (hk0.resolve_left (fun z => q (s00 z))) hN (fun i hi => c93 a _ hA ⟨fun _ => ⟨i, hi, rfl⟩, fun z => absurd z q, fun _ => Or.inr ⟨i, hi, rfl⟩⟩)
  have c92 : ¬ sb k = 1 → w_L_makes_B_j92 K y (nI k) a G := fun q => c93 a _ hA ⟨fun z => absurd z q, fun _ => rfl, fun _ => Or.inl rfl⟩
  refine second_n hk (fun q => pif_n (by decide) (c81 (by omega))) (fun q => pif_p rfl ?_)
  by_cases k18 : k = 18
  · refine pif_p ((kq 18 (by decide)).mpr k18) ?_
    obtain ⟨i3, _, l3⟩ := low_n (x := y >>> (3 &&& 31)) (n := 3) (by decide) (by decide)
    have := s18 k18
    exact l3 _ _ ⟨fun _ => c92 q, fun _ => c81 (by omega)⟩
  · exact pif_n (fun z => k18 ((kq 18 (by decide)).mp z)) (c92 q)
theorem makes_B {N : Nat} {x y : Int32} {K : Sh → Gt → Prop} {R G : Gt} (hI : INV N 300 R G) (h7 : G 84 7 = 0) (h58 : N < 58) (hK : ∀ N' R' G', INV N' 300 R' G' → G' 84 7 = 0 → K shB G') : w_L_makes_B K x y G := by
  have t0 := hI.2.2.2.2.2.1.1
  unfold w_L_makes_B w_L_makes_B_j20 w_L_makes_B_j35
  refine ⟨by unfold vp_in; decide, ?_⟩
  have t0' : G 47 (0 : Int32).toNatClampNeg = nI N := t0
  rw [t0']
  rcases Nat.eq_zero_or_pos N with z | z
  · subst z
    exact pif_p rfl (j43_B (k := 0) hI h7 h58 (by decide) (Or.inl rfl) hK)
  · refine pif_n (fun q => ?_) ?_
    · have := (nI_eq (b := 0) (by omega) (by decide)).mp q
      omega
    obtain ⟨i9, _, l9⟩ := low_n (x := x) (n := 9) (by decide) (by decide)
    obtain ⟨i40, h40, l40⟩ := low_n (x := x >>> (4 &&& 31)) (n := 40) (by decide) (by decide)
    exact l9 _ _ ⟨fun _ => l9 _ _ ⟨fun _ => j43_B (k := 29) hI h7 h58 (by decide) (Or.inr z) hK, fun _ => l40 _ _ (j43_B hI h7 h58 h40 (Or.inr z) hK)⟩, fun _ => j43_B (k := 0) hI h7 h58 (by decide) (Or.inl rfl) hK⟩
