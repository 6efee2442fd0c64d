/-! THE RUN ENDS -/
theorem cN_mx : ∀ (l : List Int32) (C R : Gt) (c : Int32), cN C c l → cN (mxw C R) c l
  | [], _, _, _, h => h
  | _ :: l, C, R, _, ⟨i, a, b, d, e⟩ => ⟨i, a, b, d, cN_mx l C R _ e⟩
theorem cN_eq : ∀ (l : List Int32) (C C' : Gt) (c : Int32), C' 108 = C 108 → C' 120 = C 120 → cN C c l → cN C' c l
  | [], _, _, _, _, _, h => h
  | _ :: l, C, C', _, h1, h2, ⟨i, a, b, d, e⟩ => ⟨i, a, b, by rw [h1]; exact d, by rw [h2]; exact cN_eq l C C' _ h1 h2 e⟩
theorem mk_fE {N B : Nat} {z : Zt} {C R : Gt} {d : Nat} {l : List Int32} (c7 : C 84 7 = 0) (c15 : C 84 15 = 1) (hB : z 0 0 ≤ B) (c10 : C 84 10 = nI (z 0 0)) (r58 : R 46 58 = nI (z 0 0)) (hrg : ∀ k, k < 4 → C 33 k = R 57 k ∧ isnum (R 57 k)) (e16 : C 84 16 = R 46 42) (e17 : C 84 17 = if R 46 44 = -100000 then 50000 else R 46 44) (hd : d < 601) (c18 : C 84 18 = nI d) (hc : cN C (C 120 d) l) (hl : l.length ≤ 12) (h45 : R 46 45 = C 108 d) (n16 : isnum (C 84 16)) (nd : ∃ v, v < N ∧ C 108 d = nI v) (nl : ∀ x, x ∈ l → ∃ v, v < N ∧ x = nI v) : fST N B z (mxw C (oSt l R)) := by
  have rd : ∀ a j, ¬ a = 81 → ¬ a = 54 → ¬ a = 56 → ¬ (58 ≤ a ∧ a ≤ 61) → ¬ (a = 46 ∧ (j = 12 ∨ j = 14 ∨ j = 41 ∨ j = 53 ∨ j = 62 ∨ j = 63 ∨ j = 64)) → oSt l R a j = R a j := by
    intro a j h1 h2 h3 h4 h5
    unfold oSt
    rw [gu_n (by omega), gu_n (by omega), rsW_n (by omega) (by omega), wr_n _ _ _ _ _ h1 (by omega), gu_n (by omega), gu_n (by omega), gu_n (by omega), gu_n (by omega)]
  have e81 : ∀ j, oSt l R 81 j = (wr (gu (gu (gu (gu R 46 62 (50000 + R 46 42)) 46 63 (if R 46 44 = -100000 then 50000 else R 46 44)) 81 0 (R 46 45)) 46 64 1) 1 l) 81 j := by
    intro j
    unfold oSt
    rw [gu_oo _ (by decide), gu_oo _ (by decide), rsW_n (by decide) (by omega)]
  refine ⟨c7, ?_, ?_, hB, c10, ?_, fun k hk => ?_, Or.inr ⟨c15, ?_, ?_, ?_, d, l, hd, c18, cN_mx l C _ _ hc, hl, ?_, ?_, fun i x hx => ?_, n16, nd, nl⟩⟩
  · rw [mx_R rfl]; exact gu_kk _ _ _ _
  · rw [mx_R rfl]; unfold oSt; rw [gu_ko _ (by decide), gu_kk]
  · rw [mx_R rfl, rd 46 58 (by decide) (by decide) (by decide) (by decide) (by decide)]; exact r58
  · show C 33 k = oSt l R 57 k ∧ isnum (oSt l R 57 k)
    rw [rd 57 k (by decide) (by decide) (by decide) (by decide) (by omega)]; exact hrg k hk
  · rw [mx_R rfl, mx_C rfl, e16]
    unfold oSt
    rw [gu_ko _ (by decide), gu_ko _ (by decide), rsW_n (by decide) (by omega), wr_n _ _ _ _ _ (by decide) (by omega), gu_ko _ (by decide), gu_oo _ (by decide), gu_ko _ (by decide), gu_kk]
  · rw [mx_R rfl, mx_C rfl, e17]
    unfold oSt
    rw [gu_ko _ (by decide), gu_ko _ (by decide), rsW_n (by decide) (by omega), wr_n _ _ _ _ _ (by decide) (by omega), gu_ko _ (by decide), gu_oo _ (by decide), gu_kk]
  · have := rsd_rsW (C := C) (G := wr (gu (gu (gu (gu R 46 62 (50000 + R 46 42)) 46 63 (if R 46 44 = -100000 then 50000 else R 46 44)) 81 0 (R 46 45)) 46 64 1) 1 l)
    exact this
  · rw [mx_R rfl]
    unfold oSt
    rw [gu_ko _ (by decide), gu_ko _ (by decide), rsW_n (by decide) (by omega), Nat.add_comm]
    exact wr_c l 1 _ (by rw [gu_kk]; rfl)
  · rw [mx_R rfl, mx_C rfl, e81, wr_lo _ _ _ _ (by decide), gu_oo _ (by decide), gu_kk, h45]
  · rw [mx_R rfl, e81, Nat.add_comm]
    exact wr_v l 1 _ i x hx
/-- the generator with the lowest number that rests -/
theorem low {st : Nat → Nat} {n : Nat} {Gc Gr : Gt} (hn : n ≤ 600) (hs : ∀ j, j < n → st j ≤ 4) (c6 : Gc 134 6 = nI n) (c140 : ∀ j, j < n → Gc 140 j = nI (st j)) (r35 : Gr 46 35 = nI n) (r77 : ∀ j, j < n → Gr 77 j = nI (st j)) : ∀ r k, k + r = n →
    ((∀ j, k ≤ j → j < n → ¬ st j = 1) ∧ (∀ (R : Gt) (K : Int32 → Gt → Prop), K (-1) (mxw Gc R) → w_X3_lowestResting_h2 K (r + 1) (nI k) (mxw Gc R)) ∧ (∀ (C : Gt) (K : Gt → Prop), w_X11_closes_j26 K (nI n) (mxw C Gr) → w_X11_closes_h2 K (r + 1) (nI k) (mxw C Gr))) ∨
    (∃ g, k ≤ g ∧ g < n ∧ st g = 1 ∧ (∀ (R : Gt) (K : Int32 → Gt → Prop), K (nI g) (mxw Gc R) → w_X3_lowestResting_h2 K (r + 1) (nI k) (mxw Gc R)) ∧ (∀ (C : Gt) (K : Gt → Prop), w_X11_closes_j26 K (nI g) (mxw C Gr) → w_X11_closes_h2 K (r + 1) (nI k) (mxw C Gr))) := by
  intro r
  induction r with
  | zero =>
    intro k hk
    have : k = n := by omega
    subst this
    left
    refine ⟨fun j h1 h2 => by omega, fun R K h => ?_, fun C K h => ?_⟩
    · rw [w_X3_lowestResting_h2, show (mxw Gc R) 134 6 = nI k from c6]
      exact pif_p (nI_le (Nat.le_refl _) (by omega)) h
    · rw [w_X11_closes_h2, show (mxw C Gr) 46 35 = nI k from r35]
      exact pif_p (nI_le (Nat.le_refl _) (by omega)) h
  | succ r ih =>
    intro k hk
    have q := nI_leI (a := n) (b := k) (by omega) (by omega)
    have ek : (nI k).toNatClampNeg = k := nI_clamp (by omega)
    have q1 := nI_eqL (w := st k) (a := 1) (b := 1) rfl (by have := hs k (by omega); omega) (by decide)
    have sC : ∀ (R : Gt) (K : Int32 → Gt → Prop), (st k = 1 → K (nI k) (mxw Gc R)) → (¬ st k = 1 → w_X3_lowestResting_h2 K (r + 1) (nI (k + 1)) (mxw Gc R)) → w_X3_lowestResting_h2 K (r + 1 + 1) (nI k) (mxw Gc R) := by
      intro R K h1 h2
      rw [w_X3_lowestResting_h2, show (mxw Gc R) 134 6 = nI n from c6, rat_n (by omega) (by decide), show (mxw Gc R) 140 k = nI (st k) from c140 k (by omega)]
      refine pif_n (fun z => by have := q.mp z; omega) ?_
      by_cases c : st k = 1
      · exact pif_p (q1.mpr c) (h1 c)
      · refine pif_n (fun z => c (q1.mp z)) ?_
        rw [nI_1]; exact h2 c
    have sR : ∀ (C : Gt) (K : Gt → Prop), (st k = 1 → w_X11_closes_j26 K (nI k) (mxw C Gr)) → (¬ st k = 1 → w_X11_closes_h2 K (r + 1) (nI (k + 1)) (mxw C Gr)) → w_X11_closes_h2 K (r + 1 + 1) (nI k) (mxw C Gr) := by
      intro C K h1 h2
      rw [w_X11_closes_h2, show (mxw C Gr) 46 35 = nI n from r35, ek, show (mxw C Gr) 77 k = nI (st k) from r77 k (by omega)]
      refine pif_n (fun z => by have := q.mp z; omega) ⟨vp_n (by omega) (by decide), ?_⟩
      by_cases c : st k = 1
      · exact pif_p (q1.mpr c) (h1 c)
      · refine pif_n (fun z => c (q1.mp z)) ?_
        rw [nI_1]; exact h2 c
    by_cases c : st k = 1
    · right
      exact ⟨k, Nat.le_refl _, by omega, c, fun R K h => sC R K (fun _ => h) (fun z => absurd c z), fun C K h => sR C K (fun _ => h) (fun z => absurd c z)⟩
    · rcases ih (k + 1) (by omega) with ⟨a1, a2, a3⟩ | ⟨g, a0, a1, a2, a3, a4⟩
      · left
        refine ⟨fun j h1 h2 => ?_, fun R K h => sC R K (fun z => absurd z c) (fun _ => a2 R K h), fun C K h => sR C K (fun z => absurd z c) (fun _ => a3 C K h)⟩
        by_cases e : j = k
        · rw [e]; exact c
        · exact a1 j (by omega) h2
      · right
        exact ⟨g, by omega, a1, a2, fun R K h => sC R K (fun z => absurd z c) (fun _ => a3 R K h), fun C K h => sR C K (fun z => absurd z c) (fun _ => a4 C K h)⟩
/-- what is known of a body that nobody waits for -/
theorem bz_pre {N B : Nat} {z : Zt} {G : Gt} (h : eST N B z G) (hb0 : ¬ z 2 (z 0 7) = 0) (hc0 : z 4 (z 0 7) = 0) : ∃ sp i b p, z 0 7 = i ∧ z 8 i = i ∧ z 2 i = b ∧ b < 2000 ∧ aST N B z G (G 31) sp 0 ∧ cAt G i p 40 ∧ G 114 i = nI b ∧ G 110 i = -1 ∧ z 0 0 ≤ 600 ∧ i < z 0 0 ∧ z 0 5 ≤ 600 ∧ (b = 1 ∨ (4 ≤ b ∧ b - 4 < z 0 5 ∧ z 16 (b - 4) = 3 ∧ G 77 (b - 4) = 3)) ∧
    G 46 57 = nI (z 6 i - 1) ∧ z 6 i - 1 < 1220 ∧ G 64 (z 6 i - 1) = -1 ∧ G 67 (z 6 i - 1) = nI (wH b) ∧ (4 ≤ b → G 68 (z 6 i - 1) = nI (b - 4)) ∧ (sp = 1 ∨ G 84 15 = 1) ∧
    oU z G i i (G 84 15) (G 84 16) (G 84 18) (G 84 17) (G 46 41) (G 46 42) (G 46 43) (G 46 44) (G 46 45) (G 46 46) := by
  obtain ⟨sp, hA0, ⟨p, hp, e116, e16⟩, ho, h57, hsp⟩ := h
  obtain ⟨⟨hP, hA, hB, hC, hD, hE, hF, hG, hH, hI, hJ, hK, hL, hM, hN, hO, hPg, hQ, hR, hS, hT, hU⟩, hm, h6, h12, hFr⟩ := id hA0
  obtain ⟨k1, k2, k3, k4, k5⟩ := id hK
  have hnr := cur_nrst (N := N) hC hI hK hPg (by omega)
  obtain ⟨i, hi⟩ : ∃ i, z 0 7 = i := ⟨_, rfl⟩
  rw [hi] at hb0 hc0 e116 ho h57 h6 k3 k4 k5 hnr
  rw [hm] at k4
  have hn6 : z 0 0 ≤ 600 := by have := hQ.1; have := hQ.2.2.2.1; omega
  have hCi := hC i (by omega)
  have h8 := (hCi.2.2.1 hb0).1
  rw [h8] at hnr
  obtain ⟨ir1, ir2, ir3, ir4, ir5⟩ := hI i (by omega) (by omega)
  obtain ⟨g1, g2, g3, g4, g5⟩ := hF i (by omega) hb0
  have hEi := (hE i (by omega)).2.2.2 hb0
  have hg3i := hG.2.2 i (by omega)
  have hQ9 := hQ.2.2.2.2.2.2.2.2.1
  have hQ10 := hQ.2.2.2.2.2.2.2.2.2.1
  have hR3 := hR.2.2.1
  refine ⟨sp, i, z 2 i, p, hi, h8, rfl, by have := hCi.2.2.2.1; omega, hA0, ⟨hQ10, h12, by rw [hQ9, hi], by omega, e116, hp, e16⟩, hCi.1, ?_, hn6, by omega, by omega, ?_, by rw [h57, hEi], by omega, g2, g3, g5, hsp, ho⟩
  · rw [(hD i (by omega)).2 hb0, hc0]; rfl
  · by_cases c4 : 4 ≤ z 2 i
    · right
      obtain ⟨w1, w2, w3⟩ := ir5 c4
      have w16 : z 16 (z 2 i - 4) = 3 := by
        rcases w3 with q | q | q
        · exact absurd ⟨c4, q⟩ hnr
        · exact absurd hc0 q.2
        · exact q.1
      obtain ⟨q1, q2, q3, q4, q5, q6, q7, q8, q9, q10⟩ := hPg _ w1
      exact ⟨c4, w1, w16, by rw [q8, w16]; rfl⟩
    · left
      have : ¬ (z 2 i = 2 ∨ z 2 i = 3) := fun q => ir4 q hc0
      omega
