/-- the world behind a node, both sides -/
def wAdd (N U : Nat) (k a b c s : Int32) (G : Gt) : Gt :=
  rAdd N k a b c s (gu (gu (gu (emL (codeOf k a b c (nI U)) (gu (gu (gu (gu G 3 N k) 5 N a) 7 N b) 9 N s)) 13 N (nI U)) 1 7 (nI (N + 1))) 83 0 (nI N))
theorem wAdd_oth {N U : Nat} {k a b c s : Int32} {G : Gt} (hU : G 14 2 = nI U) (h9 : U + (codeOf k a b c (nI U)).length ≤ 1081) : ∀ p j, ¬ chN N U p j → wAdd N U k a b c s G p j = G p j := by
  intro p j h
  unfold chN at h
  have hx : ∀ q ∈ ([3, 5, 7, 9, 13, 47, 48, 49, 50, 51] : List Nat), ¬ (p = q ∧ j = N) := by
    intro q hq z
    simp only [List.mem_cons, List.not_mem_nil, or_false] at hq
    exact h (Or.inl ⟨by omega, z.2⟩)
  have n1 : ∀ (G' : Gt) (q i : Nat) (v : Int32), ¬ (p = q ∧ j = i) → gu G' q i v p j = G' p j := by
    intro G' q i v hh
    rw [gu_at, if_neg hh]
  unfold wAdd rAdd
  rw [n1 _ 46 0 _ (by omega), n1 _ 51 N _ (hx 51 (by simp)), n1 _ 50 N _ (hx 50 (by simp)), n1 _ 49 N _ (hx 49 (by simp)), n1 _ 48 N _ (hx 48 (by simp)), n1 _ 47 N _ (hx 47 (by simp)), n1 _ 46 71 _ (by omega), n1 _ 83 0 _ (by omega), n1 _ 1 7 _ (by omega), n1 _ 13 N _ (hx 13 (by simp))]
  have hb : (gu (gu (gu (gu G 3 N k) 5 N a) 7 N b) 9 N s) p j = G p j := by
    rw [n1 _ 9 N _ (hx 9 (by simp)), n1 _ 7 N _ (hx 7 (by simp)), n1 _ 5 N _ (hx 5 (by simp)), n1 _ 3 N _ (hx 3 (by simp))]
  by_cases h14 : p = 14
  · subst h14
    rw [emL_14 _ _ _ (by omega)]; exact hb
  · by_cases h16 : p = 16 ∨ p = 18
    · have hj : j < U := by omega
      obtain ⟨_, _, b3⟩ := emL_spec (codeOf k a b c (nI U)) (gu (gu (gu (gu G 3 N k) 5 N a) 7 N b) 9 N s) U hU h9
      obtain ⟨b1, b2⟩ := b3 j hj
      rcases h16 with rfl | rfl
      · rw [b1]; exact hb
      · rw [b2]; exact hb
    · rw [emL_oth _ _ _ _ h14 (by omega) (by omega)]; exact hb
theorem gP_add {N U k s : Nat} {a b c : Int32} {G : Gt} (hP : gP N G G) (hU : G 14 2 = nI U) (hN : N < 120) (hk : k < 40) (hs1 : 1 ≤ s) (hs : s ≤ 150) (o0 : okL (N + 1) (shp (nI k) 0 b) a) (o1 : okL (N + 1) (shp (nI k) 1 b) b) (o2 : okL (N + 1) (shp (nI k) 2 b) c) :
    gP (N + 1) (wAdd N U (nI k) a b c (nI s) G) (wAdd N U (nI k) a b c (nI s) G) := by
  obtain ⟨p1, p2, p3, p4, p5, U', p6, p7, p8, p9⟩ := hP
  have eU : U' = U ∨ ¬ U < 2 ^ 31 := by
    rcases Nat.lt_or_ge U (2 ^ 31) with h | h
    · exact Or.inl ((nI_eq (by omega) h).mp (p6.symm.trans hU))
    · exact Or.inr (by omega)
  have hlen := codeOf_len (nI k) a b c (nI U)
  have eU2 : nI U = nI U' := hU.symm.trans p6
  -- take U' for U
  have hW : wAdd N U (nI k) a b c (nI s) G = wAdd N U' (nI k) a b c (nI s) G := by unfold wAdd; rw [eU2]
  rw [hW]
  have hlen := codeOf_len (nI k) a b c (nI U')
  have hoth := wAdd_oth (N := N) (k := nI k) (a := a) (b := b) (c := c) (s := nI s) p6 (by omega)
  obtain ⟨s1, s2, s3⟩ := emL_spec (codeOf (nI k) a b c (nI U')) (gu (gu (gu (gu G 3 N (nI k)) 5 N a) 7 N b) 9 N (nI s)) U' p6 (by omega)
  refine ⟨by omega, rfl, rfl, ?_, ?_, U' + (codeOf (nI k) a b c (nI U')).length, ?_, by omega, by omega, ?_⟩
  · rw [hoth 16 0 (by unfold chN; omega)]; exact p4
  · intro m h1 h2
    rw [hoth 52 m (by unfold chN; omega), hoth 11 m (by unfold chN; omega)]
    exact p5 m (by omega) h2
  · show emL (codeOf (nI k) a b c (nI U')) (gu (gu (gu (gu G 3 N (nI k)) 5 N a) 7 N b) 9 N (nI s)) 14 2 = _
    exact s1
  · intro m hm
    by_cases e : m = N
    · subst e
      have r3 : wAdd m U' (nI k) a b c (nI s) G 3 m = nI k := by
        show emL (codeOf (nI k) a b c (nI U')) (gu (gu (gu (gu G 3 m (nI k)) 5 m a) 7 m b) 9 m (nI s)) 3 m = _
        rw [emL_oth _ _ _ _ (by decide) (by decide) (by decide)]; simp [gu]
      have r5 : wAdd m U' (nI k) a b c (nI s) G 5 m = a := by
        show emL (codeOf (nI k) a b c (nI U')) (gu (gu (gu (gu G 3 m (nI k)) 5 m a) 7 m b) 9 m (nI s)) 5 m = _
        rw [emL_oth _ _ _ _ (by decide) (by decide) (by decide)]; simp [gu]
      have r7 : wAdd m U' (nI k) a b c (nI s) G 7 m = b := by
        show emL (codeOf (nI k) a b c (nI U')) (gu (gu (gu (gu G 3 m (nI k)) 5 m a) 7 m b) 9 m (nI s)) 7 m = _
        rw [emL_oth _ _ _ _ (by decide) (by decide) (by decide)]; simp [gu]
      have r9 : wAdd m U' (nI k) a b c (nI s) G 9 m = nI s := by
        show emL (codeOf (nI k) a b c (nI U')) (gu (gu (gu (gu G 3 m (nI k)) 5 m a) 7 m b) 9 m (nI s)) 9 m = _
        rw [emL_oth _ _ _ _ (by decide) (by decide) (by decide)]; simp [gu]
      have r13 : wAdd m U' (nI k) a b c (nI s) G 13 m = nI U' := by simp [wAdd, rAdd, gu]
      have r47 : wAdd m U' (nI k) a b c (nI s) G 47 m = nI k := by simp [wAdd, rAdd, gu]
      have r48 : wAdd m U' (nI k) a b c (nI s) G 48 m = a := by simp [wAdd, rAdd, gu]
      have r49 : wAdd m U' (nI k) a b c (nI s) G 49 m = b := by simp [wAdd, rAdd, gu]
      have r50 : wAdd m U' (nI k) a b c (nI s) G 50 m = c := by simp [wAdd, rAdd, gu]
      have r51 : wAdd m U' (nI k) a b c (nI s) G 51 m = nI s := by simp [wAdd, rAdd, gu]
      obtain ⟨q1, q2⟩ := p5 m (by omega) (by omega)
      have r52 := hoth 52 m (by unfold chN; omega)
      have r11 := hoth 11 m (by unfold chN; omega)
      refine ⟨k, U', s, hk, p7, hs1, hs, r3, r47, by rw [r5, r48], by rw [r7, r49], r9, r51, by rw [r11, r52, q1, q2], by rw [r52, q1]; exact bz_0, r13, by rw [r48, r49]; exact o0, by rw [r49]; exact o1, by rw [r49, r50]; exact o2, by rw [r48, r49, r50]; exact Nat.le_refl _, ?_⟩
      rw [r48, r49, r50]
      intro q x d hq
      exact s2 q x d hq
    · refine nodeR_keep (p9 m (by omega)) (by omega) (hoth _ _ ?_) (hoth _ _ ?_) (hoth _ _ ?_) (hoth _ _ ?_) (hoth _ _ ?_) (hoth _ _ ?_) (hoth _ _ ?_) (hoth _ _ ?_) (hoth _ _ ?_) (hoth _ _ ?_) (hoth _ _ ?_) (hoth _ _ ?_) (fun j hj => ⟨hoth _ _ ?_, hoth _ _ ?_⟩) (by omega)
      all_goals unfold chN; omega
/-! what the class asks, as the reference asks it -/
theorem lacks_iff {N k : Nat} {a b c : Int32} {G : Gt} (hN : N ≤ 120) (e : G 1 7 = nI N) (hk : k < 40) : (lk G (shp (nI k) 0 b) a ∨ lk G (shp (nI k) 1 b) b ∨ lk G (shp (nI k) 2 b) c) ↔ ¬ nHas N k a b c := by
  have d0 := (tb_2 k hk 0 (by decide)).2
  have d1 := (tb_2 k hk 1 (by decide)).2
  have d2 := (tb_2 k hk 2 (by decide)).2
  have i0 : lk G (shp (nI k) 0 b) a ↔ ¬ cbnP N (tb k 0) a True := by
    rw [show (0 : Int32) = nI 0 from rfl, tb_shp hk (by decide) (fun z => by omega)]; exact lk_cbn hN e d0
  have i1 : lk G (shp (nI k) 1 b) b ↔ ¬ cbnP N (tb k 1) b True := by
    rw [show (1 : Int32) = nI 1 from rfl, tb_shp hk (by decide) (fun z => by omega)]; exact lk_cbn hN e d1
  have i2 : lk G (shp (nI k) 2 b) c ↔ ¬ cbnP N (tb k 2) c (¬ b = -1) := by
    by_cases h : k = 18 ∧ b = -1
    · obtain ⟨rfl, rfl⟩ := h
      have es : shp (nI 18) 2 (-1) = 45 := by decide
      have et : tb 18 2 = 8 := (tb_4 18 (by decide) 2 (by decide)).1 rfl rfl
      rw [es, et]
      unfold lk cbnP
      simp
    · rw [show (2 : Int32) = nI 2 from rfl, tb_shp hk (by decide) (fun z => h ⟨z.1, z.2.2⟩), lk_cbn hN e d2]
      unfold cbnP
      by_cases hb : b = -1
      · have n8 : ¬ tb k 2 = 8 := by
          intro z
          have hall : ∀ k, k < 40 → tb k 2 = 8 → k = 18 := by decide +kernel
          exact h ⟨hall k hk z, hb⟩
        simp [n8]
      · simp [hb]
  rw [i0, i1, i2]
  unfold nHas
  constructor
  · rintro (h | h | h) z
    · exact h z.1
    · exact h z.2.1
    · exact h z.2.2
  · intro h
    by_cases h0 : cbnP N (tb k 0) a True
    · by_cases h1 : cbnP N (tb k 1) b True
      · exact Or.inr (Or.inr (fun z => h ⟨h0, h1, z⟩))
      · exact Or.inr (Or.inl h1)
    · exact Or.inl h0
theorem fits_iff {k : Nat} {a b c : Int32} (hk : k < 40) : ((0 ≤ nI k ∧ nI k < 40) ∧ fitP (shp (nI k) 0 b) a ∧ fitP (shp (nI k) 1 b) b ∧ fitP (shp (nI k) 2 b) c) ↔ nCan k a b c := by
  have d0 := (tb_2 k hk 0 (by decide)).2
  have d1 := (tb_2 k hk 1 (by decide)).2
  have d2 := (tb_2 k hk 2 (by decide)).2
  have hin : 0 ≤ nI k ∧ nI k < 40 := (lit_b (N := 40) rfl (by decide)).mpr ⟨k, hk, rfl⟩
  have i0 : fitP (shp (nI k) 0 b) a ↔ cbP (tb k 0) a := by
    rw [show (0 : Int32) = nI 0 from rfl, tb_shp hk (by decide) (fun z => by omega)]; exact fit_cb d0
  have i1 : fitP (shp (nI k) 1 b) b ↔ cbP (tb k 1) b := by
    rw [show (1 : Int32) = nI 1 from rfl, tb_shp hk (by decide) (fun z => by omega)]; exact fit_cb d1
  have i2 : fitP (shp (nI k) 2 b) c ↔ (cbP (tb k 2) c ∧ (k = 18 → b = -1 → c = -1)) := by
    by_cases h : k = 18 ∧ b = -1
    · obtain ⟨rfl, rfl⟩ := h
      have es : shp (nI 18) 2 (-1) = 45 := by decide
      have et : tb 18 2 = 8 := (tb_4 18 (by decide) 2 (by decide)).1 rfl rfl
      rw [es, et]
      unfold fitP cbP
      simp
    · rw [show (2 : Int32) = nI 2 from rfl, tb_shp hk (by decide) (fun z => h ⟨z.1, z.2.2⟩), fit_cb d2]
      exact ⟨fun z => ⟨z, fun e1 e2 => absurd ⟨e1, e2⟩ h⟩, fun z => z.1⟩
  rw [i0, i1, i2]
  unfold nCan
  exact ⟨fun z => z.2, fun z => ⟨hin, z⟩⟩
theorem size_iff {N k : Nat} {a b c : Int32} {G : Gt} (hN : N ≤ 120) (e : G 1 7 = nI N) (h9 : ∀ m, m < N → G 9 m = G 51 m) (hk : k < 40) (hh : nHas N k a b c) (hc : nCan k a b c) : szA G (nI k) a b c = nSz k a b c G := by
  have d0 := (tb_2 k hk 0 (by decide)).2
  have d1 := (tb_2 k hk 1 (by decide)).2
  have d2 := (tb_2 k hk 2 (by decide)).2
  have x0 := tb_3 k hk 0 (by decide)
  have x1 := tb_3 k hk 1 (by decide)
  have x2 := tb_3 k hk 2 (by decide)
  unfold szA nSz
  have i0 : szC G (nI k) (shp (nI k) 0 b) a = szR (tb k 0) a G := by
    rw [show (0 : Int32) = nI 0 from rfl, tb_shp hk (by decide) (fun z => by omega)]; exact szC_R hN e h9 d0 x0.1 x0.2 hk hh.1
  have i1 : szC G (nI k) (shp (nI k) 1 b) b = szR (tb k 1) b G := by
    rw [show (1 : Int32) = nI 1 from rfl, tb_shp hk (by decide) (fun z => by omega)]; exact szC_R hN e h9 d1 x1.1 x1.2 hk hh.2.1
  have i2 : szC G (nI k) (shp (nI k) 2 b) c = szR (tb k 2) c G := by
    by_cases h : k = 18 ∧ b = -1
    · obtain ⟨rfl, rfl⟩ := h
      have ec := hc.2.2.2 rfl rfl
      subst ec
      have es : shp (nI 18) 2 (-1) = 45 := by decide
      have et : tb 18 2 = 8 := (tb_4 18 (by decide) 2 (by decide)).1 rfl rfl
      rw [es, et]
      unfold szC szR
      simp
    · rw [show (2 : Int32) = nI 2 from rfl, tb_shp hk (by decide) (fun z => h ⟨z.1, z.2.2⟩)]
      refine szC_R hN e h9 d2 x2.1 x2.2 hk ?_
      intro z
      refine hh.2.2 (z.elim Or.inl (fun z => z.elim (fun z => Or.inr (Or.inl z)) (fun z => Or.inr (Or.inr ⟨z.1, z.2.1, ?_⟩))))
      intro eb
      have hall : ∀ k, k < 40 → tb k 2 = 8 → k = 18 := by decide +kernel
      exact h ⟨hall k hk z.1, eb⟩
  rw [i0, i1, i2]
theorem ok_iff {N k : Nat} {a b c : Int32} (hk : k < 40) (hh : nHas N k a b c) (hc : nCan k a b c) : okL N (shp (nI k) 0 b) a ∧ okL N (shp (nI k) 1 b) b ∧ okL N (shp (nI k) 2 b) c := by
  have d0 := (tb_2 k hk 0 (by decide)).2
  have d1 := (tb_2 k hk 1 (by decide)).2
  have d2 := (tb_2 k hk 2 (by decide)).2
  refine ⟨?_, ?_, ?_⟩
  · rw [show (0 : Int32) = nI 0 from rfl, tb_shp hk (by decide) (fun z => by omega)]; exact okL_of d0 hh.1 hc.1
  · rw [show (1 : Int32) = nI 1 from rfl, tb_shp hk (by decide) (fun z => by omega)]; exact okL_of d1 hh.2.1 hc.2.1
  · by_cases h : k = 18 ∧ b = -1
    · obtain ⟨rfl, rfl⟩ := h
      have ec := hc.2.2.2 rfl rfl
      subst ec
      have es : shp (nI 18) 2 (-1) = 45 := by decide
      rw [es]
      unfold okL
      simp
    · rw [show (2 : Int32) = nI 2 from rfl, tb_shp hk (by decide) (fun z => h ⟨z.1, z.2.2⟩)]
      refine okL_of d2 ?_ hc.2.2.1
      intro z
      refine hh.2.2 (z.elim Or.inl (fun z => z.elim (fun z => Or.inr (Or.inl z)) (fun z => Or.inr (Or.inr ⟨z.1, z.2.1, ?_⟩))))
      intro eb
      have hall : ∀ k, k < 40 → tb k 2 = 8 → k = 18 := by decide +kernel
      exact h ⟨hall k hk z.1, eb⟩
theorem nSz_n {N k : Nat} {a b c : Int32} {G : Gt} (hN : N ≤ 120) (hs : ∀ m, m < N → ∃ s, s ≤ 150 ∧ G 51 m = nI s) (hk : k < 40) (hh : nHas N k a b c) (hc : nCan k a b c) (h : ¬ 150 < nSz k a b c G) : ∃ s, 1 ≤ s ∧ s ≤ 150 ∧ nSz k a b c G = nI s := by
  have f : ∀ {d : Nat} {x : Int32}, cbnP N d x True → (d = 1 ∨ (d = 8 ∧ ¬ x = -1)) → ∃ i, i < N ∧ x = nI i := fun hc z => hc (z.elim Or.inl (fun z => Or.inr (Or.inr ⟨z.1, z.2, trivial⟩)))
  obtain ⟨s0, l0, e0⟩ := szR_n hN hs (f hh.1)
  obtain ⟨s1, l1, e1⟩ := szR_n hN hs (f hh.2.1)
  obtain ⟨s2, l2, e2⟩ := szR_n (d := tb k 2) (x := c) hN hs (by
    intro hd
    rcases hd with z | z
    · exact hh.2.2 (Or.inl z)
    · refine hh.2.2 (Or.inr (Or.inr ⟨z.1, z.2, ?_⟩))
      intro eb
      have hall : ∀ k, k < 40 → tb k 2 = 8 → k = 18 := by decide +kernel
      exact z.2 (hc.2.2.2 (hall k hk z.1) eb))
  have e : nSz k a b c G = nI (1 + s0 + s1 + s2) := by
    unfold nSz
    rw [e0, e1, e2, show (1 : Int32) = nI 1 from rfl, nI_add, nI_add, nI_add]
  refine ⟨1 + s0 + s1 + s2, by omega, ?_, e⟩
  rcases Nat.lt_or_ge 150 (1 + s0 + s1 + s2) with z | z
  · exact absurd (by rw [e]; exact nI_lt (a := 150) z (by omega)) h
  · exact z