/-! the reference's node, and what both say of a kind's letters -/
def Lt (d : Nat) : Int32 := [45, 112, 113, 110, 115, 118, 104, 112, 111].getD d 0
def tb (k w : Nat) : Nat := (pv (nI k)).toNatClampNeg / (if w = 0 then 100 else if w = 1 then 10 else 1) % 10
def tbP (k w : Nat) : Prop := (w = 0 → pv (nI k) / 100 = nI (tb k w)) ∧ (w = 1 → (pv (nI k) / 10) - (pv (nI k) / 10) / 10 * 10 = nI (tb k w)) ∧ (w = 2 → pv (nI k) - pv (nI k) / 10 * 10 = nI (tb k w)) ∧ txat (nI k * 3 + nI w) = Lt (tb k w) ∧ tb k w < 9 ∧ (tb k w = 7 → k = 38) ∧ (k = 38 → ¬ tb k w = 1 ∧ ¬ tb k w = 8) ∧ (k = 18 → w = 2 → tb k w = 8) ∧ ibl (nI k) 40 = 1 ∧ ibl (nI k * 3 + nI w) 120 = 1
theorem tb_1 : ∀ k, k < 40 → (pv (nI k) / 100 = nI (tb k 0) ∧ (pv (nI k) / 10) - (pv (nI k) / 10) / 10 * 10 = nI (tb k 1) ∧ pv (nI k) - pv (nI k) / 10 * 10 = nI (tb k 2)) := by decide +kernel
theorem tb_2 : ∀ k, k < 40 → ∀ w, w < 3 → (txat (nI k * 3 + nI w) = Lt (tb k w) ∧ tb k w < 9) := by decide +kernel
theorem tb_3 : ∀ k, k < 40 → ∀ w, w < 3 → ((tb k w = 7 → k = 38) ∧ (k = 38 → ¬ tb k w = 1 ∧ ¬ tb k w = 8)) := by decide +kernel
theorem tb_4 : ∀ k, k < 40 → ∀ w, w < 3 → ((k = 18 → w = 2 → tb k w = 8) ∧ ibl (nI k) 40 = 1 ∧ ibl (nI k * 3 + nI w) 120 = 1) := by decide +kernel
theorem tb_all (k : Nat) (hk : k < 40) (w : Nat) (hw : w < 3) : tbP k w := by
  obtain ⟨a1, a2, a3⟩ := tb_1 k hk
  obtain ⟨b1, b2⟩ := tb_2 k hk w hw
  obtain ⟨c1, c2⟩ := tb_3 k hk w hw
  obtain ⟨d1, d2, d3⟩ := tb_4 k hk w hw
  exact ⟨fun e => by subst e; exact a1, fun e => by subst e; exact a2, fun e => by subst e; exact a3, b1, b2, c1, c2, d1, d2, d3⟩
theorem tb_shp {k w : Nat} (hk : k < 40) (hw : w < 3) {b : Int32} (h : ¬ (k = 18 ∧ w = 2 ∧ b = -1)) : shp (nI k) (nI w) b = Lt (tb k w) := by
  obtain ⟨_, _, _, h4, _, _, _, _, h8, h9⟩ := tb_all k hk w hw
  unfold shp
  rw [if_neg, if_pos ⟨h8, h9⟩, h4]
  rintro ⟨e1, e2, e3⟩
  exact h ⟨(nI_eq (b := 18) (by omega) (by decide)).mp e1, (nI_eq (b := 2) (by omega) (by decide)).mp e2, e3⟩
/-- can be a node, where it has to be one -/
def cbnP (N d : Nat) (x : Int32) (c : Prop) : Prop := (d = 1 ∨ d = 7 ∨ (d = 8 ∧ ¬ x = -1 ∧ c)) → ∃ i, i < N ∧ x = nI i
theorem s11_cbn {K : Int32 → Gt → Prop} {N d : Nat} {x c : Int32} {G : Gt} (hN : N ≤ 120) (e : G 46 0 = nI N) (hd : d < 9) (h1 : cbnP N d x (¬ c = 0) → K 1 G) (h0 : ¬ cbnP N d x (¬ c = 0) → K 0 G) : w_X11_canBeNode K (nI d) x c G := by
  have hy : (d = 1 ∨ d = 7 ∨ (d = 8 ∧ ¬ x = -1 ∧ ¬ c = 0)) → w_X11_canBeNode_j26 K x G := by
    intro hh
    refine pif_n (by decide) ?_
    by_cases hx : ∃ i, i < N ∧ x = nI i
    · obtain ⟨i, hi, rfl⟩ := hx
      exact node_y e hN hi (pif_n (by decide) ⟨bz_1, h1 (fun _ => ⟨i, hi, rfl⟩)⟩)
    · exact node_n e hN hx (pif_p rfl ⟨bz_0, h0 (fun z => hx (z hh))⟩)
  have hn : ¬ (d = 1 ∨ d = 7 ∨ (d = 8 ∧ ¬ x = -1 ∧ ¬ c = 0)) → w_X11_canBeNode_j30 K x G := fun hh => pif_p rfl ⟨bz_1, h1 (fun z => absurd z hh)⟩
  have q : ∀ a, a < 9 → (nI d = nI a ↔ d = a) := fun a ha => nI_eq (by omega) (by omega)
  refine ⟨fun z => hy (Or.inl ((q 1 (by decide)).mp z)), fun z1 => ⟨fun z => hy (Or.inr (Or.inl ((q 7 (by decide)).mp z))), fun z7 => ⟨fun z8 => ⟨fun zx => hn ?_, fun zx => ⟨fun zc => hn ?_, fun zc => hy (Or.inr (Or.inr ⟨(q 8 (by decide)).mp z8, zx, zc⟩))⟩⟩, fun z8 => hn ?_⟩⟩⟩
  · rintro (z | z | z)
    · exact z1 ((q 1 (by decide)).mpr z)
    · exact z7 ((q 7 (by decide)).mpr z)
    · exact z.2.1 zx
  · rintro (z | z | z)
    · exact z1 ((q 1 (by decide)).mpr z)
    · exact z7 ((q 7 (by decide)).mpr z)
    · exact z.2.2 zc
  · rintro (z | z | z)
    · exact z1 ((q 1 (by decide)).mpr z)
    · exact z7 ((q 7 (by decide)).mpr z)
    · exact z8 ((q 8 (by decide)).mpr z.1)
def cbP (d : Nat) (x : Int32) : Prop := (d = 0 → x = -1) ∧ (d = 2 → ∃ i, i < 4 ∧ x = nI i) ∧ (d = 3 → ∃ i, i < 8 ∧ x = nI i) ∧ (d = 4 → ∃ i, i < 6 ∧ x = nI i) ∧ (d = 5 → isnum x) ∧ (d = 6 → x = -1 ∨ ∃ i, i < 6 ∧ x = nI i)
theorem s11_cb {K : Int32 → Gt → Prop} {d : Nat} {x : Int32} {G : Gt} (hd : d < 9) (h1 : cbP d x → K 1 G) (h0 : ¬ cbP d x → K 0 G) : w_X11_canBe K (nI d) x G := by
  have q : ∀ a, a < 9 → (nI d = nI a ↔ d = a) := fun a ha => nI_eq (by omega) (by omega)
  refine ⟨fun z => ?_, fun z0 => ⟨fun z => ?_, fun z2 => ⟨fun z => ?_, fun z3 => ⟨fun z => ?_, fun z4 => ⟨fun z => ?_, fun z5 => ⟨fun z => ?_, fun z6 => h1 ?_⟩⟩⟩⟩⟩⟩
  · have e := (q 0 (by decide)).mp z
    subst e
    exact ⟨fun zx => ⟨bz_1, h1 (by refine ⟨fun _ => zx, ?_, ?_, ?_, ?_, ?_⟩ <;> intro z <;> cases z)⟩, fun zx => ⟨bz_0, h0 (fun z => zx (z.1 rfl))⟩⟩
  · have e := (q 2 (by decide)).mp z
    subst e
    by_cases hx : ∃ i, i < 4 ∧ x = nI i
    · obtain ⟨i, hi, rfl⟩ := id hx
      exact few_y hi ⟨bz_1, h1 (by refine ⟨?_, fun _ => hx, ?_, ?_, ?_, ?_⟩ <;> intro z <;> cases z)⟩
    · exact few_n hx ⟨bz_0, h0 (fun z => hx (z.2.1 rfl))⟩
  · have e := (q 3 (by decide)).mp z
    subst e
    by_cases hx : ∃ i, i < 8 ∧ x = nI i
    · obtain ⟨i, hi, rfl⟩ := id hx
      exact name_y hi ⟨bz_1, h1 (by refine ⟨?_, ?_, fun _ => hx, ?_, ?_, ?_⟩ <;> intro z <;> cases z)⟩
    · exact name_n hx ⟨bz_0, h0 (fun z => hx (z.2.2.1 rfl))⟩
  · have e := (q 4 (by decide)).mp z
    subst e
    by_cases hx : ∃ i, i < 6 ∧ x = nI i
    · obtain ⟨i, hi, rfl⟩ := id hx
      exact slot_y hi ⟨bz_1, h1 (by refine ⟨?_, ?_, ?_, fun _ => hx, ?_, ?_⟩ <;> intro z <;> cases z)⟩
    · exact slot_n hx ⟨bz_0, h0 (fun z => hx (z.2.2.2.1 rfl))⟩
  · have e := (q 5 (by decide)).mp z
    subst e
    by_cases hx : isnum x
    · exact in_y hx ⟨bz_1, h1 (by refine ⟨?_, ?_, ?_, ?_, fun _ => hx, ?_⟩ <;> intro z <;> cases z)⟩
    · exact in_n hx ⟨bz_0, h0 (fun z => hx (z.2.2.2.2.1 rfl))⟩
  · have e := (q 6 (by decide)).mp z
    subst e
    refine ⟨fun zx => ⟨bz_1, h1 (by refine ⟨?_, ?_, ?_, ?_, ?_, fun _ => Or.inl zx⟩ <;> intro z <;> cases z)⟩, fun zx => ?_⟩
    by_cases hx : ∃ i, i < 6 ∧ x = nI i
    · obtain ⟨i, hi, rfl⟩ := id hx
      exact slot_y hi (pif_n (by decide) ⟨bz_1, h1 (by refine ⟨?_, ?_, ?_, ?_, ?_, fun _ => Or.inr hx⟩ <;> intro z <;> cases z)⟩)
    · exact slot_n hx (pif_p rfl ⟨bz_0, h0 (fun z => (z.2.2.2.2.2 rfl).elim zx hx)⟩)
  · exact ⟨fun z => absurd ((q 0 (by decide)).mpr z) z0, fun z => absurd ((q 2 (by decide)).mpr z) z2, fun z => absurd ((q 3 (by decide)).mpr z) z3, fun z => absurd ((q 4 (by decide)).mpr z) z4, fun z => absurd ((q 5 (by decide)).mpr z) z5, fun z => absurd ((q 6 (by decide)).mpr z) z6⟩
/-- the size that a part adds -/
def szR (d : Nat) (x : Int32) (G : Gt) : Int32 := if d = 1 ∨ (d = 8 ∧ ¬ x = -1) then G 51 x.toNatClampNeg else 0
theorem s11_sizeOf {K : Int32 → Gt → Prop} {d : Nat} {x : Int32} {G : Gt} (hd : d < 9) (hv : (d = 1 ∨ (d = 8 ∧ ¬ x = -1)) → vp_in x 120) (h : K (szR d x G) G) : w_X11_sizeOf K (nI d) x G := by
  have q : ∀ a, a < 9 → (nI d = nI a ↔ d = a) := fun a ha => nI_eq (by omega) (by omega)
  unfold szR at h
  refine ⟨fun z => ?_, fun z1 => ⟨fun z8 => ⟨fun zx => ?_, fun zx => ?_⟩, fun z8 => ?_⟩⟩
  · have e := (q 1 (by decide)).mp z
    rw [if_pos (Or.inl e)] at h
    exact ⟨hv (Or.inl e), h⟩
  · rw [if_neg] at h
    · exact h
    · rintro (z | z)
      · exact z1 ((q 1 (by decide)).mpr z)
      · exact z.2 zx
  · have e := (q 8 (by decide)).mp z8
    rw [if_pos (Or.inr ⟨e, zx⟩)] at h
    exact ⟨hv (Or.inr ⟨e, zx⟩), h⟩
  · rw [if_neg] at h
    · exact h
    · rintro (z | z)
      · exact z1 ((q 1 (by decide)).mpr z)
      · exact z8 ((q 8 (by decide)).mpr z.1)
/-! letters against digits -/
theorem nI_neg {j : Nat} (hj : j < 2 ^ 31) : ¬ nI j = -1 := by
  intro z
  have := nI_pos' hj
  rw [z] at this
  exact absurd this (by decide)
theorem lk_cbn {N d : Nat} {x : Int32} {G : Gt} (hN : N ≤ 120) (e : G 1 7 = nI N) (hd : d < 9) : lk G (Lt d) x ↔ ¬ cbnP N d x True := by
  have hh : hasN G x ↔ ∃ i, i < N ∧ x = nI i := by unfold hasN; rw [e]; exact nI_b (by omega)
  unfold lk cbnP
  rw [hh]
  have : d = 0 ∨ d = 1 ∨ d = 2 ∨ d = 3 ∨ d = 4 ∨ d = 5 ∨ d = 6 ∨ d = 7 ∨ d = 8 := by omega
  rcases this with rfl | rfl | rfl | rfl | rfl | rfl | rfl | rfl | rfl <;> simp [Lt]
theorem fit_cb {d : Nat} {x : Int32} (hd : d < 9) : fitP (Lt d) x ↔ cbP d x := by
  have h8 : (0 ≤ x ∧ x < 8) ↔ ∃ i, i < 8 ∧ x = nI i := lit_b rfl (by decide)
  have h4 : (0 ≤ x ∧ x < 4) ↔ ∃ i, i < 4 ∧ x = nI i := lit_b rfl (by decide)
  have h6 : (0 ≤ x ∧ x < 6) ↔ ∃ i, i < 6 ∧ x = nI i := lit_b rfl (by decide)
  unfold fitP cbP
  rw [h8, h4, h6]
  have : d = 0 ∨ d = 1 ∨ d = 2 ∨ d = 3 ∨ d = 4 ∨ d = 5 ∨ d = 6 ∨ d = 7 ∨ d = 8 := by omega
  rcases this with rfl | rfl | rfl | rfl | rfl | rfl | rfl | rfl | rfl <;> simp [Lt]
