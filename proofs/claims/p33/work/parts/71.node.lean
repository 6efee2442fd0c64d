def pv (k : Int32) : Int32 :=
  if k = 0 then 500 else if k = 1 then 300 else if k = 2 then 310 else if k = 3 then 310 else if k = 10 then 111 else if k = 12 then 100 else if k = 13 then 210 else if k = 14 then 210 else if k = 15 then 200 else if k = 16 then 310 else if k = 18 then 488 else if k = 19 then 100 else if k = 20 then 311 else if k = 22 then 100 else if k = 23 then 100 else if k = 24 then 100 else if k = 25 then 100 else if k = 26 then 211 else if k = 27 then 200 else if k = 28 then 210 else if k = 29 then 100 else if k = 30 then 0 else if k = 31 then 100 else if k = 32 then 0 else if k = 33 then 0 else if k = 34 then 0 else if k = 35 then 100 else if k = 36 then 100 else if k = 37 then 100 else if k = 38 then 470 else if k = 39 then 600 else 110
theorem s11_partsOf {K : Int32 → Gt → Prop} {k : Int32} {G : Gt} (h : K (pv k) G) : w_X11_partsOf K k G := by
  unfold w_X11_partsOf w_X11_partsOf_j184 w_X11_partsOf_j225 w_X11_partsOf_j196 w_X11_partsOf_j200 w_X11_partsOf_j223 w_X11_partsOf_j228
  unfold pv at h
  refine ⟨fun h0 => by rwa [if_pos h0] at h, fun h0 => ?_⟩
  rw [if_neg h0] at h
  refine ⟨fun h1 => by rwa [if_pos h1] at h, fun h1 => ?_⟩
  rw [if_neg h1] at h
  refine ⟨fun h2 => by rwa [if_pos h2] at h, fun h2 => ?_⟩
  rw [if_neg h2] at h
  refine ⟨fun h3 => by rwa [if_pos h3] at h, fun h3 => ?_⟩
  rw [if_neg h3] at h
  refine ⟨fun h4 => by rwa [if_pos h4] at h, fun h4 => ?_⟩
  rw [if_neg h4] at h
  refine ⟨fun h5 => by rwa [if_pos h5] at h, fun h5 => ?_⟩
  rw [if_neg h5] at h
  refine ⟨fun h6 => by rwa [if_pos h6] at h, fun h6 => ?_⟩
  rw [if_neg h6] at h
  refine ⟨fun h7 => by rwa [if_pos h7] at h, fun h7 => ?_⟩
  rw [if_neg h7] at h
  refine ⟨fun h8 => by rwa [if_pos h8] at h, fun h8 => ?_⟩
  rw [if_neg h8] at h
  refine ⟨fun h9 => by rwa [if_pos h9] at h, fun h9 => ?_⟩
  rw [if_neg h9] at h
  refine ⟨fun h10 => by rwa [if_pos h10] at h, fun h10 => ?_⟩
  rw [if_neg h10] at h
  refine ⟨fun h11 => by rwa [if_pos h11] at h, fun h11 => ?_⟩
  rw [if_neg h11] at h
  refine ⟨fun h12 => by rwa [if_pos h12] at h, fun h12 => ?_⟩
  rw [if_neg h12] at h
  refine ⟨fun h13 => by rwa [if_pos h13] at h, fun h13 => ?_⟩
  rw [if_neg h13] at h
  refine ⟨fun h14 => by rwa [if_pos h14] at h, fun h14 => ?_⟩
  rw [if_neg h14] at h
  refine ⟨fun h15 => by rwa [if_pos h15] at h, fun h15 => ?_⟩
  rw [if_neg h15] at h
  refine ⟨fun h16 => by rwa [if_pos h16] at h, fun h16 => ?_⟩
  rw [if_neg h16] at h
  refine ⟨fun h17 => by rwa [if_pos h17] at h, fun h17 => ?_⟩
  rw [if_neg h17] at h
  refine ⟨fun h18 => by rwa [if_pos h18] at h, fun h18 => ?_⟩
  rw [if_neg h18] at h
  refine ⟨fun h19 => by rwa [if_pos h19] at h, fun h19 => ?_⟩
  rw [if_neg h19] at h
  refine ⟨fun h20 => by rwa [if_pos h20] at h, fun h20 => ?_⟩
  rw [if_neg h20] at h
  refine ⟨fun h21 => by rwa [if_pos h21] at h, fun h21 => ?_⟩
  rw [if_neg h21] at h
  refine ⟨fun h22 => by rwa [if_pos h22] at h, fun h22 => ?_⟩
  rw [if_neg h22] at h
  refine ⟨fun h23 => by rwa [if_pos h23] at h, fun h23 => ?_⟩
  rw [if_neg h23] at h
  refine ⟨fun h24 => by rwa [if_pos h24] at h, fun h24 => ?_⟩
  rw [if_neg h24] at h
  refine ⟨fun h25 => by rwa [if_pos h25] at h, fun h25 => ?_⟩
  rw [if_neg h25] at h
  refine ⟨fun h26 => by rwa [if_pos h26] at h, fun h26 => ?_⟩
  rw [if_neg h26] at h
  refine ⟨fun h27 => by rwa [if_pos h27] at h, fun h27 => ?_⟩
  rw [if_neg h27] at h
  refine ⟨fun h28 => by rwa [if_pos h28] at h, fun h28 => ?_⟩
  rw [if_neg h28] at h
  refine ⟨fun h29 => by rwa [if_pos h29] at h, fun h29 => ?_⟩
  rw [if_neg h29] at h
  refine ⟨fun h30 => by rwa [if_pos h30] at h, fun h30 => ?_⟩
  rw [if_neg h30] at h
  exact h
def cho (w a b c : Int32) : Int32 := if w = 0 then a else if w = 1 then b else c
theorem s4_choose {K : Int32 → Gt → Prop} {w a b c : Int32} {G : Gt} (h : K (cho w a b c) G) : w_X4_choose K w a b c G := by
  unfold w_X4_choose w_X4_choose_j18
  unfold cho at h
  refine ⟨fun h1 => by rwa [if_pos h1] at h, fun h1 => ?_⟩
  rw [if_neg h1] at h
  exact ⟨fun h2 => by rwa [if_pos h2] at h, fun h2 => by rwa [if_neg h2] at h⟩
abbrev hasN (G : Gt) (x : Int32) : Prop := 0 ≤ x ∧ x < G 1 7
def lk (G : Gt) (l x : Int32) : Prop := (l = 112 ∧ ¬ hasN G x) ∨ (l = 111 ∧ ¬ x = -1 ∧ ¬ hasN G x)
theorem lack_it {K : Int32 → Gt → Prop} {n : Nat} {k a b c w x : Int32} {G : Gt} (hc : ¬ 3 ≤ w) (hx : cho w a b c = x) (h1 : lk G (shp k w b) x → K 1 G) (h2 : ¬ lk G (shp k w b) x → w_X4_lacksPart_h3 K n k a b c (w + 1) G) : w_X4_lacksPart_h3 K (n + 1) k a b c w G := by
  rw [w_X4_lacksPart_h3]
  refine pif_n hc (s4_choose ?_)
  rw [hx]
  have hj : ¬ (shp k w b = 112 ∧ ¬ hasN G x) → w_X4_lacksPart_j47 K (fun z0 z1 z2 z3 z4 z5 => w_X4_lacksPart_h3 K n z0 z1 z2 z3 z4 z5) k a b c w (shp k w b) x G := by
    intro h9
    unfold w_X4_lacksPart_j47 w_X4_lacksPart_j71
    refine ⟨fun e1 => ⟨fun e2 => h2 ?_, fun e2 => s4_has ⟨fun e3 => h1 (Or.inr ⟨e1, e2, bi_z.mp e3⟩), fun e3 => h2 ?_⟩⟩, fun e1 => h2 ?_⟩
    · rintro (z | z)
      · exact h9 z
      · exact z.2.1 e2
    · rintro (z | z)
      · exact h9 z
      · exact e3 (bi_z.mpr z.2.2)
    · rintro (z | z)
      · exact h9 z
      · exact e1 z.1
  refine ⟨fun e1 => s4_has ⟨fun e3 => h1 (Or.inl ⟨e1, bi_z.mp e3⟩), fun e3 => hj (fun z => e3 (bi_z.mpr z.2))⟩, fun e1 => hj (fun z => e1 z.1)⟩
theorem s4_lacks {K : Int32 → Gt → Prop} {k a b c : Int32} {G : Gt} (h1 : lk G (shp k 0 b) a ∨ lk G (shp k 1 b) b ∨ lk G (shp k 2 b) c → K 1 G) (h2 : ¬ (lk G (shp k 0 b) a ∨ lk G (shp k 1 b) b ∨ lk G (shp k 2 b) c) → K 0 G) : w_X4_lacksPart K k a b c G := by
  refine ⟨4, lack_it (x := a) (by decide) rfl (fun e => h1 (Or.inl e)) (fun e0 => lack_it (x := b) (by decide) rfl (fun e => h1 (Or.inr (Or.inl e))) (fun e1 => lack_it (x := c) (by decide) rfl (fun e => h1 (Or.inr (Or.inr e))) (fun e2 => ?_)))⟩
  rw [w_X4_lacksPart_h3]
  refine pif_p (by decide) (h2 ?_)
  rintro (z | z | z)
  · exact e0 z
  · exact e1 z
  · exact e2 z
/-- what a letter asks of a number -/
def fitP (l x : Int32) : Prop := if l = 118 then -9999 ≤ x ∧ x ≤ 9999 else if l = 110 then 0 ≤ x ∧ x < 8 else if l = 113 then 0 ≤ x ∧ x < 4 else if l = 115 then 0 ≤ x ∧ x < 6 else if l = 104 then x = -1 ∨ (0 ≤ x ∧ x < 6) else if l = 45 then x = -1 else True
theorem s4_fits {K : Int32 → Gt → Prop} {l x : Int32} {G : Gt} (h1 : fitP l x → K 1 G) (h0 : ¬ fitP l x → K 0 G) : w_X4_fits K l x G := by
  have hb : ∀ (P : Prop) [Decidable P], (fitP l x ↔ P) → bz (bi P) ∧ K (bi P) G := by
    intro P _ e
    refine ⟨bz_bi, ?_⟩
    by_cases h : P
    · rw [bi_T h]; exact h1 (e.mpr h)
    · rw [bi_F h]; exact h0 (fun z => h (e.mp z))
  unfold w_X4_fits w_X4_fits_j69 w_X4_fits_j86 w_X4_fits_j74 w_X4_fits_j91
  refine ⟨fun e1 => hb _ (by rw [fitP, if_pos e1]), fun e1 => ⟨fun e2 => hb _ (by rw [fitP, if_neg e1, if_pos e2]), fun e2 => ⟨fun e3 => hb _ (by rw [fitP, if_neg e1, if_neg e2, if_pos e3]), fun e3 => ⟨fun e4 => hb _ (by rw [fitP, if_neg e1, if_neg e2, if_neg e3, if_pos e4]), fun e4 => ⟨fun e5 => ?_, fun e5 => ⟨fun e6 => ?_, fun e6 => ?_⟩⟩⟩⟩⟩⟩
  · have e : fitP l x = (x = -1 ∨ (0 ≤ x ∧ x < 6)) := by rw [fitP, if_neg e1, if_neg e2, if_neg e3, if_neg e4, if_pos e5]
    rw [e] at h1 h0
    refine ⟨fun q => ⟨bz_1, h1 (Or.inl q)⟩, fun q => ⟨fun r => ⟨bz_0, h0 ?_⟩, fun r => ⟨bz_1, h1 (Or.inr ?_)⟩⟩⟩
    · rintro (z | z)
      · exact q z
      · exact bi_z.mp r z
    · exact Decidable.byContradiction (fun z => r (bi_z.mpr z))
  · have e : fitP l x = (x = -1) := by rw [fitP, if_neg e1, if_neg e2, if_neg e3, if_neg e4, if_neg e5, if_pos e6]
    rw [e] at h1 h0
    exact ⟨fun q => ⟨bz_1, h1 q⟩, fun q => ⟨bz_0, h0 q⟩⟩
  · have e : fitP l x = True := by rw [fitP, if_neg e1, if_neg e2, if_neg e3, if_neg e4, if_neg e5, if_neg e6]
    rw [e] at h1
    exact ⟨bz_1, h1 trivial⟩
theorem shap_it {K : Int32 → Gt → Prop} {n : Nat} {k a b c w x : Int32} {G : Gt} (hc : ¬ 3 ≤ w) (hx : cho w a b c = x) (h1 : ¬ fitP (shp k w b) x → K 0 G) (h2 : fitP (shp k w b) x → w_X4_isShaped_h14 K n k a b c (w + 1) G) : w_X4_isShaped_h14 K (n + 1) k a b c w G := by
  rw [w_X4_isShaped_h14]
  refine pif_n hc (s4_choose ?_)
  rw [hx]
  exact s4_fits (fun e => pif_n (by decide) (h2 e)) (fun e => pif_p rfl (h1 e))
theorem s4_shaped {K : Int32 → Gt → Prop} {k a b c : Int32} {G : Gt} (h1 : (0 ≤ k ∧ k < 40) ∧ fitP (shp k 0 b) a ∧ fitP (shp k 1 b) b ∧ fitP (shp k 2 b) c → K 1 G) (h2 : ¬ ((0 ≤ k ∧ k < 40) ∧ fitP (shp k 0 b) a ∧ fitP (shp k 1 b) b ∧ fitP (shp k 2 b) c) → K 0 G) : w_X4_isShaped K k a b c G := by
  refine ⟨fun e => h2 (fun z => bi_z.mp e z.1), fun e => ⟨4, ?_⟩⟩
  have hk : 0 ≤ k ∧ k < 40 := Decidable.byContradiction (fun z => e (bi_z.mpr z))
  refine shap_it (x := a) (by decide) rfl (fun z => h2 (fun y => z y.2.1)) (fun e0 => shap_it (x := b) (by decide) rfl (fun z => h2 (fun y => z y.2.2.1)) (fun e1 => shap_it (x := c) (by decide) rfl (fun z => h2 (fun y => z y.2.2.2)) (fun e2 => ?_)))
  rw [w_X4_isShaped_h14]
  exact pif_p (by decide) (h1 ⟨hk, e0, e1, e2⟩)
/-- what a part adds to a size -/
def szC (G : Gt) (k l x : Int32) : Int32 := if ((l = 112 ∨ l = 111) ∧ ¬ k = 38) ∧ (0 ≤ x ∧ x < G 1 7) then rat G 9 120 x else 0
theorem size_it {K : Int32 → Gt → Prop} {n : Nat} {k a b c s w x : Int32} {G : Gt} (hc : ¬ 3 ≤ w) (hx : cho w a b c = x) (h2 : w_X4_sizeWith_h6 K n k a b c (s + szC G k (shp k w b) x) (w + 1) G) : w_X4_sizeWith_h6 K (n + 1) k a b c s w G := by
  rw [w_X4_sizeWith_h6]
  refine pif_n hc (s4_choose ?_)
  rw [hx]
  have h0 : ∀ {P : Prop}, szC G k (shp k w b) x = 0 → w_X4_sizeWith_j75 K (fun z0 z1 z2 z3 z4 z5 z6 => w_X4_sizeWith_h6 K n z0 z1 z2 z3 z4 z5 z6) k a b c s w G := by
    intro _ e
    rw [e, Int32.add_zero] at h2
    exact h2
  have hj : (shp k w b = 112 ∨ shp k w b = 111) → w_X4_sizeWith_j46 K (fun z0 z1 z2 z3 z4 z5 z6 => w_X4_sizeWith_h6 K n z0 z1 z2 z3 z4 z5 z6) k a b c s w x G := by
    intro hl
    unfold w_X4_sizeWith_j46
    refine ⟨fun e => h0 (P := True) (by rw [szC, if_neg (fun z => z.1.2 e)]), fun e => s4_has ⟨fun e2 => h0 (P := True) (by rw [szC, if_neg (fun z => bi_z.mp e2 z.2)]), fun e2 => ?_⟩⟩
    have hh : 0 ≤ x ∧ x < G 1 7 := Decidable.byContradiction (fun z => e2 (bi_z.mpr z))
    rw [szC, if_pos ⟨⟨hl, e⟩, hh⟩] at h2
    exact h2
  refine ⟨fun e => hj (Or.inl e), fun e => ⟨fun e2 => hj (Or.inr e2), fun e2 => h0 (P := True) (by rw [szC, if_neg (fun z => z.1.1.elim e e2)])⟩⟩
def szA (G : Gt) (k a b c : Int32) : Int32 := ((1 + szC G k (shp k 0 b) a) + szC G k (shp k 1 b) b) + szC G k (shp k 2 b) c
theorem s4_sizeWith {K : Int32 → Gt → Prop} {k a b c : Int32} {G : Gt} (h : K (szA G k a b c) G) : w_X4_sizeWith K k a b c G := by
  refine ⟨4, size_it (x := a) (by decide) rfl (size_it (x := b) (by decide) rfl (size_it (x := c) (by decide) rfl ?_))⟩
  rw [w_X4_sizeWith_h6]
  exact pif_p (by decide) h
theorem s4_hasRoom {K : Int32 → Gt → Prop} {k a b c : Int32} {G : Gt} (h1 : ¬ 120 ≤ G 1 7 ∧ ¬ 150 < szA G k a b c → K 1 G) (h0 : ¬ (¬ 120 ≤ G 1 7 ∧ ¬ 150 < szA G k a b c) → K 0 G) : w_X4_hasRoom K k a b c G := by
  unfold w_X4_hasRoom w_X4_hasRoom_j28 w_X4_hasRoom_j29
  refine ⟨fun e => ⟨bz_0, h0 (fun z => z.1 e)⟩, fun e => s4_sizeWith ⟨fun e2 => ⟨bz_0, h0 (fun z => z.2 e2)⟩, fun e2 => ⟨bz_1, h1 ⟨e, e2⟩⟩⟩⟩
theorem s10_node_A {K : Int32 → Gt → Prop} {KX : Nat → Gt → Prop} {k a b c : Int32} {G : Gt} (h0 : lk G (shp k 0 b) a ∨ lk G (shp k 1 b) b ∨ lk G (shp k 2 b) c → KX 0 G)
    (h1 : ¬ (lk G (shp k 0 b) a ∨ lk G (shp k 1 b) b ∨ lk G (shp k 2 b) c) → ¬ ((0 ≤ k ∧ k < 40) ∧ fitP (shp k 0 b) a ∧ fitP (shp k 1 b) b ∧ fitP (shp k 2 b) c) → KX 1 G)
    (h2 : ¬ (lk G (shp k 0 b) a ∨ lk G (shp k 1 b) b ∨ lk G (shp k 2 b) c) → ((0 ≤ k ∧ k < 40) ∧ fitP (shp k 0 b) a ∧ fitP (shp k 1 b) b ∧ fitP (shp k 2 b) c) → ¬ (¬ 120 ≤ G 1 7 ∧ ¬ 150 < szA G k a b c) → KX 2 G)
    (h3 : ¬ (lk G (shp k 0 b) a ∨ lk G (shp k 1 b) b ∨ lk G (shp k 2 b) c) → ((0 ≤ k ∧ k < 40) ∧ fitP (shp k 0 b) a ∧ fitP (shp k 1 b) b ∧ fitP (shp k 2 b) c) → (¬ 120 ≤ G 1 7 ∧ ¬ 150 < szA G k a b c) → w_X4_add (fun v G1 => K v G1) k a b c G) : w_X10_node_A K KX k a b c G := by
  unfold w_X10_node_A
  exact s4_lacks (fun e => pif_n (by decide) (h0 e)) (fun e => pif_p rfl (s4_shaped (fun e1 => pif_n (by decide) (s4_hasRoom (fun e2 => pif_n (by decide) (h3 e e1 e2)) (fun e2 => pif_p rfl (h2 e e1 e2)))) (fun e1 => pif_p rfl (h1 e e1))))
theorem s10_node_B {K : Int32 → Gt → Prop} {KX : Nat → Gt → Prop} {k a b c : Int32} {G : Gt} (h0 : lk G (shp k 0 b) a ∨ lk G (shp k 1 b) b ∨ lk G (shp k 2 b) c → KX 0 G)
    (h1 : ¬ (lk G (shp k 0 b) a ∨ lk G (shp k 1 b) b ∨ lk G (shp k 2 b) c) → ¬ ((0 ≤ k ∧ k < 40) ∧ fitP (shp k 0 b) a ∧ fitP (shp k 1 b) b ∧ fitP (shp k 2 b) c) → KX 1 G)
    (h2 : ¬ (lk G (shp k 0 b) a ∨ lk G (shp k 1 b) b ∨ lk G (shp k 2 b) c) → ((0 ≤ k ∧ k < 40) ∧ fitP (shp k 0 b) a ∧ fitP (shp k 1 b) b ∧ fitP (shp k 2 b) c) → ¬ (¬ 120 ≤ G 1 7 ∧ ¬ 150 < szA G k a b c) → KX 2 G)
    (h3 : ¬ (lk G (shp k 0 b) a ∨ lk G (shp k 1 b) b ∨ lk G (shp k 2 b) c) → ((0 ≤ k ∧ k < 40) ∧ fitP (shp k 0 b) a ∧ fitP (shp k 1 b) b ∧ fitP (shp k 2 b) c) → (¬ 120 ≤ G 1 7 ∧ ¬ 150 < szA G k a b c) → w_X4_add (fun v G1 => K v G1) k a b c G) : w_X10_node_B K KX k a b c G := by
  unfold w_X10_node_B
  exact s4_lacks (fun e => pif_n (by decide) (h0 e)) (fun e => pif_p rfl (s4_shaped (fun e1 => pif_n (by decide) (s4_hasRoom (fun e2 => pif_n (by decide) (h3 e e1 e2)) (fun e2 => pif_p rfl (h2 e e1 e2)))) (fun e1 => pif_p rfl (h1 e e1))))
