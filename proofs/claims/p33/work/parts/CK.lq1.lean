/-! THE STATE BETWEEN TWO CALLS -/
def IBn (N : Nat) (G : Gt) : Prop := (jA N G ∧ G 84 7 = 0) ∨ ∃ B z, wST N B z G ∧ fR N G ∧ G 84 6 = 0 ∧ G 46 52 = 1
def IA (G : Gt) : Prop := ∃ N, jA N G
def IB (G : Gt) : Prop := ∃ N, IBn N G
theorem gS0_le {N N' : Nat} {G : Gt} (h : gS0 N G G) (hN : N ≤ N') : gS0 N' G G := by
  refine ⟨fun s hs => ?_, h.2⟩
  obtain ⟨a, b⟩ := h.1 s hs
  refine ⟨a, ?_⟩
  rcases b with b | ⟨j, hj, b⟩
  · exact Or.inl b
  · exact Or.inr ⟨j, by omega, b⟩
theorem gS1_le {N N' : Nat} {G : Gt} (h : gS1 N G G) (hN : N ≤ N') : gS1 N' G G := fun s hs => by
  obtain ⟨a, b, c, d⟩ := h s hs
  refine ⟨a, b, c, ?_⟩
  rcases d with d | ⟨j, hj, d⟩
  · exact Or.inl d
  · exact Or.inr ⟨j, by omega, d⟩
theorem gS1_eq {N : Nat} {G W : Gt} (h : gS1 N G G) (e : ∀ k j, k = 37 ∨ k = 39 ∨ k = 53 ∨ k = 55 → W k j = G k j) : gS1 N W W := fun s hs => by
  rw [e 37 s (by omega), e 53 s (by omega), e 39 s (by omega), e 55 s (by omega)]; exact h s hs
theorem gS0_eq {N : Nat} {G W : Gt} (h : gS0 N G G) (e : ∀ k j, k = 35 ∨ k = 54 ∨ (k = 19 ∧ (j = 7 ∨ j = 8)) ∨ (k = 46 ∧ (j = 12 ∨ j = 14)) → W k j = G k j) : gS0 N W W := by
  refine ⟨fun s hs => ?_, ?_, ?_, ?_⟩
  · rw [e 35 s (by omega), e 54 s (by omega)]; exact h.1 s hs
  · rw [e 19 7 (by omega), e 46 14 (by omega)]; exact h.2.1
  · rw [e 19 8 (by omega), e 46 12 (by omega)]; exact h.2.2.1
  · rw [e 46 12 (by omega)]; exact h.2.2.2
theorem gRg_eq {G W : Gt} (h : gRg G G) (e : ∀ k j, k = 33 ∨ k = 57 → W k j = G k j) : gRg W W := fun k hk => by
  rw [e 33 k (by omega), e 57 k (by omega)]; exact h k hk
theorem gOp_eq {G W : Gt} (h : gOp G G) (e : ∀ k j, k = 31 ∨ k = 56 → W k j = G k j) : gOp W W := fun k hk => by
  rw [e 31 k (by omega), e 56 k (by omega)]; exact h k hk
theorem gB_eq {G W : Gt} (h : gB G G) (e : ∀ k j, (k = 0 ∧ j = 4) ∨ (k = 46 ∧ j = 13) → W k j = G k j) : gB W W := by
  refine ⟨?_, ?_⟩
  · rw [e 0 4 (by omega), e 46 13 (by omega)]; exact h.1
  · rw [e 46 13 (by omega)]; exact h.2
theorem jA_cg {N N' : Nat} {G X : Gt} (h : jA N G) (hN : N ≤ N') (hP' : gP N' X X) (hB' : gB X X) (e : ∀ k j, ¬ frz N k j → X k j = G k j) (h52 : X 46 52 = 0) : jA N' X := by
  obtain ⟨hP, h0, h1, hS0, hS1, hRg, hOp, hL, hB, h5⟩ := h
  refine ⟨hP', gT_eqK (b := 0) h0 (fun k j q => e k j (by unfold tK at q; unfold frz; omega)), gT_eqK (b := 1) h1 (fun k j q => e k j (by unfold tK at q; unfold frz; omega)), gS0_eq (gS0_le hS0 hN) (fun k j q => e k j (by unfold frz; omega)), gS1_eq (gS1_le hS1 hN) (fun k j q => e k j (by unfold frz; omega)), gRg_eq hRg (fun k j q => e k j (by unfold frz; omega)), gOp_eq hOp (fun k j q => e k j (by unfold frz; omega)), gL_eq hL (fun k j q => e k j (by unfold frz; omega)), hB', h52⟩
theorem wb_cg {N N' : Nat} {G X : Gt} (h : wb N G) (hN : N ≤ N') (e : ∀ k j, ¬ frz N k j → X k j = G k j) : wb N' X := by
  obtain ⟨H, a1, a2, a3, a4, a5, a6, a7, a8⟩ := h
  refine ⟨H, a1, a2, gS0_le a3 hN, a4, a5, fun k j q => ?_, fun j hj => ?_, fun k hk => ?_⟩
  · rw [e (k + 66) j (by unfold bbk at q; unfold frz; omega)]; exact a6 k j q
  · rw [e 99 j (by unfold frz; omega)]; exact a7 j hj
  · rw [e 62 k (by unfold frz; omega)]; exact a8 k hk
theorem IBn_cg {N N' : Nat} {G X : Gt} (h : IBn N G) (hN : N ≤ N') (hP' : gP N' X X) (hB' : gB X X) (e : ∀ k j, ¬ frz N k j → X k j = G k j) (h52 : X 46 52 = G 46 52) : IBn N' X := by
  rcases h with ⟨hj, h7⟩ | ⟨B, z, hw, ⟨f1, f2, f3, f4, f5⟩, h6, h5⟩
  · exact Or.inl ⟨jA_cg hj hN hP' hB' e (h52.trans hj.2.2.2.2.2.2.2.2.2), (e 84 7 (by unfold frz; omega)).trans h7⟩
  · exact Or.inr ⟨B, z, wST_cg hw hN hP' e, ⟨hP', gS1_eq (gS1_le f2 hN) (fun k j q => e k j (by unfold frz; omega)), hB', gL_eq f4 (fun k j q => e k j (by unfold frz; omega)), wb_cg f5 hN e⟩, (e 84 6 (by unfold frz; omega)).trans h6, h52.trans h5⟩
theorem IBn_f {N : Nat} {G : Gt} (h : IBn N G) : gP N G G ∧ gS1 N G G ∧ gB G G ∧ gL G G := by
  rcases h with ⟨⟨hP, h0, h1, hS0, hS1, hRg, hOp, hL, hB, h5⟩, _⟩ | ⟨B, z, hw, ⟨f1, f2, f3, f4, f5⟩, h6, h5⟩
  · exact ⟨hP, hS1, hB, hL⟩
  · exact ⟨f1, f2, f3, f4⟩
theorem IBn_eq {N : Nat} {G X : Gt} (h : IBn N G) (e : ∀ k j, ¬ (k = 83 ∨ (k = 46 ∧ j = 71)) → X k j = G k j) : IBn N X := by
  obtain ⟨hP, hS1, hB, hL⟩ := IBn_f h
  obtain ⟨p1, p2, p3⟩ := pcl_all hP hS1 hB (fun k j q => e k j (by unfold pcl at q; omega))
  exact IBn_cg h (Nat.le_refl _) p1 p3 (fun k j q => e k j (by unfold frz at q; omega)) (e 46 52 (by omega))
/-- what can be looked at -/
def vis (G : Gt) : Prop := (∀ m, m < 4 → G 31 m = G 56 m) ∧ (∀ m, m < 4 → G 33 m = G 57 m) ∧ (∀ m, m < 6 → G 35 m = G 54 m) ∧ (∃ l0 l1, l0 ≤ 40 ∧ l1 ≤ 40 ∧ G 20 2 = nI l0 ∧ G 59 0 = nI l0 ∧ G 25 2 = nI l1 ∧ G 59 1 = nI l1) ∧ G 20 3 = G 61 0 ∧ G 25 3 = G 61 1 ∧ (∀ p, p < 40 → G 22 p = G 58 p) ∧ (∀ p, p < 40 → G 27 p = G 58 (40 + p)) ∧ (∀ p, p < 4 → G 24 p = G 60 p) ∧ (∀ p, p < 4 → G 29 p = G 60 (4 + p)) ∧ G 19 7 = G 46 14 ∧ G 19 8 = G 46 12
theorem vis_of {N : Nat} {G : Gt} (h0 : gT 20 0 G G) (h1 : gT 25 1 G G) (hS0 : gS0 N G G) (hRg : gRg G G) (hO : ∀ k, k < 4 → G 31 k = G 56 k) : vis G := by
  obtain ⟨⟨l, c, a1, a2, a3, a4, a5, a6, a7, a8⟩, a9⟩ := h0
  obtain ⟨⟨l', c', b1, b2, b3, b4, b5, b6, b7, b8⟩, b9⟩ := h1
  refine ⟨hO, fun m hm => (hRg m hm).1, fun m hm => (hS0.1 m hm).1, ⟨l, l', a1, b1, a3, a4, b3, b4⟩, a5.trans a6.symm, b5.trans b6.symm, fun p hp => ?_, fun p hp => (b9 p hp).1, fun p hp => ?_, fun p hp => (b8 p hp).1, ?_, hS0.2.2.1⟩
  · have := (a9 p hp).1
    rw [Nat.mul_zero, Nat.zero_add] at this
    exact this
  · have := (a8 p hp).1
    rw [Nat.mul_zero, Nat.zero_add] at this
    exact this
  · obtain ⟨b, _, q1, q2⟩ := hS0.2.1
    exact q1.trans q2.symm
theorem jA_vis {N : Nat} {G : Gt} (h : jA N G) : vis G := by
  obtain ⟨hP, h0, h1, hS0, hS1, hRg, hOp, hL, hB, h5⟩ := h
  exact vis_of h0 h1 hS0 hRg (fun k hk => (hOp k hk).1)
theorem IBn_vis {N : Nat} {G : Gt} (h : IBn N G) : vis G := by
  rcases h with ⟨hj, _⟩ | ⟨B, z, hw, _⟩
  · exact jA_vis hj
  · obtain ⟨hP, hA, hB, hC, hD, hE, hF, hG, hH, hI, hJ, hK, hL, hM, hNN, hO, hPg, hQ, hR, hS, hT, hU⟩ := hw.1
    obtain ⟨u1, u2, u3, u4, u5, u6⟩ := hU
    exact vis_of u1 u2 u3 u5 (fun k hk => (u6 k hk).1)
theorem gP_n {N : Nat} {G : Gt} (h : gP N G G) : N ≤ 120 ∧ G 1 7 = nI N ∧ G 46 0 = nI N ∧ (∀ m, m < N → G 9 m = G 51 m) ∧ (∀ m, m < N → G 11 m = G 52 m ∧ bz (G 52 m)) := by
  obtain ⟨hN, h1, h2, h3, h4, U, h5, h6, h7, h8⟩ := h
  refine ⟨hN, h1, h2, fun m hm => ?_, fun m hm => ?_⟩
  · obtain ⟨k, e, s, q1, q2, q3, q4, q5, q6, q7, q8, q9, q10, q11, q12, q13, q14⟩ := h8 m hm
    exact q9.trans q10.symm
  · obtain ⟨k, e, s, q1, q2, q3, q4, q5, q6, q7, q8, q9, q10, q11, q12, q13, q14⟩ := h8 m hm
    exact ⟨q11, q12⟩
theorem IBn_st {N : Nat} {G : Gt} (h : IBn N G) : (G 84 7 = 0 ↔ G 46 52 = 0) := by
  rcases h with ⟨hj, h7⟩ | ⟨B, z, hw, _, _, h5⟩
  · exact ⟨fun _ => hj.2.2.2.2.2.2.2.2.2, fun _ => h7⟩
  · have := (w_cells hw).1
    exact ⟨fun q => by rw [this] at q; exact absurd q (by decide), fun q => by rw [h5] at q; exact absurd q (by decide)⟩
theorem IBn_0 {N : Nat} {G : Gt} (h : IBn N G) (h0 : G 46 52 = 0) : jA N G ∧ G 84 7 = 0 := by
  rcases h with h | ⟨B, z, hw, _, _, h5⟩
  · exact h
  · rw [h5] at h0; exact absurd h0 (by decide)
/-! what a call changes -/
theorem jA_op {N i : Nat} {y v t : Int32} {G : Gt} (h : jA N G) (hi : i < 4) (hy : isnum y) : jA N (gu (gu (gu (gu G 31 i y) 83 0 v) 46 71 t) 56 i y) := by
  have e : ∀ k j, ¬ k = 31 → ¬ k = 56 → ¬ k = 83 → ¬ (k = 46 ∧ j = 71) → (gu (gu (gu (gu G 31 i y) 83 0 v) 46 71 t) 56 i y) k j = G k j := fun k j a b c d => by
    rw [gu_n (by omega), gu_n (by omega), gu_n (by omega), gu_n (by omega)]
  obtain ⟨hP, h0, h1, hS0, hS1, hRg, hOp, hL, hB, h5⟩ := h
  obtain ⟨p1, p2, p3⟩ := pcl_all (W := gu (gu (gu (gu G 31 i y) 83 0 v) 46 71 t) 56 i y) hP hS1 hB (fun k j q => by unfold pcl at q; exact e k j (by omega) (by omega) (by omega) (by omega))
  refine ⟨p1, gT_eqK (b := 0) h0 (fun k j q => by unfold tK at q; exact e k j (by omega) (by omega) (by omega) (by omega)), gT_eqK (b := 1) h1 (fun k j q => by unfold tK at q; exact e k j (by omega) (by omega) (by omega) (by omega)), gS0_eq hS0 (fun k j q => e k j (by omega) (by omega) (by omega) (by omega)), p2, gRg_eq hRg (fun k j q => e k j (by omega) (by omega) (by omega) (by omega)), fun k hk => ?_, gL_eq hL (fun k j q => e k j (by omega) (by omega) (by omega) (by omega)), p3, (e 46 52 (by omega) (by omega) (by omega) (by omega)).trans h5⟩
  by_cases q : k = i
  · subst q
    rw [gu_kk, gu_oo _ (by decide), gu_oo _ (by decide), gu_oo _ (by decide), gu_kk]
    exact ⟨rfl, hy⟩
  · rw [gu_n (k := 56) (by omega), gu_n (by omega), gu_n (by omega), gu_n (by omega), gu_n (k := 56) (by omega), gu_n (by omega), gu_n (by omega), gu_n (by omega)]
    exact hOp k hk
theorem jA_df {N i a b : Nat} {x y u v t : Int32} {G : Gt} (h : jA N G) (hi : i < 6) (ha : a < 3) (hb : b < N) (ey : y = nI a) (eu : u = nI b) (ev : v = -1 ∨ ∃ d, d < N ∧ v = nI d) : jA N (gu (gu (gu (gu (gu (gu (gu (gu G 35 i u) 37 i y) 39 i v) 83 0 t) 46 71 0) 53 i y) 54 i u) 55 i v) := by
  have e : ∀ k j, ¬ (k = 35 ∧ j = i) → ¬ (k = 37 ∧ j = i) → ¬ (k = 39 ∧ j = i) → ¬ (k = 53 ∧ j = i) → ¬ (k = 54 ∧ j = i) → ¬ (k = 55 ∧ j = i) → ¬ k = 83 → ¬ (k = 46 ∧ j = 71) → (gu (gu (gu (gu (gu (gu (gu (gu G 35 i u) 37 i y) 39 i v) 83 0 t) 46 71 0) 53 i y) 54 i u) 55 i v) k j = G k j := fun k j a1 a2 a3 a4 a5 a6 c d => by
    rw [gu_n (by omega), gu_n (by omega), gu_n (by omega), gu_n (by omega), gu_n (by omega), gu_n (by omega), gu_n (by omega), gu_n (by omega)]
  obtain ⟨hP, h0, h1, hS0, hS1, hRg, hOp, hL, hB, h5⟩ := h
  refine ⟨gP_eq hP (fun k j q => e k j (by omega) (by omega) (by omega) (by omega) (by omega) (by omega) (by omega) (by omega)), gT_eqK (b := 0) h0 (fun k j q => by unfold tK at q; exact e k j (by omega) (by omega) (by omega) (by omega) (by omega) (by omega) (by omega) (by omega)), gT_eqK (b := 1) h1 (fun k j q => by unfold tK at q; exact e k j (by omega) (by omega) (by omega) (by omega) (by omega) (by omega) (by omega) (by omega)), ⟨fun s hs => ?_, ?_, ?_, ?_⟩, fun s hs => ?_, gRg_eq hRg (fun k j q => e k j (by omega) (by omega) (by omega) (by omega) (by omega) (by omega) (by omega) (by omega)), gOp_eq hOp (fun k j q => e k j (by omega) (by omega) (by omega) (by omega) (by omega) (by omega) (by omega) (by omega)), gL_eq hL (fun k j q => e k j (by omega) (by omega) (by omega) (by omega) (by omega) (by omega) (by omega) (by omega)), gB_eq hB (fun k j q => e k j (by omega) (by omega) (by omega) (by omega) (by omega) (by omega) (by omega) (by omega)), (e 46 52 (by omega) (by omega) (by omega) (by omega) (by omega) (by omega) (by omega) (by omega)).trans h5⟩
  · by_cases q : s = i
    · subst q
      have e1 : (gu (gu (gu (gu (gu (gu (gu (gu G 35 s u) 37 s y) 39 s v) 83 0 t) 46 71 0) 53 s y) 54 s u) 55 s v) 35 s = u := by
        rw [gu_n (by omega), gu_n (by omega), gu_n (by omega), gu_n (by omega), gu_n (by omega), gu_n (by omega), gu_n (by omega), gu_kk]
      have e2 : (gu (gu (gu (gu (gu (gu (gu (gu G 35 s u) 37 s y) 39 s v) 83 0 t) 46 71 0) 53 s y) 54 s u) 55 s v) 54 s = u := by
        rw [gu_n (by omega), gu_kk]
      rw [e1, e2]
      exact ⟨rfl, Or.inr ⟨b, hb, eu⟩⟩
    · rw [e 35 s (by omega) (by omega) (by omega) (by omega) (by omega) (by omega) (by omega) (by omega), e 54 s (by omega) (by omega) (by omega) (by omega) (by omega) (by omega) (by omega) (by omega)]
      exact hS0.1 s hs
  · rw [e 19 7 (by omega) (by omega) (by omega) (by omega) (by omega) (by omega) (by omega) (by omega), e 46 14 (by omega) (by omega) (by omega) (by omega) (by omega) (by omega) (by omega) (by omega)]
    exact hS0.2.1
  · rw [e 19 8 (by omega) (by omega) (by omega) (by omega) (by omega) (by omega) (by omega) (by omega), e 46 12 (by omega) (by omega) (by omega) (by omega) (by omega) (by omega) (by omega) (by omega)]
    exact hS0.2.2.1
  · rw [e 46 12 (by omega) (by omega) (by omega) (by omega) (by omega) (by omega) (by omega) (by omega)]
    exact hS0.2.2.2
  · by_cases q : s = i
    · subst q
      have e1 : (gu (gu (gu (gu (gu (gu (gu (gu G 35 s u) 37 s y) 39 s v) 83 0 t) 46 71 0) 53 s y) 54 s u) 55 s v) 37 s = y := by
        rw [gu_n (by omega), gu_n (by omega), gu_n (by omega), gu_n (by omega), gu_n (by omega), gu_n (by omega), gu_kk]
      have e2 : (gu (gu (gu (gu (gu (gu (gu (gu G 35 s u) 37 s y) 39 s v) 83 0 t) 46 71 0) 53 s y) 54 s u) 55 s v) 53 s = y := by
        rw [gu_n (by omega), gu_n (by omega), gu_kk]
      have e3 : (gu (gu (gu (gu (gu (gu (gu (gu G 35 s u) 37 s y) 39 s v) 83 0 t) 46 71 0) 53 s y) 54 s u) 55 s v) 39 s = v := by
        rw [gu_n (by omega), gu_n (by omega), gu_n (by omega), gu_n (by omega), gu_n (by omega), gu_kk]
      rw [e1, e2, e3, gu_kk]
      exact ⟨rfl, ⟨a, ha, ey⟩, rfl, ev⟩
    · rw [e 37 s (by omega) (by omega) (by omega) (by omega) (by omega) (by omega) (by omega) (by omega), e 53 s (by omega) (by omega) (by omega) (by omega) (by omega) (by omega) (by omega) (by omega), e 39 s (by omega) (by omega) (by omega) (by omega) (by omega) (by omega) (by omega) (by omega), e 55 s (by omega) (by omega) (by omega) (by omega) (by omega) (by omega) (by omega) (by omega)]
      exact hS1 s hs
/-- a letter at the end of a text -/
theorem gT_wr {a b l j : Nat} {y : Int32} {G W : Gt} (h : gT a b G G) (hl : l < 40) (h2 : G a 2 = nI l) (hj : j < 26) (ey : y = nI j) (w1 : W a 2 = nI (l + 1)) (w2 : W 59 b = nI (l + 1)) (w3 : W (a + 2) l = y) (w4 : W 58 (40 * b + l) = y)
    (e : ∀ k i, (k = a ∧ i = 3) ∨ (k = a + 4 ∧ i < 4) ∨ (k = a + 2 ∧ ¬ i = l) ∨ (k = 58 ∧ ¬ i = 40 * b + l) ∨ k = 60 ∨ k = 61 → W k i = G k i) : gT a b W W := by
  obtain ⟨⟨l', c, a1, a2, a3, a4, a5, a6, a7, a8⟩, a9⟩ := h
  have ell : l' = l := by
    have := a3.symm.trans h2
    exact (nI_eq (by omega) (by omega)).mp this
  subst ell
  refine ⟨⟨l' + 1, c, by omega, a2, w1, w2, ?_, ?_, ?_, fun k hk => ?_⟩, fun p hp => ?_⟩
  · rw [e a 3 (by omega)]; exact a5
  · rw [e 61 b (by omega)]; exact a6
  · rw [e 60 _ (by omega)]; exact a7
  · rw [e (a + 4) k (by omega), e 60 _ (by omega)]
    obtain ⟨x1, x2⟩ := a8 k hk
    refine ⟨x1, ?_⟩
    rcases x2 with x2 | ⟨i, hi, x2⟩
    · exact Or.inl x2
    · exact Or.inr ⟨i, by omega, x2⟩
  · by_cases q : p = l'
    · subst q
      rw [w3, w4]
      exact ⟨rfl, j, hj, ey⟩
    · rw [e (a + 2) p (by omega), e 58 _ (by omega)]
      exact a9 p hp
theorem jA_w0 {N l j : Nat} {y v : Int32} {G : Gt} (h : jA N G) (hl : l < 40) (h2 : G 20 2 = nI l) (hj : j < 26) (ey : y = nI j) : jA N (gu (gu (gu (gu (gu (gu G 22 l y) 20 2 (nI (l + 1))) 83 0 v) 46 71 0) 58 l y) 59 0 (nI (l + 1))) := by
  have e : ∀ k i, ¬ (k = 22 ∧ i = l) → ¬ (k = 20 ∧ i = 2) → ¬ k = 83 → ¬ (k = 46 ∧ i = 71) → ¬ (k = 58 ∧ i = l) → ¬ (k = 59 ∧ i = 0) → (gu (gu (gu (gu (gu (gu G 22 l y) 20 2 (nI (l + 1))) 83 0 v) 46 71 0) 58 l y) 59 0 (nI (l + 1))) k i = G k i := fun k i a1 a2 a3 a4 a5 a6 => by
    rw [gu_n (by omega), gu_n (by omega), gu_n (by omega), gu_n (by omega), gu_n (by omega), gu_n (by omega)]
  obtain ⟨hP, h0, h1, hS0, hS1, hRg, hOp, hL, hB, h5⟩ := h
  refine ⟨gP_eq hP (fun k i q => e k i (by omega) (by omega) (by omega) (by omega) (by omega) (by omega)), gT_wr h0 hl h2 hj ey ?_ ?_ ?_ ?_ (fun k i q => e k i (by omega) (by omega) (by omega) (by omega) (by omega) (by omega)), gT_eqK (b := 1) h1 (fun k i q => by unfold tK at q; exact e k i (by omega) (by omega) (by omega) (by omega) (by omega) (by omega)), gS0_eq hS0 (fun k i q => e k i (by omega) (by omega) (by omega) (by omega) (by omega) (by omega)), gS1_eq hS1 (fun k i q => e k i (by omega) (by omega) (by omega) (by omega) (by omega) (by omega)), gRg_eq hRg (fun k i q => e k i (by omega) (by omega) (by omega) (by omega) (by omega) (by omega)), gOp_eq hOp (fun k i q => e k i (by omega) (by omega) (by omega) (by omega) (by omega) (by omega)), gL_eq hL (fun k i q => e k i (by omega) (by omega) (by omega) (by omega) (by omega) (by omega)), gB_eq hB (fun k i q => e k i (by omega) (by omega) (by omega) (by omega) (by omega) (by omega)), (e 46 52 (by omega) (by omega) (by omega) (by omega) (by omega) (by omega)).trans h5⟩
  · rw [gu_n (by omega), gu_n (by omega), gu_n (by omega), gu_n (by omega), gu_kk]
  · rw [gu_kk]
  · rw [gu_n (by omega), gu_n (by omega), gu_n (by omega), gu_n (by omega), gu_n (by omega), gu_kk]
  · rw [Nat.mul_zero, Nat.zero_add, gu_n (by omega), gu_kk]
theorem jA_w1 {N l j : Nat} {y v : Int32} {G : Gt} (h : jA N G) (hl : l < 40) (h2 : G 25 2 = nI l) (hj : j < 26) (ey : y = nI j) : jA N (gu (gu (gu (gu (gu (gu G 27 l y) 25 2 (nI (l + 1))) 83 0 v) 46 71 0) 58 (40 + l) y) 59 1 (nI (l + 1))) := by
  have e : ∀ k i, ¬ (k = 27 ∧ i = l) → ¬ (k = 25 ∧ i = 2) → ¬ k = 83 → ¬ (k = 46 ∧ i = 71) → ¬ (k = 58 ∧ i = 40 + l) → ¬ (k = 59 ∧ i = 1) → (gu (gu (gu (gu (gu (gu G 27 l y) 25 2 (nI (l + 1))) 83 0 v) 46 71 0) 58 (40 + l) y) 59 1 (nI (l + 1))) k i = G k i := fun k i a1 a2 a3 a4 a5 a6 => by
    rw [gu_n (by omega), gu_n (by omega), gu_n (by omega), gu_n (by omega), gu_n (by omega), gu_n (by omega)]
  obtain ⟨hP, h0, h1, hS0, hS1, hRg, hOp, hL, hB, h5⟩ := h
  refine ⟨gP_eq hP (fun k i q => e k i (by omega) (by omega) (by omega) (by omega) (by omega) (by omega)), gT_eqK (b := 0) h0 (fun k i q => by unfold tK at q; exact e k i (by omega) (by omega) (by omega) (by omega) (by omega) (by omega)), gT_wr h1 hl h2 hj ey ?_ ?_ ?_ ?_ (fun k i q => e k i (by omega) (by omega) (by omega) (by omega) (by omega) (by omega)), gS0_eq hS0 (fun k i q => e k i (by omega) (by omega) (by omega) (by omega) (by omega) (by omega)), gS1_eq hS1 (fun k i q => e k i (by omega) (by omega) (by omega) (by omega) (by omega) (by omega)), gRg_eq hRg (fun k i q => e k i (by omega) (by omega) (by omega) (by omega) (by omega) (by omega)), gOp_eq hOp (fun k i q => e k i (by omega) (by omega) (by omega) (by omega) (by omega) (by omega)), gL_eq hL (fun k i q => e k i (by omega) (by omega) (by omega) (by omega) (by omega) (by omega)), gB_eq hB (fun k i q => e k i (by omega) (by omega) (by omega) (by omega) (by omega) (by omega)), (e 46 52 (by omega) (by omega) (by omega) (by omega) (by omega) (by omega)).trans h5⟩
  · rw [gu_n (by omega), gu_n (by omega), gu_n (by omega), gu_n (by omega), gu_kk]
  · rw [gu_kk]
  · rw [gu_n (by omega), gu_n (by omega), gu_n (by omega), gu_n (by omega), gu_n (by omega), gu_kk]
  · rw [Nat.mul_one, gu_n (by omega), gu_kk]
/-- a place where steps stop -/
theorem gP_bk {N i : Nat} {q : Int32} {G W : Gt} (h : gP N G G) (hi : i < N) (hq : bz q) (w1 : W 11 i = q) (w2 : W 52 i = q) (e : ∀ k j, k = 1 ∨ k = 3 ∨ k = 5 ∨ k = 7 ∨ k = 9 ∨ (k = 11 ∧ ¬ j = i) ∨ k = 13 ∨ k = 14 ∨ k = 16 ∨ k = 18 ∨ (47 ≤ k ∧ k ≤ 51) ∨ (k = 52 ∧ ¬ j = i) ∨ (k = 46 ∧ j = 0) → W k j = G k j) : gP N W W := by
  obtain ⟨hN, h1, h2, h3, h4, U, h5, h6, h7, h8⟩ := h
  refine ⟨hN, ?_, ?_, ?_, fun m a b => ?_, U, ?_, h6, h7, fun m hm => ?_⟩
  · rw [e 1 7 (by omega)]; exact h1
  · rw [e 46 0 (by omega)]; exact h2
  · rw [e 16 0 (by omega)]; exact h3
  · rw [e 52 m (by omega), e 11 m (by omega)]; exact h4 m a b
  · rw [e 14 2 (by omega)]; exact h5
  · obtain ⟨k, f, s, q1, q2, q3, q4, q5, q6, q7, q8, q9, q10, q11, q12, q13, q14⟩ := h8 m hm
    refine ⟨k, f, s, q1, q2, q3, q4, ?_, ?_, ?_, ?_, ?_, ?_, ?_, ?_, ?_, ?_⟩
    · rw [e 3 m (by omega)]; exact q5
    · rw [e 47 m (by omega)]; exact q6
    · rw [e 5 m (by omega), e 48 m (by omega)]; exact q7
    · rw [e 7 m (by omega), e 49 m (by omega)]; exact q8
    · rw [e 9 m (by omega)]; exact q9
    · rw [e 51 m (by omega)]; exact q10
    · by_cases z : m = i
      · subst z; rw [w1, w2]
      · rw [e 11 m (by omega), e 52 m (by omega)]; exact q11
    · by_cases z : m = i
      · subst z; rw [w2]; exact hq
      · rw [e 52 m (by omega)]; exact q12
    · rw [e 13 m (by omega)]; exact q13
    · rw [e 48 m (by omega), e 49 m (by omega), e 50 m (by omega)]
      obtain ⟨o1, o2, o3, o4, o5⟩ := q14
      refine ⟨o1, o2, o3, o4, fun r w d hr => ?_⟩
      rw [e 16 _ (by omega), e 18 _ (by omega)]; exact o5 r w d hr
theorem bk_all {N i : Nat} {q v : Int32} {G : Gt} (hP : gP N G G) (hB : gB G G) (hi : i < N) (hq : bz q) : gP N (gu (gu (gu (gu G 11 i q) 83 0 v) 46 71 0) 52 i q) (gu (gu (gu (gu G 11 i q) 83 0 v) 46 71 0) 52 i q) ∧ gB (gu (gu (gu (gu G 11 i q) 83 0 v) 46 71 0) 52 i q) (gu (gu (gu (gu G 11 i q) 83 0 v) 46 71 0) 52 i q) ∧ (∀ k j, ¬ frz N k j → (gu (gu (gu (gu G 11 i q) 83 0 v) 46 71 0) 52 i q) k j = G k j) ∧ (gu (gu (gu (gu G 11 i q) 83 0 v) 46 71 0) 52 i q) 46 52 = G 46 52 := by
  refine ⟨gP_bk hP hi hq ?_ ?_ (fun k j c => ?_), gB_eq hB (fun k j c => ?_), fun k j c => ?_, ?_⟩
  · rw [gu_n (by omega), gu_n (by omega), gu_n (by omega), gu_kk]
  · rw [gu_kk]
  · rw [gu_n (by omega), gu_n (by omega), gu_n (by omega), gu_n (by omega)]
  · rw [gu_n (by omega), gu_n (by omega), gu_n (by omega), gu_n (by omega)]
  · unfold frz at c
    rw [gu_n (by omega), gu_n (by omega), gu_n (by omega), gu_n (by omega)]
  · rw [gu_n (by omega), gu_n (by omega), gu_n (by omega), gu_n (by omega)]
theorem bd_all {N : Nat} {x v : Int32} {G : Gt} (hP : gP N G G) (hx : 1 ≤ x ∧ x ≤ 600) : gP N (gu (gu (gu (gu G 0 4 x) 83 0 v) 46 71 0) 46 13 x) (gu (gu (gu (gu G 0 4 x) 83 0 v) 46 71 0) 46 13 x) ∧ gB (gu (gu (gu (gu G 0 4 x) 83 0 v) 46 71 0) 46 13 x) (gu (gu (gu (gu G 0 4 x) 83 0 v) 46 71 0) 46 13 x) ∧ (∀ k j, ¬ frz N k j → (gu (gu (gu (gu G 0 4 x) 83 0 v) 46 71 0) 46 13 x) k j = G k j) ∧ (gu (gu (gu (gu G 0 4 x) 83 0 v) 46 71 0) 46 13 x) 46 52 = G 46 52 := by
  refine ⟨gP_eq hP (fun k j c => ?_), ⟨?_, ?_⟩, fun k j c => ?_, ?_⟩
  · rw [gu_n (by omega), gu_n (by omega), gu_n (by omega), gu_n (by omega)]
  · rw [gu_n (by omega), gu_n (by omega), gu_n (by omega), gu_kk, gu_kk]
  · rw [gu_kk]
    obtain ⟨i, hi, e⟩ := (lit_b1 (x := x) (b := 600) (N := 601) rfl (by decide)).mp ⟨Int32.le_trans (by decide) hx.1, hx.2⟩
    refine ⟨i, ?_, by omega, e⟩
    rcases Nat.eq_zero_or_pos i with z | z
    · subst z
      rw [e] at hx
      exact absurd hx.1 (by decide)
    · exact z
  · unfold frz at c
    rw [gu_n (by omega), gu_n (by omega), gu_n (by omega), gu_n (by omega)]
  · rw [gu_n (by omega), gu_n (by omega), gu_n (by omega), gu_n (by omega)]
theorem nd_all {N U : Nat} {G X : Gt} (hB : gB G G) (e : ∀ p j, ¬ chN N U p j → X p j = G p j) : gB X X ∧ (∀ k j, ¬ frz N k j → X k j = G k j) ∧ X 46 52 = G 46 52 := by
  refine ⟨gB_eq hB (fun k j c => e k j (by unfold chN; omega)), fun k j c => e k j (by unfold frz at c; unfold chN; omega), e 46 52 (by unfold chN; omega)⟩
