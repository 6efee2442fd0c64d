/-! TWO RUNS of what the reference means, from worlds alike (but for the budget) -/
def rl (G G' : Gt) : Prop := ∀ k j, isR k = true → ¬ (k = 52 ∨ (k = 46 ∧ (j = 13 ∨ j = 59))) → G' k j = G k j
theorem rl.c {G G' : Gt} (h : rl G G') {k : Nat} (hk : isR k = true) (hn : ¬ (k = 46 ∨ k = 52)) : ∀ j, G' k j = G k j := fun j => h k j hk (fun q => hn (by rcases q with q | q; exact Or.inr q; exact Or.inl q.1))
theorem rl.s {G G' : Gt} (h : rl G G') {j : Nat} (hj : ¬ (j = 13 ∨ j = 59)) : G' 46 j = G 46 j := h 46 j rfl (fun q => hj (by rcases q with q | q; exact absurd q (by decide); exact q.2))
theorem rl_gu {G G' : Gt} {k j j' : Nat} {v v' : Int32} (h : rl G G') (ej : j' = j) (ev : v' = v) : rl (gu G k j v) (gu G' k j' v') := by
  subst ej; subst ev
  intro a b ha hb
  unfold gu
  split
  · split
    · rfl
    · exact h a b ha hb
  · exact h a b ha hb
theorem pifD {P Q A1 B1 A2 B2 : Prop} (e : Q = P) (h1 : pif P A1 B1) (h2 : pif Q A2 B2) : (A1 ∧ A2) ∨ (B1 ∧ B2) := by
  subst e
  by_cases q : Q
  · exact Or.inl ⟨h1.1 q, h2.1 q⟩
  · exact Or.inr ⟨h1.2 q, h2.2 q⟩
set_option maxHeartbeats 4000000 in
set_option maxRecDepth 100000 in
theorem d_X11_in_j15 {Φ : Prop} {K1 K2 : Int32 → Gt → Prop} (hk : ∀ {r s : Int32} {H1 H2 : Gt}, rl H1 H2 → K1 r H1 → K2 s H2 → s = r → Φ) : ∀ {a0 b0 : Int32} {G1 G2 : Gt}, rl G1 G2 → w_X11_in_j15 K1 a0 G1 → w_X11_in_j15 K2 b0 G2 → b0 = a0 → Φ := by
  intro a0 b0 G1 G2 hG0 h1 h2 e0
  subst e0
  unfold w_X11_in_j15 at h1 h2
  replace h1 := h1.2
  replace h2 := h2.2
  exact hk hG0 h1 h2 rfl
set_option maxHeartbeats 4000000 in
set_option maxRecDepth 100000 in
theorem d_X11_in_j14 {Φ : Prop} {K1 K2 : Int32 → Gt → Prop} (hk : ∀ {r s : Int32} {H1 H2 : Gt}, rl H1 H2 → K1 r H1 → K2 s H2 → s = r → Φ) : ∀ {G1 G2 : Gt}, rl G1 G2 → w_X11_in_j14 K1 G1 → w_X11_in_j14 K2 G2 → Φ := by
  intro  G1 G2 hG0 h1 h2 
  unfold w_X11_in_j14 at h1 h2
  exact d_X11_in_j15 hk hG0 h1 h2 rfl
set_option maxHeartbeats 4000000 in
set_option maxRecDepth 100000 in
theorem d_X11_in {Φ : Prop} {K1 K2 : Int32 → Gt → Prop} (hk : ∀ {r s : Int32} {H1 H2 : Gt}, rl H1 H2 → K1 r H1 → K2 s H2 → s = r → Φ) : ∀ {a0 b0 a1 b1 a2 b2 : Int32} {G1 G2 : Gt}, rl G1 G2 → w_X11_in K1 a0 a1 a2 G1 → w_X11_in K2 b0 b1 b2 G2 → b0 = a0 → b1 = a1 → b2 = a2 → Φ := by
  intro a0 b0 a1 b1 a2 b2 G1 G2 hG0 h1 h2 e0 e1 e2
  subst e0 e1 e2
  unfold w_X11_in at h1 h2
  rcases pifD rfl h1 h2 with ⟨h1, h2⟩ | ⟨h1, h2⟩
  · exact d_X11_in_j14 hk hG0 h1 h2
  · rcases pifD rfl h1 h2 with ⟨h1, h2⟩ | ⟨h1, h2⟩
    · exact d_X11_in_j14 hk hG0 h1 h2
    · exact d_X11_in_j15 hk hG0 h1 h2 rfl
set_option maxHeartbeats 4000000 in
set_option maxRecDepth 100000 in
theorem d_X11_isBuffer_j14 {Φ : Prop} {K1 K2 : Int32 → Gt → Prop} (hk : ∀ {r s : Int32} {H1 H2 : Gt}, rl H1 H2 → K1 r H1 → K2 s H2 → s = r → Φ) : ∀ {a0 b0 : Int32} {G1 G2 : Gt}, rl G1 G2 → w_X11_isBuffer_j14 K1 a0 G1 → w_X11_isBuffer_j14 K2 b0 G2 → b0 = a0 → Φ := by
  intro a0 b0 G1 G2 hG0 h1 h2 e0
  subst e0
  unfold w_X11_isBuffer_j14 at h1 h2
  replace h1 := h1.2
  replace h2 := h2.2
  exact hk hG0 h1 h2 rfl
set_option maxHeartbeats 4000000 in
set_option maxRecDepth 100000 in
theorem d_X11_isBuffer_j9 {Φ : Prop} {K1 K2 : Int32 → Gt → Prop} (hk : ∀ {r s : Int32} {H1 H2 : Gt}, rl H1 H2 → K1 r H1 → K2 s H2 → s = r → Φ) : ∀ {G1 G2 : Gt}, rl G1 G2 → w_X11_isBuffer_j9 K1 G1 → w_X11_isBuffer_j9 K2 G2 → Φ := by
  intro  G1 G2 hG0 h1 h2 
  unfold w_X11_isBuffer_j9 at h1 h2
  exact d_X11_isBuffer_j14 hk hG0 h1 h2 rfl
set_option maxHeartbeats 4000000 in
set_option maxRecDepth 100000 in
theorem d_X11_isBuffer {Φ : Prop} {K1 K2 : Int32 → Gt → Prop} (hk : ∀ {r s : Int32} {H1 H2 : Gt}, rl H1 H2 → K1 r H1 → K2 s H2 → s = r → Φ) : ∀ {a0 b0 : Int32} {G1 G2 : Gt}, rl G1 G2 → w_X11_isBuffer K1 a0 G1 → w_X11_isBuffer K2 b0 G2 → b0 = a0 → Φ := by
  intro a0 b0 G1 G2 hG0 h1 h2 e0
  subst e0
  unfold w_X11_isBuffer at h1 h2
  rcases pifD rfl h1 h2 with ⟨h1, h2⟩ | ⟨h1, h2⟩
  · exact d_X11_isBuffer_j9 hk hG0 h1 h2
  · rcases pifD rfl h1 h2 with ⟨h1, h2⟩ | ⟨h1, h2⟩
    · exact d_X11_isBuffer_j9 hk hG0 h1 h2
    · exact d_X11_isBuffer_j14 hk hG0 h1 h2 rfl
set_option maxHeartbeats 4000000 in
set_option maxRecDepth 100000 in
theorem d_X11_opens_h12 {Φ : Prop} {K1 K2 : Int32 → Gt → Prop} (hk : ∀ {r s : Int32} {H1 H2 : Gt}, rl H1 H2 → K1 r H1 → K2 s H2 → s = r → Φ) : ∀ (i1 i2 : Nat) {a0 b0 : Int32} {G1 G2 : Gt}, rl G1 G2 → w_X11_opens_h12 K1 i1 a0 G1 → w_X11_opens_h12 K2 i2 b0 G2 → b0 = a0 → Φ := by
  intro i1
  induction i1 with
  | zero =>
    intro i2 a0 b0 G1 G2 hG0 h1 h2 e0
    exact h1.elim
  | succ i1 ih =>
    intro i2 a0 b0 G1 G2 hG0 h1 h2 e0
    subst e0
    cases i2 with
    | zero => exact h2.elim
    | succ i2 =>
      rw [w_X11_opens_h12] at h1 h2
      rcases pifD rfl h1 h2 with ⟨h1, h2⟩ | ⟨h1, h2⟩
      · obtain ⟨G2a, eG2a, h1⟩ := h1
        obtain ⟨G2b, eG2b, h2⟩ := h2
        have hG2 : rl G2a G2b := by
          rw [eG2a, eG2b]
          exact rl_gu hG0 rfl (by simp only [hG0.s (j := 29) (by decide)])
        exact hk hG2 h1 h2 (by simp only [hG2.s (j := 29) (by decide)])
      · replace h1 := h1.2
        replace h2 := h2.2
        obtain ⟨G3a, eG3a, h1⟩ := h1
        obtain ⟨G3b, eG3b, h2⟩ := h2
        have hG3 : rl G3a G3b := by
          rw [eG3a, eG3b]
          exact rl_gu hG0 (by simp only [hG0.s (j := 29) (by decide)]) rfl
        exact ih _ hG3 h1 h2 rfl
set_option maxHeartbeats 4000000 in
set_option maxRecDepth 100000 in
theorem d_X11_opens {Φ : Prop} {K1 K2 : Int32 → Gt → Prop} (hk : ∀ {r s : Int32} {H1 H2 : Gt}, rl H1 H2 → K1 r H1 → K2 s H2 → s = r → Φ) : ∀ {a0 b0 : Int32} {G1 G2 : Gt}, rl G1 G2 → w_X11_opens K1 a0 G1 → w_X11_opens K2 b0 G2 → b0 = a0 → Φ := by
  intro a0 b0 G1 G2 hG0 h1 h2 e0
  subst e0
  unfold w_X11_opens at h1 h2
  replace h1 := h1.2
  replace h2 := h2.2
  obtain ⟨G1a, eG1a, h1⟩ := h1
  obtain ⟨G1b, eG1b, h2⟩ := h2
  have hG1 : rl G1a G1b := by
    rw [eG1a, eG1b]
    exact rl_gu hG0 (by simp only [hG0.s (j := 29) (by decide)]) rfl
  obtain ⟨i1, h1⟩ := h1
  obtain ⟨i2, h2⟩ := h2
  exact d_X11_opens_h12 hk _ _ hG1 h1 h2 rfl
set_option maxHeartbeats 4000000 in
set_option maxRecDepth 100000 in
theorem d_X11_lays {Φ : Prop} {K1 K2 : Int32 → Gt → Prop} (hk : ∀ {r s : Int32} {H1 H2 : Gt}, rl H1 H2 → K1 r H1 → K2 s H2 → s = r → Φ) : ∀ {a0 b0 a1 b1 a2 b2 a3 b3 : Int32} {G1 G2 : Gt}, rl G1 G2 → w_X11_lays K1 a0 a1 a2 a3 G1 → w_X11_lays K2 b0 b1 b2 b3 G2 → b0 = a0 → b1 = a1 → b2 = a2 → b3 = a3 → Φ := by
  intro a0 b0 a1 b1 a2 b2 a3 b3 G1 G2 hG0 h1 h2 e0 e1 e2 e3
  subst e0 e1 e2 e3
  unfold w_X11_lays at h1 h2
  replace h1 := h1.2
  replace h2 := h2.2
  obtain ⟨G1a, eG1a, h1⟩ := h1
  obtain ⟨G1b, eG1b, h2⟩ := h2
  have hG1 : rl G1a G1b := by
    rw [eG1a, eG1b]
    exact rl_gu hG0 (by simp only [hG0.s (j := 21) (by decide)]) rfl
  replace h1 := h1.2
  replace h2 := h2.2
  obtain ⟨G2a, eG2a, h1⟩ := h1
  obtain ⟨G2b, eG2b, h2⟩ := h2
  have hG2 : rl G2a G2b := by
    rw [eG2a, eG2b]
    exact rl_gu hG1 (by simp only [hG1.s (j := 21) (by decide)]) rfl
  replace h1 := h1.2
  replace h2 := h2.2
  obtain ⟨G3a, eG3a, h1⟩ := h1
  obtain ⟨G3b, eG3b, h2⟩ := h2
  have hG3 : rl G3a G3b := by
    rw [eG3a, eG3b]
    exact rl_gu hG2 (by simp only [hG2.s (j := 21) (by decide)]) rfl
  replace h1 := h1.2
  replace h2 := h2.2
  obtain ⟨G4a, eG4a, h1⟩ := h1
  obtain ⟨G4b, eG4b, h2⟩ := h2
  have hG4 : rl G4a G4b := by
    rw [eG4a, eG4b]
    exact rl_gu hG3 (by simp only [hG3.s (j := 21) (by decide)]) rfl
  obtain ⟨G5a, eG5a, h1⟩ := h1
  obtain ⟨G5b, eG5b, h2⟩ := h2
  have hG5 : rl G5a G5b := by
    rw [eG5a, eG5b]
    exact rl_gu hG4 rfl (by simp only [hG4.s (j := 21) (by decide)])
  exact hk hG5 h1 h2 (by simp only [hG5.s (j := 21) (by decide)])
set_option maxHeartbeats 4000000 in
set_option maxRecDepth 100000 in
theorem d_X11_asks {Φ : Prop} {K1 K2 : Gt → Prop} (hk : ∀ {H1 H2 : Gt}, rl H1 H2 → K1 H1 → K2 H2 → Φ) : ∀ {a0 b0 a1 b1 a2 b2 : Int32} {G1 G2 : Gt}, rl G1 G2 → w_X11_asks K1 a0 a1 a2 G1 → w_X11_asks K2 b0 b1 b2 G2 → b0 = a0 → b1 = a1 → b2 = a2 → Φ := by
  intro a0 b0 a1 b1 a2 b2 G1 G2 hG0 h1 h2 e0 e1 e2
  subst e0 e1 e2
  unfold w_X11_asks at h1 h2
  obtain ⟨G1a, eG1a, h1⟩ := h1
  obtain ⟨G1b, eG1b, h2⟩ := h2
  have hG1 : rl G1a G1b := by
    rw [eG1a, eG1b]
    exact rl_gu hG0 rfl rfl
  obtain ⟨G2a, eG2a, h1⟩ := h1
  obtain ⟨G2b, eG2b, h2⟩ := h2
  have hG2 : rl G2a G2b := by
    rw [eG2a, eG2b]
    exact rl_gu hG1 rfl rfl
  obtain ⟨G3a, eG3a, h1⟩ := h1
  obtain ⟨G3b, eG3b, h2⟩ := h2
  have hG3 : rl G3a G3b := by
    rw [eG3a, eG3b]
    exact rl_gu hG2 rfl rfl
  obtain ⟨G4a, eG4a, h1⟩ := h1
  obtain ⟨G4b, eG4b, h2⟩ := h2
  have hG4 : rl G4a G4b := by
    rw [eG4a, eG4b]
    exact rl_gu hG3 rfl rfl
  exact hk hG4 h1 h2
set_option maxHeartbeats 4000000 in
set_option maxRecDepth 100000 in
theorem d_X11_restores_h128 {Φ : Prop} {K1 K2 : Gt → Prop} (hk : ∀ {H1 H2 : Gt}, rl H1 H2 → K1 H1 → K2 H2 → Φ) : ∀ (i1 i2 : Nat) {a0 b0 : Int32} {G1 G2 : Gt}, rl G1 G2 → w_X11_restores_h128 K1 i1 a0 G1 → w_X11_restores_h128 K2 i2 b0 G2 → b0 = a0 → Φ := by
  intro i1
  induction i1 with
  | zero =>
    intro i2 a0 b0 G1 G2 hG0 h1 h2 e0
    exact h1.elim
  | succ i1 ih =>
    intro i2 a0 b0 G1 G2 hG0 h1 h2 e0
    subst e0
    cases i2 with
    | zero => exact h2.elim
    | succ i2 =>
      rw [w_X11_restores_h128] at h1 h2
      rcases pifD rfl h1 h2 with ⟨h1, h2⟩ | ⟨h1, h2⟩
      · replace h1 := h1.2
        replace h2 := h2.2
        obtain ⟨G1a, eG1a, h1⟩ := h1
        obtain ⟨G1b, eG1b, h2⟩ := h2
        have hG1 : rl G1a G1b := by
          rw [eG1a, eG1b]
          exact rl_gu hG0 rfl (by simp only [hG0.c (k := 62) rfl (by decide)])
        replace h1 := h1.2
        replace h2 := h2.2
        obtain ⟨G2a, eG2a, h1⟩ := h1
        obtain ⟨G2b, eG2b, h2⟩ := h2
        have hG2 : rl G2a G2b := by
          rw [eG2a, eG2b]
          exact rl_gu hG1 rfl (by simp only [hG1.c (k := 62) rfl (by decide)])
        exact hk hG2 h1 h2
      · replace h1 := h1.2
        replace h2 := h2.2
        replace h1 := h1.2
        replace h2 := h2.2
        obtain ⟨G3a, eG3a, h1⟩ := h1
        obtain ⟨G3b, eG3b, h2⟩ := h2
        have hG3 : rl G3a G3b := by
          rw [eG3a, eG3b]
          exact rl_gu hG0 rfl (by simp only [hG0.c (k := 62) rfl (by decide)])
        exact ih _ hG3 h1 h2 rfl
set_option maxHeartbeats 4000000 in
set_option maxRecDepth 100000 in
theorem d_X11_restores_h100 {Φ : Prop} {K1 K2 : Gt → Prop} (hk : ∀ {H1 H2 : Gt}, rl H1 H2 → K1 H1 → K2 H2 → Φ) : ∀ (i1 i2 : Nat) {a0 b0 : Int32} {G1 G2 : Gt}, rl G1 G2 → w_X11_restores_h100 K1 i1 a0 G1 → w_X11_restores_h100 K2 i2 b0 G2 → b0 = a0 → Φ := by
  intro i1
  induction i1 with
  | zero =>
    intro i2 a0 b0 G1 G2 hG0 h1 h2 e0
    exact h1.elim
  | succ i1 ih =>
    intro i2 a0 b0 G1 G2 hG0 h1 h2 e0
    subst e0
    cases i2 with
    | zero => exact h2.elim
    | succ i2 =>
      rw [w_X11_restores_h100] at h1 h2
      rcases pifD rfl h1 h2 with ⟨h1, h2⟩ | ⟨h1, h2⟩
      · obtain ⟨i1, h1⟩ := h1
        obtain ⟨i2, h2⟩ := h2
        exact d_X11_restores_h128 hk _ _ hG0 h1 h2 rfl
      · replace h1 := h1.2
        replace h2 := h2.2
        replace h1 := h1.2
        replace h2 := h2.2
        obtain ⟨G4a, eG4a, h1⟩ := h1
        obtain ⟨G4b, eG4b, h2⟩ := h2
        have hG4 : rl G4a G4b := by
          rw [eG4a, eG4b]
          exact rl_gu hG0 rfl (by simp only [hG0.c (k := 62) rfl (by decide)])
        exact ih _ hG4 h1 h2 rfl
set_option maxHeartbeats 4000000 in
set_option maxRecDepth 100000 in
theorem d_X11_restores_h71 {Φ : Prop} {K1 K2 : Gt → Prop} (hk : ∀ {H1 H2 : Gt}, rl H1 H2 → K1 H1 → K2 H2 → Φ) : ∀ (i1 i2 : Nat) {a0 b0 : Int32} {G1 G2 : Gt}, rl G1 G2 → w_X11_restores_h71 K1 i1 a0 G1 → w_X11_restores_h71 K2 i2 b0 G2 → b0 = a0 → Φ := by
  intro i1
  induction i1 with
  | zero =>
    intro i2 a0 b0 G1 G2 hG0 h1 h2 e0
    exact h1.elim
  | succ i1 ih =>
    intro i2 a0 b0 G1 G2 hG0 h1 h2 e0
    subst e0
    cases i2 with
    | zero => exact h2.elim
    | succ i2 =>
      rw [w_X11_restores_h71] at h1 h2
      rcases pifD rfl h1 h2 with ⟨h1, h2⟩ | ⟨h1, h2⟩
      · obtain ⟨i1, h1⟩ := h1
        obtain ⟨i2, h2⟩ := h2
        exact d_X11_restores_h100 hk _ _ hG0 h1 h2 rfl
      · replace h1 := h1.2
        replace h2 := h2.2
        replace h1 := h1.2
        replace h2 := h2.2
        obtain ⟨G5a, eG5a, h1⟩ := h1
        obtain ⟨G5b, eG5b, h2⟩ := h2
        have hG5 : rl G5a G5b := by
          rw [eG5a, eG5b]
          exact rl_gu hG0 rfl (by simp only [hG0.c (k := 62) rfl (by decide)])
        exact ih _ hG5 h1 h2 rfl
set_option maxHeartbeats 4000000 in
set_option maxRecDepth 100000 in
theorem d_X11_restores_h28 {Φ : Prop} {K1 K2 : Gt → Prop} (hk : ∀ {H1 H2 : Gt}, rl H1 H2 → K1 H1 → K2 H2 → Φ) : ∀ (i1 i2 : Nat) {a0 b0 : Int32} {G1 G2 : Gt}, rl G1 G2 → w_X11_restores_h28 K1 i1 a0 G1 → w_X11_restores_h28 K2 i2 b0 G2 → b0 = a0 → Φ := by
  intro i1
  induction i1 with
  | zero =>
    intro i2 a0 b0 G1 G2 hG0 h1 h2 e0
    exact h1.elim
  | succ i1 ih =>
    intro i2 a0 b0 G1 G2 hG0 h1 h2 e0
    subst e0
    cases i2 with
    | zero => exact h2.elim
    | succ i2 =>
      rw [w_X11_restores_h28] at h1 h2
      rcases pifD rfl h1 h2 with ⟨h1, h2⟩ | ⟨h1, h2⟩
      · obtain ⟨i1, h1⟩ := h1
        obtain ⟨i2, h2⟩ := h2
        exact d_X11_restores_h71 hk _ _ hG0 h1 h2 rfl
      · replace h1 := h1.2
        replace h2 := h2.2
        replace h1 := h1.2
        replace h2 := h2.2
        obtain ⟨G6a, eG6a, h1⟩ := h1
        obtain ⟨G6b, eG6b, h2⟩ := h2
        have hG6 : rl G6a G6b := by
          rw [eG6a, eG6b]
          exact rl_gu hG0 rfl (by simp only [hG0.c (k := 62) rfl (by decide)])
        replace h1 := h1.2
        replace h2 := h2.2
        replace h1 := h1.2
        replace h2 := h2.2
        obtain ⟨G7a, eG7a, h1⟩ := h1
        obtain ⟨G7b, eG7b, h2⟩ := h2
        have hG7 : rl G7a G7b := by
          rw [eG7a, eG7b]
          exact rl_gu hG6 rfl (by simp only [hG6.c (k := 62) rfl (by decide)])
        exact ih _ hG7 h1 h2 rfl
set_option maxHeartbeats 4000000 in
set_option maxRecDepth 100000 in
theorem d_X11_restores_h2 {Φ : Prop} {K1 K2 : Gt → Prop} (hk : ∀ {H1 H2 : Gt}, rl H1 H2 → K1 H1 → K2 H2 → Φ) : ∀ (i1 i2 : Nat) {a0 b0 : Int32} {G1 G2 : Gt}, rl G1 G2 → w_X11_restores_h2 K1 i1 a0 G1 → w_X11_restores_h2 K2 i2 b0 G2 → b0 = a0 → Φ := by
  intro i1
  induction i1 with
  | zero =>
    intro i2 a0 b0 G1 G2 hG0 h1 h2 e0
    exact h1.elim
  | succ i1 ih =>
    intro i2 a0 b0 G1 G2 hG0 h1 h2 e0
    subst e0
    cases i2 with
    | zero => exact h2.elim
    | succ i2 =>
      rw [w_X11_restores_h2] at h1 h2
      rcases pifD rfl h1 h2 with ⟨h1, h2⟩ | ⟨h1, h2⟩
      · obtain ⟨i1, h1⟩ := h1
        obtain ⟨i2, h2⟩ := h2
        exact d_X11_restores_h28 hk _ _ hG0 h1 h2 rfl
      · replace h1 := h1.2
        replace h2 := h2.2
        replace h1 := h1.2
        replace h2 := h2.2
        obtain ⟨G8a, eG8a, h1⟩ := h1
        obtain ⟨G8b, eG8b, h2⟩ := h2
        have hG8 : rl G8a G8b := by
          rw [eG8a, eG8b]
          exact rl_gu hG0 rfl (by simp only [hG0.c (k := 62) rfl (by decide)])
        exact ih _ hG8 h1 h2 rfl
set_option maxHeartbeats 4000000 in
set_option maxRecDepth 100000 in
theorem d_X11_restores {Φ : Prop} {K1 K2 : Gt → Prop} (hk : ∀ {H1 H2 : Gt}, rl H1 H2 → K1 H1 → K2 H2 → Φ) : ∀ {G1 G2 : Gt}, rl G1 G2 → w_X11_restores K1 G1 → w_X11_restores K2 G2 → Φ := by
  intro  G1 G2 hG0 h1 h2 
  unfold w_X11_restores at h1 h2
  obtain ⟨i1, h1⟩ := h1
  obtain ⟨i2, h2⟩ := h2
  exact d_X11_restores_h2 hk _ _ hG0 h1 h2 rfl
set_option maxHeartbeats 4000000 in
set_option maxRecDepth 100000 in
theorem d_X11_ends {Φ : Prop} {K1 K2 : Gt → Prop} (hk : ∀ {H1 H2 : Gt}, rl H1 H2 → K1 H1 → K2 H2 → Φ) : ∀ {a0 b0 a1 b1 : Int32} {G1 G2 : Gt}, rl G1 G2 → w_X11_ends K1 a0 a1 G1 → w_X11_ends K2 b0 b1 G2 → b0 = a0 → b1 = a1 → Φ := by
  intro a0 b0 a1 b1 G1 G2 hG0 h1 h2 e0 e1
  subst e0 e1
  unfold w_X11_ends at h1 h2
  obtain ⟨G1a, eG1a, h1⟩ := h1
  obtain ⟨G1b, eG1b, h2⟩ := h2
  have hG1 : rl G1a G1b := by
    rw [eG1a, eG1b]
    exact rl_gu hG0 rfl rfl
  obtain ⟨G2a, eG2a, h1⟩ := h1
  obtain ⟨G2b, eG2b, h2⟩ := h2
  have hG2 : rl G2a G2b := by
    rw [eG2a, eG2b]
    exact rl_gu hG1 rfl rfl
  replace h1 := h1.2
  replace h2 := h2.2
  obtain ⟨G3a, eG3a, h1⟩ := h1
  obtain ⟨G3b, eG3b, h2⟩ := h2
  have hG3 : rl G3a G3b := by
    rw [eG3a, eG3b]
    exact rl_gu hG2 rfl (by simp only [hG2.c (k := 65) rfl (by decide)])
  exact hk hG3 h1 h2
set_option maxHeartbeats 4000000 in
set_option maxRecDepth 100000 in
theorem d_X11_cellOf_j48 {Φ : Prop} {K1 K2 : Int32 → Gt → Prop} (hk : ∀ {r s : Int32} {H1 H2 : Gt}, rl H1 H2 → K1 r H1 → K2 s H2 → s = r → Φ) : ∀ {a0 b0 : Int32} {G1 G2 : Gt}, rl G1 G2 → w_X11_cellOf_j48 K1 a0 G1 → w_X11_cellOf_j48 K2 b0 G2 → b0 = a0 → Φ := by
  intro a0 b0 G1 G2 hG0 h1 h2 e0
  subst e0
  unfold w_X11_cellOf_j48 at h1 h2
  exact hk hG0 h1 h2 rfl
set_option maxHeartbeats 4000000 in
set_option maxRecDepth 100000 in
theorem d_X11_cellOf_j33 {Φ : Prop} {K1 K2 : Int32 → Gt → Prop} (hk : ∀ {r s : Int32} {H1 H2 : Gt}, rl H1 H2 → K1 r H1 → K2 s H2 → s = r → Φ) : ∀ {a0 b0 a1 b1 : Int32} {G1 G2 : Gt}, rl G1 G2 → w_X11_cellOf_j33 K1 a0 a1 G1 → w_X11_cellOf_j33 K2 b0 b1 G2 → b0 = a0 → b1 = a1 → Φ := by
  intro a0 b0 a1 b1 G1 G2 hG0 h1 h2 e0 e1
  subst e0 e1
  unfold w_X11_cellOf_j33 at h1 h2
  rcases pifD rfl h1 h2 with ⟨h1, h2⟩ | ⟨h1, h2⟩
  · exact d_X11_cellOf_j48 hk hG0 h1 h2 rfl
  · exact d_X11_cellOf_j48 hk hG0 h1 h2 rfl
set_option maxHeartbeats 4000000 in
set_option maxRecDepth 100000 in
theorem d_X11_cellOf_h2 {Φ : Prop} {K1 K2 : Int32 → Gt → Prop} (hk : ∀ {r s : Int32} {H1 H2 : Gt}, rl H1 H2 → K1 r H1 → K2 s H2 → s = r → Φ) : ∀ (i1 i2 : Nat) {a0 b0 a1 b1 : Int32} {G1 G2 : Gt}, rl G1 G2 → w_X11_cellOf_h2 K1 i1 a0 a1 G1 → w_X11_cellOf_h2 K2 i2 b0 b1 G2 → b0 = a0 → b1 = a1 → Φ := by
  intro i1
  induction i1 with
  | zero =>
    intro i2 a0 b0 a1 b1 G1 G2 hG0 h1 h2 e0 e1
    exact h1.elim
  | succ i1 ih =>
    intro i2 a0 b0 a1 b1 G1 G2 hG0 h1 h2 e0 e1
    subst e0 e1
    cases i2 with
    | zero => exact h2.elim
    | succ i2 =>
      rw [w_X11_cellOf_h2] at h1 h2
      rcases pifD rfl h1 h2 with ⟨h1, h2⟩ | ⟨h1, h2⟩
      · exact d_X11_cellOf_j33 hk hG0 h1 h2 rfl rfl
      · replace h1 := h1.2
        replace h2 := h2.2
        rcases pifD (by simp only [hG0.c (k := 72) rfl (by decide)]) h1 h2 with ⟨h1, h2⟩ | ⟨h1, h2⟩
        · replace h1 := h1.2
          replace h2 := h2.2
          exact ih _ hG0 h1 h2 rfl (by simp only [hG0.c (k := 71) rfl (by decide)])
        · exact d_X11_cellOf_j33 hk hG0 h1 h2 rfl rfl
set_option maxHeartbeats 4000000 in
set_option maxRecDepth 100000 in
theorem d_X11_cellOf {Φ : Prop} {K1 K2 : Int32 → Gt → Prop} (hk : ∀ {r s : Int32} {H1 H2 : Gt}, rl H1 H2 → K1 r H1 → K2 s H2 → s = r → Φ) : ∀ {a0 b0 a1 b1 : Int32} {G1 G2 : Gt}, rl G1 G2 → w_X11_cellOf K1 a0 a1 G1 → w_X11_cellOf K2 b0 b1 G2 → b0 = a0 → b1 = a1 → Φ := by
  intro a0 b0 a1 b1 G1 G2 hG0 h1 h2 e0 e1
  subst e0 e1
  unfold w_X11_cellOf at h1 h2
  obtain ⟨i1, h1⟩ := h1
  obtain ⟨i2, h2⟩ := h2
  exact d_X11_cellOf_h2 hk _ _ hG0 h1 h2 rfl rfl
set_option maxHeartbeats 4000000 in
set_option maxRecDepth 100000 in
theorem d_X11_fails {Φ : Prop} {K1 K2 : Gt → Prop} (hk : ∀ {H1 H2 : Gt}, rl H1 H2 → K1 H1 → K2 H2 → Φ) : ∀ {a0 b0 a1 b1 : Int32} {G1 G2 : Gt}, rl G1 G2 → w_X11_fails K1 a0 a1 G1 → w_X11_fails K2 b0 b1 G2 → b0 = a0 → b1 = a1 → Φ := by
  intro a0 b0 a1 b1 G1 G2 hG0 h1 h2 e0 e1
  subst e0 e1
  unfold w_X11_fails at h1 h2
  obtain ⟨G1a, eG1a, h1⟩ := h1
  obtain ⟨G1b, eG1b, h2⟩ := h2
  have hG1 : rl G1a G1b := by
    rw [eG1a, eG1b]
    exact rl_gu hG0 rfl rfl
  obtain ⟨G2a, eG2a, h1⟩ := h1
  obtain ⟨G2b, eG2b, h2⟩ := h2
  have hG2 : rl G2a G2b := by
    rw [eG2a, eG2b]
    exact rl_gu hG1 rfl rfl
  obtain ⟨G3a, eG3a, h1⟩ := h1
  obtain ⟨G3b, eG3b, h2⟩ := h2
  have hG3 : rl G3a G3b := by
    rw [eG3a, eG3b]
    exact rl_gu hG2 rfl rfl
  replace h1 := h1.2
  replace h2 := h2.2
  obtain ⟨G4a, eG4a, h1⟩ := h1
  obtain ⟨G4b, eG4b, h2⟩ := h2
  have hG4 : rl G4a G4b := by
    rw [eG4a, eG4b]
    exact rl_gu hG3 rfl (by simp only [hG3.c (k := 64) rfl (by decide)])
  obtain ⟨G5a, eG5a, h1⟩ := h1
  obtain ⟨G5b, eG5b, h2⟩ := h2
  have hG5 : rl G5a G5b := by
    rw [eG5a, eG5b]
    exact rl_gu hG4 rfl (by simp only [hG4.s (j := 49) (by decide)])
  replace h1 := h1.2
  replace h2 := h2.2
  obtain ⟨G6a, eG6a, h1⟩ := h1
  obtain ⟨G6b, eG6b, h2⟩ := h2
  have hG6 : rl G6a G6b := by
    rw [eG6a, eG6b]
    exact rl_gu hG5 rfl (by simp only [hG5.c (k := 65) rfl (by decide)])
  exact hk hG6 h1 h2
set_option maxHeartbeats 4000000 in
set_option maxRecDepth 100000 in
theorem d_X11_parts {Φ : Prop} {K1 K2 : Gt → Prop} (hk : ∀ {H1 H2 : Gt}, rl H1 H2 → K1 H1 → K2 H2 → Φ) : ∀ {a0 b0 a1 b1 a2 b2 : Int32} {G1 G2 : Gt}, rl G1 G2 → w_X11_parts K1 a0 a1 a2 G1 → w_X11_parts K2 b0 b1 b2 G2 → b0 = a0 → b1 = a1 → b2 = a2 → Φ := by
  intro a0 b0 a1 b1 a2 b2 G1 G2 hG0 h1 h2 e0 e1 e2
  subst e0 e1 e2
  unfold w_X11_parts at h1 h2
  replace h1 := h1.2
  replace h2 := h2.2
  obtain ⟨G1a, eG1a, h1⟩ := h1
  obtain ⟨G1b, eG1b, h2⟩ := h2
  have hG1 : rl G1a G1b := by
    rw [eG1a, eG1b]
    exact rl_gu hG0 rfl rfl
  replace h1 := h1.2
  replace h2 := h2.2
  refine d_X11_asks (fun hG2 h1 h2 => ?_) hG1 h1 h2 rfl rfl (by simp only [hG1.c (k := 66) rfl (by decide)])
  exact hk hG2 h1 h2
set_option maxHeartbeats 4000000 in
set_option maxRecDepth 100000 in
theorem d_X11_hasLoop_j73 {Φ : Prop} {K1 K2 : Int32 → Gt → Prop} (hk : ∀ {r s : Int32} {H1 H2 : Gt}, rl H1 H2 → K1 r H1 → K2 s H2 → s = r → Φ) : ∀ {a0 b0 : Int32} {G1 G2 : Gt}, rl G1 G2 → w_X11_hasLoop_j73 K1 a0 G1 → w_X11_hasLoop_j73 K2 b0 G2 → b0 = a0 → Φ := by
  intro a0 b0 G1 G2 hG0 h1 h2 e0
  subst e0
  unfold w_X11_hasLoop_j73 at h1 h2
  replace h1 := h1.2
  replace h2 := h2.2
  exact hk hG0 h1 h2 rfl
set_option maxHeartbeats 4000000 in
set_option maxRecDepth 100000 in
theorem d_X11_hasLoop_j61 {Φ : Prop} {K1 K2 : Int32 → Gt → Prop} {rec10a rec10b : Int32 → Int32 → Int32 → Gt → Prop} (hk : ∀ {r s : Int32} {H1 H2 : Gt}, rl H1 H2 → K1 r H1 → K2 s H2 → s = r → Φ) (hrec10 : ∀ {a0 b0 a1 b1 a2 b2 : Int32} {H1 H2 : Gt}, rl H1 H2 → rec10a a0 a1 a2 H1 → rec10b b0 b1 b2 H2 → b0 = a0 → b1 = a1 → b2 = a2 → Φ) : ∀ {a0 b0 a1 b1 a2 b2 : Int32} {G1 G2 : Gt}, rl G1 G2 → w_X11_hasLoop_j61 K1 rec10a a0 a1 a2 G1 → w_X11_hasLoop_j61 K2 rec10b b0 b1 b2 G2 → b0 = a0 → b1 = a1 → b2 = a2 → Φ := by
  intro a0 b0 a1 b1 a2 b2 G1 G2 hG0 h1 h2 e0 e1 e2
  subst e0 e1 e2
  unfold w_X11_hasLoop_j61 at h1 h2
  replace h1 := h1.2
  replace h2 := h2.2
  exact hrec10 hG0 h1 h2 rfl (by simp only [hG0.c (k := 65) rfl (by decide)]) rfl
set_option maxHeartbeats 4000000 in
set_option maxRecDepth 100000 in
theorem d_X11_hasLoop_j60 {Φ : Prop} {K1 K2 : Int32 → Gt → Prop} {rec10a rec10b : Int32 → Int32 → Int32 → Gt → Prop} (hk : ∀ {r s : Int32} {H1 H2 : Gt}, rl H1 H2 → K1 r H1 → K2 s H2 → s = r → Φ) (hrec10 : ∀ {a0 b0 a1 b1 a2 b2 : Int32} {H1 H2 : Gt}, rl H1 H2 → rec10a a0 a1 a2 H1 → rec10b b0 b1 b2 H2 → b0 = a0 → b1 = a1 → b2 = a2 → Φ) : ∀ {a0 b0 a1 b1 : Int32} {G1 G2 : Gt}, rl G1 G2 → w_X11_hasLoop_j60 K1 rec10a a0 a1 G1 → w_X11_hasLoop_j60 K2 rec10b b0 b1 G2 → b0 = a0 → b1 = a1 → Φ := by
  intro a0 b0 a1 b1 G1 G2 hG0 h1 h2 e0 e1
  subst e0 e1
  unfold w_X11_hasLoop_j60 at h1 h2
  exact d_X11_hasLoop_j61 hk hrec10 hG0 h1 h2 rfl rfl rfl
set_option maxHeartbeats 4000000 in
set_option maxRecDepth 100000 in
theorem d_X11_hasLoop_h10 {Φ : Prop} {K1 K2 : Int32 → Gt → Prop} (hk : ∀ {r s : Int32} {H1 H2 : Gt}, rl H1 H2 → K1 r H1 → K2 s H2 → s = r → Φ) : ∀ (i1 i2 : Nat) {a0 b0 a1 b1 a2 b2 : Int32} {G1 G2 : Gt}, rl G1 G2 → w_X11_hasLoop_h10 K1 i1 a0 a1 a2 G1 → w_X11_hasLoop_h10 K2 i2 b0 b1 b2 G2 → b0 = a0 → b1 = a1 → b2 = a2 → Φ := by
  intro i1
  induction i1 with
  | zero =>
    intro i2 a0 b0 a1 b1 a2 b2 G1 G2 hG0 h1 h2 e0 e1 e2
    exact h1.elim
  | succ i1 ih =>
    intro i2 a0 b0 a1 b1 a2 b2 G1 G2 hG0 h1 h2 e0 e1 e2
    subst e0 e1 e2
    cases i2 with
    | zero => exact h2.elim
    | succ i2 =>
      rw [w_X11_hasLoop_h10] at h1 h2
      replace h1 := h1.2
      replace h2 := h2.2
      rcases pifD (by simp only [hG0.c (k := 64) rfl (by decide)]) h1 h2 with ⟨h1, h2⟩ | ⟨h1, h2⟩
      · exact d_X11_hasLoop_j73 hk hG0 h1 h2 rfl
      · rcases pifD rfl h1 h2 with ⟨h1, h2⟩ | ⟨h1, h2⟩
        · replace h1 := h1.2
          replace h2 := h2.2
          replace h1 := h1.2
          replace h2 := h2.2
          rcases pifD (by simp only [hG0.c (k := 47) rfl (by decide), hG0.c (k := 64) rfl (by decide)]) h1 h2 with ⟨h1, h2⟩ | ⟨h1, h2⟩
          · replace h1 := h1.2
            replace h2 := h2.2
            replace h1 := h1.2
            replace h2 := h2.2
            rcases pifD (by simp only [hG0.c (k := 48) rfl (by decide), hG0.c (k := 64) rfl (by decide)]) h1 h2 with ⟨h1, h2⟩ | ⟨h1, h2⟩
            · exact d_X11_hasLoop_j61 hk (fun g1 g2 g3 q0 q1 q2 => ih _ g1 g2 g3 q0 q1 q2) hG0 h1 h2 rfl rfl rfl
            · exact d_X11_hasLoop_j60 hk (fun g1 g2 g3 q0 q1 q2 => ih _ g1 g2 g3 q0 q1 q2) hG0 h1 h2 rfl rfl
          · exact d_X11_hasLoop_j60 hk (fun g1 g2 g3 q0 q1 q2 => ih _ g1 g2 g3 q0 q1 q2) hG0 h1 h2 rfl rfl
        · exact d_X11_hasLoop_j73 hk hG0 h1 h2 rfl
set_option maxHeartbeats 4000000 in
set_option maxRecDepth 100000 in
theorem d_X11_hasLoop {Φ : Prop} {K1 K2 : Int32 → Gt → Prop} (hk : ∀ {r s : Int32} {H1 H2 : Gt}, rl H1 H2 → K1 r H1 → K2 s H2 → s = r → Φ) : ∀ {a0 b0 a1 b1 : Int32} {G1 G2 : Gt}, rl G1 G2 → w_X11_hasLoop K1 a0 a1 G1 → w_X11_hasLoop K2 b0 b1 G2 → b0 = a0 → b1 = a1 → Φ := by
  intro a0 b0 a1 b1 G1 G2 hG0 h1 h2 e0 e1
  subst e0 e1
  unfold w_X11_hasLoop at h1 h2
  replace h1 := h1.2
  replace h2 := h2.2
  obtain ⟨i1, h1⟩ := h1
  obtain ⟨i2, h2⟩ := h2
  exact d_X11_hasLoop_h10 hk _ _ hG0 h1 h2 rfl (by simp only [hG0.c (k := 65) rfl (by decide)]) rfl
set_option maxHeartbeats 4000000 in
set_option maxRecDepth 100000 in
theorem d_X11_leaves {Φ : Prop} {K1 K2 : Gt → Prop} (hk : ∀ {H1 H2 : Gt}, rl H1 H2 → K1 H1 → K2 H2 → Φ) : ∀ {a0 b0 a1 b1 a2 b2 a3 b3 : Int32} {G1 G2 : Gt}, rl G1 G2 → w_X11_leaves K1 a0 a1 a2 a3 G1 → w_X11_leaves K2 b0 b1 b2 b3 G2 → b0 = a0 → b1 = a1 → b2 = a2 → b3 = a3 → Φ := by
  intro a0 b0 a1 b1 a2 b2 a3 b3 G1 G2 hG0 h1 h2 e0 e1 e2 e3
  subst e0 e1 e2 e3
  unfold w_X11_leaves at h1 h2
  obtain ⟨G1a, eG1a, h1⟩ := h1
  obtain ⟨G1b, eG1b, h2⟩ := h2
  have hG1 : rl G1a G1b := by
    rw [eG1a, eG1b]
    exact rl_gu hG0 rfl rfl
  obtain ⟨G2a, eG2a, h1⟩ := h1
  obtain ⟨G2b, eG2b, h2⟩ := h2
  have hG2 : rl G2a G2b := by
    rw [eG2a, eG2b]
    exact rl_gu hG1 rfl rfl
  obtain ⟨G3a, eG3a, h1⟩ := h1
  obtain ⟨G3b, eG3b, h2⟩ := h2
  have hG3 : rl G3a G3b := by
    rw [eG3a, eG3b]
    exact rl_gu hG2 rfl rfl
  replace h1 := h1.2
  replace h2 := h2.2
  obtain ⟨G4a, eG4a, h1⟩ := h1
  obtain ⟨G4b, eG4b, h2⟩ := h2
  have hG4 : rl G4a G4b := by
    rw [eG4a, eG4b]
    exact rl_gu hG3 rfl (by simp only [hG3.c (k := 65) rfl (by decide)])
  exact hk hG4 h1 h2
set_option maxHeartbeats 4000000 in
set_option maxRecDepth 100000 in
theorem d_X11_calls {Φ : Prop} {K1 K2 : Int32 → Gt → Prop} (hk : ∀ {r s : Int32} {H1 H2 : Gt}, rl H1 H2 → K1 r H1 → K2 s H2 → s = r → Φ) : ∀ {a0 b0 : Int32} {G1 G2 : Gt}, rl G1 G2 → w_X11_calls K1 a0 G1 → w_X11_calls K2 b0 G2 → b0 = a0 → Φ := by
  intro a0 b0 G1 G2 hG0 h1 h2 e0
  subst e0
  unfold w_X11_calls at h1 h2
  rcases pifD (by simp only [hG0.s (j := 50) (by decide)]) h1 h2 with ⟨h1, h2⟩ | ⟨h1, h2⟩
  · refine d_X11_fails (fun hG4 h1 h2 => ?_) hG0 h1 h2 rfl rfl
    exact hk hG4 h1 h2 rfl
  · replace h1 := h1.2
    replace h2 := h2.2
    obtain ⟨G1a, eG1a, h1⟩ := h1
    obtain ⟨G1b, eG1b, h2⟩ := h2
    have hG1 : rl G1a G1b := by
      rw [eG1a, eG1b]
      exact rl_gu hG0 rfl (by simp only [hG0.s (j := 49) (by decide)])
    obtain ⟨G2a, eG2a, h1⟩ := h1
    obtain ⟨G2b, eG2b, h2⟩ := h2
    have hG2 : rl G2a G2b := by
      rw [eG2a, eG2b]
      exact rl_gu hG1 rfl rfl
    obtain ⟨G3a, eG3a, h1⟩ := h1
    obtain ⟨G3b, eG3b, h2⟩ := h2
    have hG3 : rl G3a G3b := by
      rw [eG3a, eG3b]
      exact rl_gu hG2 rfl (by simp only [hG2.s (j := 50) (by decide)])
    exact hk hG3 h1 h2 rfl
set_option maxHeartbeats 4000000 in
set_option maxRecDepth 100000 in
theorem d_X11_reloads_j32 {Φ : Prop} {K1 K2 : Gt → Prop} (hk : ∀ {H1 H2 : Gt}, rl H1 H2 → K1 H1 → K2 H2 → Φ) : ∀ {G1 G2 : Gt}, rl G1 G2 → w_X11_reloads_j32 K1 G1 → w_X11_reloads_j32 K2 G2 → Φ := by
  intro  G1 G2 hG0 h1 h2 
  unfold w_X11_reloads_j32 at h1 h2
  exact hk hG0 h1 h2
set_option maxHeartbeats 4000000 in
set_option maxRecDepth 100000 in
theorem d_X11_reloads {Φ : Prop} {K1 K2 : Gt → Prop} (hk : ∀ {H1 H2 : Gt}, rl H1 H2 → K1 H1 → K2 H2 → Φ) : ∀ {a0 b0 a1 b1 a2 b2 : Int32} {G1 G2 : Gt}, rl G1 G2 → w_X11_reloads K1 a0 a1 a2 G1 → w_X11_reloads K2 b0 b1 b2 G2 → b0 = a0 → b1 = a1 → b2 = a2 → Φ := by
  intro a0 b0 a1 b1 a2 b2 G1 G2 hG0 h1 h2 e0 e1 e2
  subst e0 e1 e2
  unfold w_X11_reloads at h1 h2
  replace h1 := h1.2
  replace h2 := h2.2
  rcases pifD (by simp only [hG0.c (k := 54) rfl (by decide)]) h1 h2 with ⟨h1, h2⟩ | ⟨h1, h2⟩
  · refine d_X11_fails (fun hG3 h1 h2 => ?_) hG0 h1 h2 rfl rfl
    exact d_X11_reloads_j32 hk hG3 h1 h2
  · replace h1 := h1.2
    replace h2 := h2.2
    obtain ⟨G1a, eG1a, h1⟩ := h1
    obtain ⟨G1b, eG1b, h2⟩ := h2
    have hG1 : rl G1a G1b := by
      rw [eG1a, eG1b]
      exact rl_gu hG0 rfl rfl
    refine d_X11_ends (fun hG2 h1 h2 => ?_) hG1 h1 h2 rfl rfl
    exact d_X11_reloads_j32 hk hG2 h1 h2
set_option maxHeartbeats 4000000 in
set_option maxRecDepth 100000 in
theorem d_X11_place {Φ : Prop} {K1 K2 : Int32 → Gt → Prop} (hk : ∀ {r s : Int32} {H1 H2 : Gt}, rl H1 H2 → K1 r H1 → K2 s H2 → s = r → Φ) : ∀ {G1 G2 : Gt}, rl G1 G2 → w_X11_place K1 G1 → w_X11_place K2 G2 → Φ := by
  intro  G1 G2 hG0 h1 h2 
  unfold w_X11_place at h1 h2
  replace h1 := h1.2
  replace h2 := h2.2
  replace h1 := h1.2
  replace h2 := h2.2
  exact hk hG0 h1 h2 (by simp only [hG0.c (k := 60) rfl (by decide), hG0.s (j := 14) (by decide), hG0.c (k := 61) rfl (by decide)])
set_option maxHeartbeats 4000000 in
set_option maxRecDepth 100000 in
theorem d_X11_erases_j174 {Φ : Prop} {K1 K2 : Int32 → Gt → Prop} {rec90a rec90b : Int32 → Int32 → Int32 → Gt → Prop} (hk : ∀ {r s : Int32} {H1 H2 : Gt}, rl H1 H2 → K1 r H1 → K2 s H2 → s = r → Φ) (hrec90 : ∀ {a0 b0 a1 b1 a2 b2 : Int32} {H1 H2 : Gt}, rl H1 H2 → rec90a a0 a1 a2 H1 → rec90b b0 b1 b2 H2 → b0 = a0 → b1 = a1 → b2 = a2 → Φ) : ∀ {a0 b0 a1 b1 a2 b2 a3 b3 a4 b4 : Int32} {G1 G2 : Gt}, rl G1 G2 → w_X11_erases_j174 K1 rec90a a0 a1 a2 a3 a4 G1 → w_X11_erases_j174 K2 rec90b b0 b1 b2 b3 b4 G2 → b0 = a0 → b1 = a1 → b2 = a2 → b3 = a3 → b4 = a4 → Φ := by
  intro a0 b0 a1 b1 a2 b2 a3 b3 a4 b4 G1 G2 hG0 h1 h2 e0 e1 e2 e3 e4
  subst e0 e1 e2 e3 e4
  unfold w_X11_erases_j174 at h1 h2
  replace h1 := h1.2
  replace h2 := h2.2
  obtain ⟨G5a, eG5a, h1⟩ := h1
  obtain ⟨G5b, eG5b, h2⟩ := h2
  have hG5 : rl G5a G5b := by
    rw [eG5a, eG5b]
    exact rl_gu hG0 rfl rfl
  exact hrec90 hG5 h1 h2 rfl rfl rfl
set_option maxHeartbeats 4000000 in
set_option maxRecDepth 100000 in
theorem d_X11_erases_j167 {Φ : Prop} {K1 K2 : Int32 → Gt → Prop} {rec90a rec90b : Int32 → Int32 → Int32 → Gt → Prop} (hk : ∀ {r s : Int32} {H1 H2 : Gt}, rl H1 H2 → K1 r H1 → K2 s H2 → s = r → Φ) (hrec90 : ∀ {a0 b0 a1 b1 a2 b2 : Int32} {H1 H2 : Gt}, rl H1 H2 → rec90a a0 a1 a2 H1 → rec90b b0 b1 b2 H2 → b0 = a0 → b1 = a1 → b2 = a2 → Φ) : ∀ {a0 b0 a1 b1 a2 b2 a3 b3 a4 b4 : Int32} {G1 G2 : Gt}, rl G1 G2 → w_X11_erases_j167 K1 rec90a a0 a1 a2 a3 a4 G1 → w_X11_erases_j167 K2 rec90b b0 b1 b2 b3 b4 G2 → b0 = a0 → b1 = a1 → b2 = a2 → b3 = a3 → b4 = a4 → Φ := by
  intro a0 b0 a1 b1 a2 b2 a3 b3 a4 b4 G1 G2 hG0 h1 h2 e0 e1 e2 e3 e4
  subst e0 e1 e2 e3 e4
  unfold w_X11_erases_j167 at h1 h2
  replace h1 := h1.2
  replace h2 := h2.2
  exact d_X11_erases_j174 hk hrec90 hG0 h1 h2 rfl rfl rfl rfl (by simp only [hG0.c (k := 60) rfl (by decide)])
set_option maxHeartbeats 4000000 in
set_option maxRecDepth 100000 in
theorem d_X11_erases_j129 {Φ : Prop} {K1 K2 : Int32 → Gt → Prop} {rec90a rec90b : Int32 → Int32 → Int32 → Gt → Prop} (hk : ∀ {r s : Int32} {H1 H2 : Gt}, rl H1 H2 → K1 r H1 → K2 s H2 → s = r → Φ) (hrec90 : ∀ {a0 b0 a1 b1 a2 b2 : Int32} {H1 H2 : Gt}, rl H1 H2 → rec90a a0 a1 a2 H1 → rec90b b0 b1 b2 H2 → b0 = a0 → b1 = a1 → b2 = a2 → Φ) : ∀ {a0 b0 a1 b1 a2 b2 a3 b3 a4 b4 a5 b5 a6 b6 : Int32} {G1 G2 : Gt}, rl G1 G2 → w_X11_erases_j129 K1 rec90a a0 a1 a2 a3 a4 a5 a6 G1 → w_X11_erases_j129 K2 rec90b b0 b1 b2 b3 b4 b5 b6 G2 → b0 = a0 → b1 = a1 → b2 = a2 → b3 = a3 → b4 = a4 → b5 = a5 → b6 = a6 → Φ := by
  intro a0 b0 a1 b1 a2 b2 a3 b3 a4 b4 a5 b5 a6 b6 G1 G2 hG0 h1 h2 e0 e1 e2 e3 e4 e5 e6
  subst e0 e1 e2 e3 e4 e5 e6
  unfold w_X11_erases_j129 at h1 h2
  replace h1 := h1.2
  replace h2 := h2.2
  obtain ⟨G4a, eG4a, h1⟩ := h1
  obtain ⟨G4b, eG4b, h2⟩ := h2
  have hG4 : rl G4a G4b := by
    rw [eG4a, eG4b]
    exact rl_gu hG0 rfl rfl
  replace h1 := h1.2
  replace h2 := h2.2
  rcases pifD (by simp only [hG4.c (k := 60) rfl (by decide)]) h1 h2 with ⟨h1, h2⟩ | ⟨h1, h2⟩
  · replace h1 := h1.2
    replace h2 := h2.2
    rcases pifD (by simp only [hG4.c (k := 61) rfl (by decide), hG4.s (j := 14) (by decide)]) h1 h2 with ⟨h1, h2⟩ | ⟨h1, h2⟩
    · exact d_X11_erases_j167 hk hrec90 hG4 h1 h2 rfl rfl rfl rfl rfl
    · exact d_X11_erases_j174 hk hrec90 hG4 h1 h2 rfl rfl rfl rfl rfl
  · exact d_X11_erases_j167 hk hrec90 hG4 h1 h2 rfl rfl rfl rfl rfl
set_option maxHeartbeats 4000000 in
set_option maxRecDepth 100000 in
theorem d_X11_erases_h90 {Φ : Prop} {K1 K2 : Int32 → Gt → Prop} (hk : ∀ {r s : Int32} {H1 H2 : Gt}, rl H1 H2 → K1 r H1 → K2 s H2 → s = r → Φ) : ∀ (i1 i2 : Nat) {a0 b0 a1 b1 a2 b2 : Int32} {G1 G2 : Gt}, rl G1 G2 → w_X11_erases_h90 K1 i1 a0 a1 a2 G1 → w_X11_erases_h90 K2 i2 b0 b1 b2 G2 → b0 = a0 → b1 = a1 → b2 = a2 → Φ := by
  intro i1
  induction i1 with
  | zero =>
    intro i2 a0 b0 a1 b1 a2 b2 G1 G2 hG0 h1 h2 e0 e1 e2
    exact h1.elim
  | succ i1 ih =>
    intro i2 a0 b0 a1 b1 a2 b2 G1 G2 hG0 h1 h2 e0 e1 e2
    subst e0 e1 e2
    cases i2 with
    | zero => exact h2.elim
    | succ i2 =>
      rw [w_X11_erases_h90] at h1 h2
      rcases pifD rfl h1 h2 with ⟨h1, h2⟩ | ⟨h1, h2⟩
      · exact hk hG0 h1 h2 rfl
      · replace h1 := h1.2
        replace h2 := h2.2
        replace h1 := h1.2
        replace h2 := h2.2
        rcases pifD (by simp only [hG0.c (k := 60) rfl (by decide), hG0.s (j := 14) (by decide)]) h1 h2 with ⟨h1, h2⟩ | ⟨h1, h2⟩
        · exact d_X11_erases_j129 hk (fun g1 g2 g3 q0 q1 q2 => ih _ g1 g2 g3 q0 q1 q2) hG0 h1 h2 rfl rfl rfl (by simp only [hG0.s (j := 14) (by decide)]) (by simp only [hG0.s (j := 14) (by decide)]) (by simp only [hG0.c (k := 60) rfl (by decide), hG0.s (j := 14) (by decide)]) rfl
        · exact d_X11_erases_j129 hk (fun g1 g2 g3 q0 q1 q2 => ih _ g1 g2 g3 q0 q1 q2) hG0 h1 h2 rfl rfl rfl (by simp only [hG0.s (j := 14) (by decide)]) (by simp only [hG0.s (j := 14) (by decide)]) (by simp only [hG0.c (k := 60) rfl (by decide), hG0.s (j := 14) (by decide)]) rfl
set_option maxHeartbeats 4000000 in
set_option maxRecDepth 100000 in
theorem d_X11_erases_h39 {Φ : Prop} {K1 K2 : Int32 → Gt → Prop} (hk : ∀ {r s : Int32} {H1 H2 : Gt}, rl H1 H2 → K1 r H1 → K2 s H2 → s = r → Φ) : ∀ (i1 i2 : Nat) {a0 b0 a1 b1 a2 b2 : Int32} {G1 G2 : Gt}, rl G1 G2 → w_X11_erases_h39 K1 i1 a0 a1 a2 G1 → w_X11_erases_h39 K2 i2 b0 b1 b2 G2 → b0 = a0 → b1 = a1 → b2 = a2 → Φ := by
  intro i1
  induction i1 with
  | zero =>
    intro i2 a0 b0 a1 b1 a2 b2 G1 G2 hG0 h1 h2 e0 e1 e2
    exact h1.elim
  | succ i1 ih =>
    intro i2 a0 b0 a1 b1 a2 b2 G1 G2 hG0 h1 h2 e0 e1 e2
    subst e0 e1 e2
    cases i2 with
    | zero => exact h2.elim
    | succ i2 =>
      rw [w_X11_erases_h39] at h1 h2
      replace h1 := h1.2
      replace h2 := h2.2
      rcases pifD (by simp only [hG0.c (k := 59) rfl (by decide), hG0.s (j := 14) (by decide)]) h1 h2 with ⟨h1, h2⟩ | ⟨h1, h2⟩
      · obtain ⟨i1, h1⟩ := h1
        obtain ⟨i2, h2⟩ := h2
        exact d_X11_erases_h90 hk _ _ hG0 h1 h2 rfl rfl rfl
      · replace h1 := h1.2
        replace h2 := h2.2
        replace h1 := h1.2
        replace h2 := h2.2
        obtain ⟨G6a, eG6a, h1⟩ := h1
        obtain ⟨G6b, eG6b, h2⟩ := h2
        have hG6 : rl G6a G6b := by
          rw [eG6a, eG6b]
          exact rl_gu hG0 (by simp only [hG0.s (j := 14) (by decide)]) (by simp only [hG0.c (k := 58) rfl (by decide), hG0.s (j := 14) (by decide)])
        exact ih _ hG6 h1 h2 rfl rfl rfl
set_option maxHeartbeats 4000000 in
set_option maxRecDepth 100000 in
theorem d_X11_erases {Φ : Prop} {K1 K2 : Int32 → Gt → Prop} (hk : ∀ {r s : Int32} {H1 H2 : Gt}, rl H1 H2 → K1 r H1 → K2 s H2 → s = r → Φ) : ∀ {G1 G2 : Gt}, rl G1 G2 → w_X11_erases K1 G1 → w_X11_erases K2 G2 → Φ := by
  intro  G1 G2 hG0 h1 h2 
  unfold w_X11_erases at h1 h2
  refine d_X11_place (fun hG1 h1 h2 ev2 => ?_) hG0 h1 h2
  subst ev2
  replace h1 := h1.2
  replace h2 := h2.2
  replace h1 := h1.2
  replace h2 := h2.2
  replace h1 := h1.2
  replace h2 := h2.2
  obtain ⟨G3a, eG3a, h1⟩ := h1
  obtain ⟨G3b, eG3b, h2⟩ := h2
  have hG3 : rl G3a G3b := by
    rw [eG3a, eG3b]
    exact rl_gu hG1 (by simp only [hG1.s (j := 14) (by decide)]) (by simp only [hG1.c (k := 59) rfl (by decide), hG1.s (j := 14) (by decide)])
  obtain ⟨i1, h1⟩ := h1
  obtain ⟨i2, h2⟩ := h2
  exact d_X11_erases_h39 hk _ _ hG3 h1 h2 rfl (by simp only [hG1.c (k := 58) rfl (by decide), hG1.s (j := 14) (by decide)]) rfl
set_option maxHeartbeats 4000000 in
set_option maxRecDepth 100000 in
theorem d_X11_letterHere_j37 {Φ : Prop} {K1 K2 : Int32 → Gt → Prop} (hk : ∀ {r s : Int32} {H1 H2 : Gt}, rl H1 H2 → K1 r H1 → K2 s H2 → s = r → Φ) : ∀ {a0 b0 : Int32} {G1 G2 : Gt}, rl G1 G2 → w_X11_letterHere_j37 K1 a0 G1 → w_X11_letterHere_j37 K2 b0 G2 → b0 = a0 → Φ := by
  intro a0 b0 G1 G2 hG0 h1 h2 e0
  subst e0
  unfold w_X11_letterHere_j37 at h1 h2
  exact hk hG0 h1 h2 rfl
set_option maxHeartbeats 4000000 in
set_option maxRecDepth 100000 in
theorem d_X11_letterHere {Φ : Prop} {K1 K2 : Int32 → Gt → Prop} (hk : ∀ {r s : Int32} {H1 H2 : Gt}, rl H1 H2 → K1 r H1 → K2 s H2 → s = r → Φ) : ∀ {G1 G2 : Gt}, rl G1 G2 → w_X11_letterHere K1 G1 → w_X11_letterHere K2 G2 → Φ := by
  intro  G1 G2 hG0 h1 h2 
  unfold w_X11_letterHere at h1 h2
  refine d_X11_place (fun hG1 h1 h2 ev2 => ?_) hG0 h1 h2
  subst ev2
  replace h1 := h1.2
  replace h2 := h2.2
  rcases pifD (by simp only [hG1.c (k := 59) rfl (by decide), hG1.s (j := 14) (by decide)]) h1 h2 with ⟨h1, h2⟩ | ⟨h1, h2⟩
  · exact d_X11_letterHere_j37 hk hG1 h1 h2 rfl
  · refine d_X11_place (fun hG3 h1 h2 ev4 => ?_) hG1 h1 h2
    subst ev4
    replace h1 := h1.2
    replace h2 := h2.2
    exact d_X11_letterHere_j37 hk hG3 h1 h2 (by simp only [hG3.c (k := 58) rfl (by decide), hG1.s (j := 14) (by decide)])
set_option maxHeartbeats 4000000 in
set_option maxRecDepth 100000 in
theorem d_X11_inOrder_j44 {Φ : Prop} {K1 K2 : Int32 → Gt → Prop} {rec5a rec5b : Int32 → Int32 → Gt → Prop} {rec11a rec11b : Int32 → Int32 → Int32 → Gt → Prop} (hk : ∀ {r s : Int32} {H1 H2 : Gt}, rl H1 H2 → K1 r H1 → K2 s H2 → s = r → Φ) (hrec5 : ∀ {a0 b0 a1 b1 : Int32} {H1 H2 : Gt}, rl H1 H2 → rec5a a0 a1 H1 → rec5b b0 b1 H2 → b0 = a0 → b1 = a1 → Φ) (hrec11 : ∀ {a0 b0 a1 b1 a2 b2 : Int32} {H1 H2 : Gt}, rl H1 H2 → rec11a a0 a1 a2 H1 → rec11b b0 b1 b2 H2 → b0 = a0 → b1 = a1 → b2 = a2 → Φ) : ∀ {a0 b0 a1 b1 a2 b2 : Int32} {G1 G2 : Gt}, rl G1 G2 → w_X11_inOrder_j44 K1 rec5a rec11a a0 a1 a2 G1 → w_X11_inOrder_j44 K2 rec5b rec11b b0 b1 b2 G2 → b0 = a0 → b1 = a1 → b2 = a2 → Φ := by
  intro a0 b0 a1 b1 a2 b2 G1 G2 hG0 h1 h2 e0 e1 e2
  subst e0 e1 e2
  unfold w_X11_inOrder_j44 at h1 h2
  exact hrec11 hG0 h1 h2 rfl rfl rfl
set_option maxHeartbeats 4000000 in
set_option maxRecDepth 100000 in
theorem d_X11_inOrder_h11 {Φ : Prop} {K1 K2 : Int32 → Gt → Prop} {rec5a rec5b : Int32 → Int32 → Gt → Prop} (hk : ∀ {r s : Int32} {H1 H2 : Gt}, rl H1 H2 → K1 r H1 → K2 s H2 → s = r → Φ) (hrec5 : ∀ {a0 b0 a1 b1 : Int32} {H1 H2 : Gt}, rl H1 H2 → rec5a a0 a1 H1 → rec5b b0 b1 H2 → b0 = a0 → b1 = a1 → Φ) : ∀ (i1 i2 : Nat) {a0 b0 a1 b1 a2 b2 : Int32} {G1 G2 : Gt}, rl G1 G2 → w_X11_inOrder_h11 K1 rec5a i1 a0 a1 a2 G1 → w_X11_inOrder_h11 K2 rec5b i2 b0 b1 b2 G2 → b0 = a0 → b1 = a1 → b2 = a2 → Φ := by
  intro i1
  induction i1 with
  | zero =>
    intro i2 a0 b0 a1 b1 a2 b2 G1 G2 hG0 h1 h2 e0 e1 e2
    exact h1.elim
  | succ i1 ih =>
    intro i2 a0 b0 a1 b1 a2 b2 G1 G2 hG0 h1 h2 e0 e1 e2
    subst e0 e1 e2
    cases i2 with
    | zero => exact h2.elim
    | succ i2 =>
      rw [w_X11_inOrder_h11] at h1 h2
      rcases pifD rfl h1 h2 with ⟨h1, h2⟩ | ⟨h1, h2⟩
      · exact hrec5 hG0 h1 h2 rfl rfl
      · replace h1 := h1.2
        replace h2 := h2.2
        rcases pifD (by simp only [hG0.c (k := 60) rfl (by decide), hG0.s (j := 14) (by decide)]) h1 h2 with ⟨h1, h2⟩ | ⟨h1, h2⟩
        · exact d_X11_inOrder_j44 hk hrec5 (fun g1 g2 g3 q0 q1 q2 => ih _ g1 g2 g3 q0 q1 q2) hG0 h1 h2 rfl rfl rfl
        · exact d_X11_inOrder_j44 hk hrec5 (fun g1 g2 g3 q0 q1 q2 => ih _ g1 g2 g3 q0 q1 q2) hG0 h1 h2 rfl rfl rfl
set_option maxHeartbeats 4000000 in
set_option maxRecDepth 100000 in
theorem d_X11_inOrder_h5 {Φ : Prop} {K1 K2 : Int32 → Gt → Prop} (hk : ∀ {r s : Int32} {H1 H2 : Gt}, rl H1 H2 → K1 r H1 → K2 s H2 → s = r → Φ) : ∀ (i1 i2 : Nat) {a0 b0 a1 b1 : Int32} {G1 G2 : Gt}, rl G1 G2 → w_X11_inOrder_h5 K1 i1 a0 a1 G1 → w_X11_inOrder_h5 K2 i2 b0 b1 G2 → b0 = a0 → b1 = a1 → Φ := by
  intro i1
  induction i1 with
  | zero =>
    intro i2 a0 b0 a1 b1 G1 G2 hG0 h1 h2 e0 e1
    exact h1.elim
  | succ i1 ih =>
    intro i2 a0 b0 a1 b1 G1 G2 hG0 h1 h2 e0 e1
    subst e0 e1
    cases i2 with
    | zero => exact h2.elim
    | succ i2 =>
      rw [w_X11_inOrder_h5] at h1 h2
      rcases pifD rfl h1 h2 with ⟨h1, h2⟩ | ⟨h1, h2⟩
      · exact hk hG0 h1 h2 rfl
      · obtain ⟨i1, h1⟩ := h1
        obtain ⟨i2, h2⟩ := h2
        exact d_X11_inOrder_h11 hk (fun g1 g2 g3 q0 q1 => ih _ g1 g2 g3 q0 q1) _ _ hG0 h1 h2 rfl rfl rfl
set_option maxHeartbeats 4000000 in
set_option maxRecDepth 100000 in
theorem d_X11_inOrder {Φ : Prop} {K1 K2 : Int32 → Gt → Prop} (hk : ∀ {r s : Int32} {H1 H2 : Gt}, rl H1 H2 → K1 r H1 → K2 s H2 → s = r → Φ) : ∀ {G1 G2 : Gt}, rl G1 G2 → w_X11_inOrder K1 G1 → w_X11_inOrder K2 G2 → Φ := by
  intro  G1 G2 hG0 h1 h2 
  unfold w_X11_inOrder at h1 h2
  obtain ⟨i1, h1⟩ := h1
  obtain ⟨i2, h2⟩ := h2
  exact d_X11_inOrder_h5 hk _ _ hG0 h1 h2 rfl rfl
set_option maxHeartbeats 4000000 in
set_option maxRecDepth 100000 in
theorem d_X11_setsBack_j56 {Φ : Prop} {K1 K2 : Gt → Prop} (hk : ∀ {H1 H2 : Gt}, rl H1 H2 → K1 H1 → K2 H2 → Φ) : ∀ {a0 b0 a1 b1 : Int32} {G1 G2 : Gt}, rl G1 G2 → w_X11_setsBack_j56 K1 a0 a1 G1 → w_X11_setsBack_j56 K2 b0 b1 G2 → b0 = a0 → b1 = a1 → Φ := by
  intro a0 b0 a1 b1 G1 G2 hG0 h1 h2 e0 e1
  subst e0 e1
  unfold w_X11_setsBack_j56 at h1 h2
  replace h1 := h1.2
  replace h2 := h2.2
  obtain ⟨G1a, eG1a, h1⟩ := h1
  obtain ⟨G1b, eG1b, h2⟩ := h2
  have hG1 : rl G1a G1b := by
    rw [eG1a, eG1b]
    exact rl_gu hG0 rfl rfl
  exact hk hG1 h1 h2
set_option maxHeartbeats 4000000 in
set_option maxRecDepth 100000 in
theorem d_X11_setsBack_h36 {Φ : Prop} {K1 K2 : Gt → Prop} (hk : ∀ {H1 H2 : Gt}, rl H1 H2 → K1 H1 → K2 H2 → Φ) : ∀ (i1 i2 : Nat) {a0 b0 a1 b1 : Int32} {G1 G2 : Gt}, rl G1 G2 → w_X11_setsBack_h36 K1 i1 a0 a1 G1 → w_X11_setsBack_h36 K2 i2 b0 b1 G2 → b0 = a0 → b1 = a1 → Φ := by
  intro i1
  induction i1 with
  | zero =>
    intro i2 a0 b0 a1 b1 G1 G2 hG0 h1 h2 e0 e1
    exact h1.elim
  | succ i1 ih =>
    intro i2 a0 b0 a1 b1 G1 G2 hG0 h1 h2 e0 e1
    subst e0 e1
    cases i2 with
    | zero => exact h2.elim
    | succ i2 =>
      rw [w_X11_setsBack_h36] at h1 h2
      replace h1 := h1.2
      replace h2 := h2.2
      rcases pifD (by simp only [hG0.c (k := 60) rfl (by decide)]) h1 h2 with ⟨h1, h2⟩ | ⟨h1, h2⟩
      · exact ih _ hG0 h1 h2 rfl rfl
      · exact d_X11_setsBack_j56 hk hG0 h1 h2 rfl rfl
set_option maxHeartbeats 4000000 in
set_option maxRecDepth 100000 in
theorem d_X11_setsBack {Φ : Prop} {K1 K2 : Gt → Prop} (hk : ∀ {H1 H2 : Gt}, rl H1 H2 → K1 H1 → K2 H2 → Φ) : ∀ {a0 b0 : Int32} {G1 G2 : Gt}, rl G1 G2 → w_X11_setsBack K1 a0 G1 → w_X11_setsBack K2 b0 G2 → b0 = a0 → Φ := by
  intro a0 b0 G1 G2 hG0 h1 h2 e0
  subst e0
  unfold w_X11_setsBack at h1 h2
  replace h1 := h1.2
  replace h2 := h2.2
  replace h1 := h1.2
  replace h2 := h2.2
  replace h1 := h1.2
  replace h2 := h2.2
  rcases pifD (by simp only [hG0.c (k := 60) rfl (by decide), hG0.c (k := 69) rfl (by decide)]) h1 h2 with ⟨h1, h2⟩ | ⟨h1, h2⟩
  · obtain ⟨i1, h1⟩ := h1
    obtain ⟨i2, h2⟩ := h2
    exact d_X11_setsBack_h36 hk _ _ hG0 h1 h2 (by simp only [hG0.c (k := 69) rfl (by decide)]) rfl
  · exact d_X11_setsBack_j56 hk hG0 h1 h2 (by simp only [hG0.c (k := 69) rfl (by decide)]) (by simp only [hG0.c (k := 69) rfl (by decide)])
set_option maxHeartbeats 4000000 in
set_option maxRecDepth 100000 in
theorem d_X11_closes_j26 {Φ : Prop} {K1 K2 : Gt → Prop} (hk : ∀ {H1 H2 : Gt}, rl H1 H2 → K1 H1 → K2 H2 → Φ) : ∀ {a0 b0 : Int32} {G1 G2 : Gt}, rl G1 G2 → w_X11_closes_j26 K1 a0 G1 → w_X11_closes_j26 K2 b0 G2 → b0 = a0 → Φ := by
  intro a0 b0 G1 G2 hG0 h1 h2 e0
  subst e0
  unfold w_X11_closes_j26 at h1 h2
  rcases pifD (by simp only [hG0.s (j := 35) (by decide)]) h1 h2 with ⟨h1, h2⟩ | ⟨h1, h2⟩
  · obtain ⟨G4a, eG4a, h1⟩ := h1
    obtain ⟨G4b, eG4b, h2⟩ := h2
    have hG4 : rl G4a G4b := by
      rw [eG4a, eG4b]
      exact rl_gu hG0 rfl rfl
    obtain ⟨G5a, eG5a, h1⟩ := h1
    obtain ⟨G5b, eG5b, h2⟩ := h2
    have hG5 : rl G5a G5b := by
      rw [eG5a, eG5b]
      exact rl_gu hG4 rfl rfl
    exact hk hG5 h1 h2
  · replace h1 := h1.2
    replace h2 := h2.2
    obtain ⟨G1a, eG1a, h1⟩ := h1
    obtain ⟨G1b, eG1b, h2⟩ := h2
    have hG1 : rl G1a G1b := by
      rw [eG1a, eG1b]
      exact rl_gu hG0 rfl rfl
    replace h1 := h1.2
    replace h2 := h2.2
    replace h1 := h1.2
    replace h2 := h2.2
    obtain ⟨G2a, eG2a, h1⟩ := h1
    obtain ⟨G2b, eG2b, h2⟩ := h2
    have hG2 : rl G2a G2b := by
      rw [eG2a, eG2b]
      exact rl_gu hG1 (by simp only [hG1.c (k := 79) rfl (by decide)]) rfl
    replace h1 := h1.2
    replace h2 := h2.2
    refine d_X11_leaves (fun hG3 h1 h2 => ?_) hG2 h1 h2 (by simp only [hG2.c (k := 78) rfl (by decide)]) rfl rfl rfl
    exact hk hG3 h1 h2
set_option maxHeartbeats 4000000 in
set_option maxRecDepth 100000 in
theorem d_X11_closes_h2 {Φ : Prop} {K1 K2 : Gt → Prop} (hk : ∀ {H1 H2 : Gt}, rl H1 H2 → K1 H1 → K2 H2 → Φ) : ∀ (i1 i2 : Nat) {a0 b0 : Int32} {G1 G2 : Gt}, rl G1 G2 → w_X11_closes_h2 K1 i1 a0 G1 → w_X11_closes_h2 K2 i2 b0 G2 → b0 = a0 → Φ := by
  intro i1
  induction i1 with
  | zero =>
    intro i2 a0 b0 G1 G2 hG0 h1 h2 e0
    exact h1.elim
  | succ i1 ih =>
    intro i2 a0 b0 G1 G2 hG0 h1 h2 e0
    subst e0
    cases i2 with
    | zero => exact h2.elim
    | succ i2 =>
      rw [w_X11_closes_h2] at h1 h2
      rcases pifD (by simp only [hG0.s (j := 35) (by decide)]) h1 h2 with ⟨h1, h2⟩ | ⟨h1, h2⟩
      · exact d_X11_closes_j26 hk hG0 h1 h2 rfl
      · replace h1 := h1.2
        replace h2 := h2.2
        rcases pifD (by simp only [hG0.c (k := 77) rfl (by decide)]) h1 h2 with ⟨h1, h2⟩ | ⟨h1, h2⟩
        · exact d_X11_closes_j26 hk hG0 h1 h2 rfl
        · exact ih _ hG0 h1 h2 rfl
set_option maxHeartbeats 4000000 in
set_option maxRecDepth 100000 in
theorem d_X11_closes {Φ : Prop} {K1 K2 : Gt → Prop} (hk : ∀ {H1 H2 : Gt}, rl H1 H2 → K1 H1 → K2 H2 → Φ) : ∀ {G1 G2 : Gt}, rl G1 G2 → w_X11_closes K1 G1 → w_X11_closes K2 G2 → Φ := by
  intro  G1 G2 hG0 h1 h2 
  unfold w_X11_closes at h1 h2
  obtain ⟨i1, h1⟩ := h1
  obtain ⟨i2, h2⟩ := h2
  exact d_X11_closes_h2 hk _ _ hG0 h1 h2 rfl
set_option maxHeartbeats 4000000 in
set_option maxRecDepth 100000 in
theorem d_X11_comesBack {Φ : Prop} {K1 K2 : Gt → Prop} (hk : ∀ {H1 H2 : Gt}, rl H1 H2 → K1 H1 → K2 H2 → Φ) : ∀ {a0 b0 : Int32} {G1 G2 : Gt}, rl G1 G2 → w_X11_comesBack K1 a0 G1 → w_X11_comesBack K2 b0 G2 → b0 = a0 → Φ := by
  intro a0 b0 G1 G2 hG0 h1 h2 e0
  subst e0
  unfold w_X11_comesBack at h1 h2
  replace h1 := h1.2
  replace h2 := h2.2
  obtain ⟨G1a, eG1a, h1⟩ := h1
  obtain ⟨G1b, eG1b, h2⟩ := h2
  have hG1 : rl G1a G1b := by
    rw [eG1a, eG1b]
    exact rl_gu hG0 rfl (by simp only [hG0.c (k := 70) rfl (by decide)])
  obtain ⟨G2a, eG2a, h1⟩ := h1
  obtain ⟨G2b, eG2b, h2⟩ := h2
  have hG2 : rl G2a G2b := by
    rw [eG2a, eG2b]
    exact rl_gu hG1 rfl (by simp only [hG1.s (j := 50) (by decide)])
  exact hk hG2 h1 h2
set_option maxHeartbeats 4000000 in
set_option maxRecDepth 100000 in
theorem d_X11_slotOf_j39 {Φ : Prop} {K1 K2 : Int32 → Gt → Prop} (hk : ∀ {r s : Int32} {H1 H2 : Gt}, rl H1 H2 → K1 r H1 → K2 s H2 → s = r → Φ) : ∀ {a0 b0 : Int32} {G1 G2 : Gt}, rl G1 G2 → w_X11_slotOf_j39 K1 a0 G1 → w_X11_slotOf_j39 K2 b0 G2 → b0 = a0 → Φ := by
  intro a0 b0 G1 G2 hG0 h1 h2 e0
  subst e0
  unfold w_X11_slotOf_j39 at h1 h2
  exact hk hG0 h1 h2 rfl
set_option maxHeartbeats 4000000 in
set_option maxRecDepth 100000 in
theorem d_X11_slotOf {Φ : Prop} {K1 K2 : Int32 → Gt → Prop} (hk : ∀ {r s : Int32} {H1 H2 : Gt}, rl H1 H2 → K1 r H1 → K2 s H2 → s = r → Φ) : ∀ {a0 b0 : Int32} {G1 G2 : Gt}, rl G1 G2 → w_X11_slotOf K1 a0 G1 → w_X11_slotOf K2 b0 G2 → b0 = a0 → Φ := by
  intro a0 b0 G1 G2 hG0 h1 h2 e0
  subst e0
  unfold w_X11_slotOf at h1 h2
  replace h1 := h1.2
  replace h2 := h2.2
  replace h1 := h1.2
  replace h2 := h2.2
  rcases pifD (by simp only [hG0.c (k := 47) rfl (by decide), hG0.c (k := 64) rfl (by decide)]) h1 h2 with ⟨h1, h2⟩ | ⟨h1, h2⟩
  · replace h1 := h1.2
    replace h2 := h2.2
    replace h1 := h1.2
    replace h2 := h2.2
    exact d_X11_slotOf_j39 hk hG0 h1 h2 (by simp only [hG0.c (k := 48) rfl (by decide), hG0.c (k := 64) rfl (by decide)])
  · replace h1 := h1.2
    replace h2 := h2.2
    exact d_X11_slotOf_j39 hk hG0 h1 h2 (by simp only [hG0.c (k := 67) rfl (by decide)])
set_option maxHeartbeats 4000000 in
set_option maxRecDepth 100000 in
theorem d_X11_puts_j27 {Φ : Prop} {K1 K2 : Gt → Prop} (hk : ∀ {H1 H2 : Gt}, rl H1 H2 → K1 H1 → K2 H2 → Φ) : ∀ {G1 G2 : Gt}, rl G1 G2 → w_X11_puts_j27 K1 G1 → w_X11_puts_j27 K2 G2 → Φ := by
  intro  G1 G2 hG0 h1 h2 
  unfold w_X11_puts_j27 at h1 h2
  exact hk hG0 h1 h2
set_option maxHeartbeats 4000000 in
set_option maxRecDepth 100000 in
theorem d_X11_puts {Φ : Prop} {K1 K2 : Gt → Prop} (hk : ∀ {H1 H2 : Gt}, rl H1 H2 → K1 H1 → K2 H2 → Φ) : ∀ {a0 b0 a1 b1 a2 b2 : Int32} {G1 G2 : Gt}, rl G1 G2 → w_X11_puts K1 a0 a1 a2 G1 → w_X11_puts K2 b0 b1 b2 G2 → b0 = a0 → b1 = a1 → b2 = a2 → Φ := by
  intro a0 b0 a1 b1 a2 b2 G1 G2 hG0 h1 h2 e0 e1 e2
  subst e0 e1 e2
  unfold w_X11_puts at h1 h2
  rcases pifD rfl h1 h2 with ⟨h1, h2⟩ | ⟨h1, h2⟩
  · refine d_X11_fails (fun hG3 h1 h2 => ?_) hG0 h1 h2 rfl rfl
    exact d_X11_puts_j27 hk hG3 h1 h2
  · replace h1 := h1.2
    replace h2 := h2.2
    obtain ⟨G1a, eG1a, h1⟩ := h1
    obtain ⟨G1b, eG1b, h2⟩ := h2
    have hG1 : rl G1a G1b := by
      rw [eG1a, eG1b]
      exact rl_gu hG0 rfl rfl
    refine d_X11_ends (fun hG2 h1 h2 => ?_) hG1 h1 h2 rfl rfl
    exact d_X11_puts_j27 hk hG2 h1 h2
set_option maxHeartbeats 4000000 in
set_option maxRecDepth 100000 in
theorem d_X11_isNumber_j12 {Φ : Prop} {K1 K2 : Int32 → Gt → Prop} (hk : ∀ {r s : Int32} {H1 H2 : Gt}, rl H1 H2 → K1 r H1 → K2 s H2 → s = r → Φ) : ∀ {a0 b0 : Int32} {G1 G2 : Gt}, rl G1 G2 → w_X11_isNumber_j12 K1 a0 G1 → w_X11_isNumber_j12 K2 b0 G2 → b0 = a0 → Φ := by
  intro a0 b0 G1 G2 hG0 h1 h2 e0
  subst e0
  unfold w_X11_isNumber_j12 at h1 h2
  replace h1 := h1.2
  replace h2 := h2.2
  exact hk hG0 h1 h2 rfl
set_option maxHeartbeats 4000000 in
set_option maxRecDepth 100000 in
theorem d_X11_isNumber {Φ : Prop} {K1 K2 : Int32 → Gt → Prop} (hk : ∀ {r s : Int32} {H1 H2 : Gt}, rl H1 H2 → K1 r H1 → K2 s H2 → s = r → Φ) : ∀ {a0 b0 : Int32} {G1 G2 : Gt}, rl G1 G2 → w_X11_isNumber K1 a0 G1 → w_X11_isNumber K2 b0 G2 → b0 = a0 → Φ := by
  intro a0 b0 G1 G2 hG0 h1 h2 e0
  subst e0
  unfold w_X11_isNumber at h1 h2
  rcases pifD rfl h1 h2 with ⟨h1, h2⟩ | ⟨h1, h2⟩
  · exact d_X11_isNumber_j12 hk hG0 h1 h2 rfl
  · exact d_X11_isNumber_j12 hk hG0 h1 h2 rfl
set_option maxHeartbeats 4000000 in
set_option maxRecDepth 100000 in
theorem d_X11_within_j27 {Φ : Prop} {K1 K2 : Int32 → Gt → Prop} (hk : ∀ {r s : Int32} {H1 H2 : Gt}, rl H1 H2 → K1 r H1 → K2 s H2 → s = r → Φ) : ∀ {a0 b0 : Int32} {G1 G2 : Gt}, rl G1 G2 → w_X11_within_j27 K1 a0 G1 → w_X11_within_j27 K2 b0 G2 → b0 = a0 → Φ := by
  intro a0 b0 G1 G2 hG0 h1 h2 e0
  subst e0
  unfold w_X11_within_j27 at h1 h2
  exact hk hG0 h1 h2 rfl
set_option maxHeartbeats 4000000 in
set_option maxRecDepth 100000 in
theorem d_X11_within {Φ : Prop} {K1 K2 : Int32 → Gt → Prop} (hk : ∀ {r s : Int32} {H1 H2 : Gt}, rl H1 H2 → K1 r H1 → K2 s H2 → s = r → Φ) : ∀ {a0 b0 : Int32} {G1 G2 : Gt}, rl G1 G2 → w_X11_within K1 a0 G1 → w_X11_within K2 b0 G2 → b0 = a0 → Φ := by
  intro a0 b0 G1 G2 hG0 h1 h2 e0
  subst e0
  unfold w_X11_within at h1 h2
  rcases pifD rfl h1 h2 with ⟨h1, h2⟩ | ⟨h1, h2⟩
  · rcases pifD rfl h1 h2 with ⟨h1, h2⟩ | ⟨h1, h2⟩
    · exact d_X11_within_j27 hk hG0 h1 h2 rfl
    · exact d_X11_within_j27 hk hG0 h1 h2 rfl
  · exact d_X11_within_j27 hk hG0 h1 h2 rfl
set_option maxHeartbeats 4000000 in
set_option maxRecDepth 100000 in
theorem d_X11_bodyOf_h2 {Φ : Prop} {K1 K2 : Int32 → Gt → Prop} (hk : ∀ {r s : Int32} {H1 H2 : Gt}, rl H1 H2 → K1 r H1 → K2 s H2 → s = r → Φ) : ∀ (i1 i2 : Nat) {a0 b0 : Int32} {G1 G2 : Gt}, rl G1 G2 → w_X11_bodyOf_h2 K1 i1 a0 G1 → w_X11_bodyOf_h2 K2 i2 b0 G2 → b0 = a0 → Φ := by
  intro i1
  induction i1 with
  | zero =>
    intro i2 a0 b0 G1 G2 hG0 h1 h2 e0
    exact h1.elim
  | succ i1 ih =>
    intro i2 a0 b0 G1 G2 hG0 h1 h2 e0
    subst e0
    cases i2 with
    | zero => exact h2.elim
    | succ i2 =>
      rw [w_X11_bodyOf_h2] at h1 h2
      replace h1 := h1.2
      replace h2 := h2.2
      rcases pifD (by simp only [hG0.c (k := 64) rfl (by decide)]) h1 h2 with ⟨h1, h2⟩ | ⟨h1, h2⟩
      · exact hk hG0 h1 h2 rfl
      · replace h1 := h1.2
        replace h2 := h2.2
        exact ih _ hG0 h1 h2 (by simp only [hG0.c (k := 65) rfl (by decide)])
set_option maxHeartbeats 4000000 in
set_option maxRecDepth 100000 in
theorem d_X11_bodyOf {Φ : Prop} {K1 K2 : Int32 → Gt → Prop} (hk : ∀ {r s : Int32} {H1 H2 : Gt}, rl H1 H2 → K1 r H1 → K2 s H2 → s = r → Φ) : ∀ {a0 b0 : Int32} {G1 G2 : Gt}, rl G1 G2 → w_X11_bodyOf K1 a0 G1 → w_X11_bodyOf K2 b0 G2 → b0 = a0 → Φ := by
  intro a0 b0 G1 G2 hG0 h1 h2 e0
  subst e0
  unfold w_X11_bodyOf at h1 h2
  obtain ⟨i1, h1⟩ := h1
  obtain ⟨i2, h2⟩ := h2
  exact d_X11_bodyOf_h2 hk _ _ hG0 h1 h2 rfl
set_option maxHeartbeats 4000000 in
set_option maxRecDepth 100000 in
theorem d_X11_waits {Φ : Prop} {K1 K2 : Gt → Prop} (hk : ∀ {H1 H2 : Gt}, rl H1 H2 → K1 H1 → K2 H2 → Φ) : ∀ {a0 b0 a1 b1 : Int32} {G1 G2 : Gt}, rl G1 G2 → w_X11_waits K1 a0 a1 G1 → w_X11_waits K2 b0 b1 G2 → b0 = a0 → b1 = a1 → Φ := by
  intro a0 b0 a1 b1 G1 G2 hG0 h1 h2 e0 e1
  subst e0 e1
  unfold w_X11_waits at h1 h2
  replace h1 := h1.2
  replace h2 := h2.2
  obtain ⟨G1a, eG1a, h1⟩ := h1
  obtain ⟨G1b, eG1b, h2⟩ := h2
  have hG1 : rl G1a G1b := by
    rw [eG1a, eG1b]
    exact rl_gu hG0 (by simp only [hG0.s (j := 47) (by decide)]) (by simp only [hG0.s (j := 41) (by decide)])
  replace h1 := h1.2
  replace h2 := h2.2
  obtain ⟨G2a, eG2a, h1⟩ := h1
  obtain ⟨G2b, eG2b, h2⟩ := h2
  have hG2 : rl G2a G2b := by
    rw [eG2a, eG2b]
    exact rl_gu hG1 (by simp only [hG0.s (j := 47) (by decide)]) (by simp only [hG1.s (j := 42) (by decide)])
  replace h1 := h1.2
  replace h2 := h2.2
  obtain ⟨G3a, eG3a, h1⟩ := h1
  obtain ⟨G3b, eG3b, h2⟩ := h2
  have hG3 : rl G3a G3b := by
    rw [eG3a, eG3b]
    exact rl_gu hG2 (by simp only [hG0.s (j := 47) (by decide)]) (by simp only [hG2.s (j := 43) (by decide)])
  replace h1 := h1.2
  replace h2 := h2.2
  obtain ⟨G4a, eG4a, h1⟩ := h1
  obtain ⟨G4b, eG4b, h2⟩ := h2
  have hG4 : rl G4a G4b := by
    rw [eG4a, eG4b]
    exact rl_gu hG3 (by simp only [hG0.s (j := 47) (by decide)]) (by simp only [hG3.s (j := 44) (by decide)])
  replace h1 := h1.2
  replace h2 := h2.2
  obtain ⟨G5a, eG5a, h1⟩ := h1
  obtain ⟨G5b, eG5b, h2⟩ := h2
  have hG5 : rl G5a G5b := by
    rw [eG5a, eG5b]
    exact rl_gu hG4 (by simp only [hG0.s (j := 47) (by decide)]) (by simp only [hG4.s (j := 45) (by decide)])
  replace h1 := h1.2
  replace h2 := h2.2
  obtain ⟨G6a, eG6a, h1⟩ := h1
  obtain ⟨G6b, eG6b, h2⟩ := h2
  have hG6 : rl G6a G6b := by
    rw [eG6a, eG6b]
    exact rl_gu hG5 (by simp only [hG0.s (j := 47) (by decide)]) (by simp only [hG5.s (j := 46) (by decide)])
  replace h1 := h1.2
  replace h2 := h2.2
  obtain ⟨G7a, eG7a, h1⟩ := h1
  obtain ⟨G7b, eG7b, h2⟩ := h2
  have hG7 : rl G7a G7b := by
    rw [eG7a, eG7b]
    exact rl_gu hG6 rfl (by simp only [hG0.s (j := 47) (by decide)])
  obtain ⟨G8a, eG8a, h1⟩ := h1
  obtain ⟨G8b, eG8b, h2⟩ := h2
  have hG8 : rl G8a G8b := by
    rw [eG8a, eG8b]
    exact rl_gu hG7 rfl (by simp only [hG7.s (j := 47) (by decide)])
  replace h1 := h1.2
  replace h2 := h2.2
  refine d_X11_parts (fun hG9 h1 h2 => ?_) hG8 h1 h2 (by simp only [hG8.c (k := 49) rfl (by decide)]) rfl rfl
  exact hk hG9 h1 h2
set_option maxHeartbeats 4000000 in
set_option maxRecDepth 100000 in
theorem d_X11_isOver {Φ : Prop} {K1 K2 : Gt → Prop} (hk : ∀ {H1 H2 : Gt}, rl H1 H2 → K1 H1 → K2 H2 → Φ) : ∀ {a0 b0 : Int32} {G1 G2 : Gt}, rl G1 G2 → w_X11_isOver K1 a0 G1 → w_X11_isOver K2 b0 G2 → b0 = a0 → Φ := by
  intro a0 b0 G1 G2 hG0 h1 h2 e0
  subst e0
  unfold w_X11_isOver at h1 h2
  replace h1 := h1.2
  replace h2 := h2.2
  replace h1 := h1.2
  replace h2 := h2.2
  obtain ⟨G1a, eG1a, h1⟩ := h1
  obtain ⟨G1b, eG1b, h2⟩ := h2
  have hG1 : rl G1a G1b := by
    rw [eG1a, eG1b]
    exact rl_gu hG0 rfl (by simp only [hG0.c (k := 80) rfl (by decide), hG0.c (k := 68) rfl (by decide)])
  replace h1 := h1.2
  replace h2 := h2.2
  obtain ⟨G2a, eG2a, h1⟩ := h1
  obtain ⟨G2b, eG2b, h2⟩ := h2
  have hG2 : rl G2a G2b := by
    rw [eG2a, eG2b]
    exact rl_gu hG1 rfl (by simp only [hG1.c (k := 80) rfl (by decide), hG0.c (k := 68) rfl (by decide)])
  replace h1 := h1.2
  replace h2 := h2.2
  obtain ⟨G3a, eG3a, h1⟩ := h1
  obtain ⟨G3b, eG3b, h2⟩ := h2
  have hG3 : rl G3a G3b := by
    rw [eG3a, eG3b]
    exact rl_gu hG2 rfl (by simp only [hG2.c (k := 80) rfl (by decide), hG0.c (k := 68) rfl (by decide)])
  replace h1 := h1.2
  replace h2 := h2.2
  obtain ⟨G4a, eG4a, h1⟩ := h1
  obtain ⟨G4b, eG4b, h2⟩ := h2
  have hG4 : rl G4a G4b := by
    rw [eG4a, eG4b]
    exact rl_gu hG3 rfl (by simp only [hG3.c (k := 80) rfl (by decide), hG0.c (k := 68) rfl (by decide)])
  replace h1 := h1.2
  replace h2 := h2.2
  obtain ⟨G5a, eG5a, h1⟩ := h1
  obtain ⟨G5b, eG5b, h2⟩ := h2
  have hG5 : rl G5a G5b := by
    rw [eG5a, eG5b]
    exact rl_gu hG4 rfl (by simp only [hG4.c (k := 80) rfl (by decide), hG0.c (k := 68) rfl (by decide)])
  replace h1 := h1.2
  replace h2 := h2.2
  obtain ⟨G6a, eG6a, h1⟩ := h1
  obtain ⟨G6b, eG6b, h2⟩ := h2
  have hG6 : rl G6a G6b := by
    rw [eG6a, eG6b]
    exact rl_gu hG5 rfl (by simp only [hG5.c (k := 80) rfl (by decide), hG0.c (k := 68) rfl (by decide)])
  replace h1 := h1.2
  replace h2 := h2.2
  obtain ⟨G7a, eG7a, h1⟩ := h1
  obtain ⟨G7b, eG7b, h2⟩ := h2
  have hG7 : rl G7a G7b := by
    rw [eG7a, eG7b]
    exact rl_gu hG6 rfl (by simp only [hG6.c (k := 65) rfl (by decide)])
  exact hk hG7 h1 h2
set_option maxHeartbeats 4000000 in
set_option maxRecDepth 100000 in
theorem d_X11_isBound_j70 {Φ : Prop} {K1 K2 : Int32 → Gt → Prop} {rec9a rec9b : Int32 → Int32 → Gt → Prop} (hk : ∀ {r s : Int32} {H1 H2 : Gt}, rl H1 H2 → K1 r H1 → K2 s H2 → s = r → Φ) (hrec9 : ∀ {a0 b0 a1 b1 : Int32} {H1 H2 : Gt}, rl H1 H2 → rec9a a0 a1 H1 → rec9b b0 b1 H2 → b0 = a0 → b1 = a1 → Φ) : ∀ {a0 b0 a1 b1 : Int32} {G1 G2 : Gt}, rl G1 G2 → w_X11_isBound_j70 K1 rec9a a0 a1 G1 → w_X11_isBound_j70 K2 rec9b b0 b1 G2 → b0 = a0 → b1 = a1 → Φ := by
  intro a0 b0 a1 b1 G1 G2 hG0 h1 h2 e0 e1
  subst e0 e1
  unfold w_X11_isBound_j70 at h1 h2
  replace h1 := h1.2
  replace h2 := h2.2
  exact hrec9 hG0 h1 h2 (by simp only [hG0.c (k := 65) rfl (by decide)]) rfl
set_option maxHeartbeats 4000000 in
set_option maxRecDepth 100000 in
theorem d_X11_isBound_j65 {Φ : Prop} {K1 K2 : Int32 → Gt → Prop} {rec9a rec9b : Int32 → Int32 → Gt → Prop} (hk : ∀ {r s : Int32} {H1 H2 : Gt}, rl H1 H2 → K1 r H1 → K2 s H2 → s = r → Φ) (hrec9 : ∀ {a0 b0 a1 b1 : Int32} {H1 H2 : Gt}, rl H1 H2 → rec9a a0 a1 H1 → rec9b b0 b1 H2 → b0 = a0 → b1 = a1 → Φ) : ∀ {a0 b0 : Int32} {G1 G2 : Gt}, rl G1 G2 → w_X11_isBound_j65 K1 rec9a a0 G1 → w_X11_isBound_j65 K2 rec9b b0 G2 → b0 = a0 → Φ := by
  intro a0 b0 G1 G2 hG0 h1 h2 e0
  subst e0
  unfold w_X11_isBound_j65 at h1 h2
  exact d_X11_isBound_j70 hk hrec9 hG0 h1 h2 rfl rfl
set_option maxHeartbeats 4000000 in
set_option maxRecDepth 100000 in
theorem d_X11_isBound_j69 {Φ : Prop} {K1 K2 : Int32 → Gt → Prop} {rec9a rec9b : Int32 → Int32 → Gt → Prop} (hk : ∀ {r s : Int32} {H1 H2 : Gt}, rl H1 H2 → K1 r H1 → K2 s H2 → s = r → Φ) (hrec9 : ∀ {a0 b0 a1 b1 : Int32} {H1 H2 : Gt}, rl H1 H2 → rec9a a0 a1 H1 → rec9b b0 b1 H2 → b0 = a0 → b1 = a1 → Φ) : ∀ {a0 b0 : Int32} {G1 G2 : Gt}, rl G1 G2 → w_X11_isBound_j69 K1 rec9a a0 G1 → w_X11_isBound_j69 K2 rec9b b0 G2 → b0 = a0 → Φ := by
  intro a0 b0 G1 G2 hG0 h1 h2 e0
  subst e0
  unfold w_X11_isBound_j69 at h1 h2
  exact d_X11_isBound_j70 hk hrec9 hG0 h1 h2 rfl rfl
set_option maxHeartbeats 4000000 in
set_option maxRecDepth 100000 in
theorem d_X11_isBound_h9 {Φ : Prop} {K1 K2 : Int32 → Gt → Prop} (hk : ∀ {r s : Int32} {H1 H2 : Gt}, rl H1 H2 → K1 r H1 → K2 s H2 → s = r → Φ) : ∀ (i1 i2 : Nat) {a0 b0 a1 b1 : Int32} {G1 G2 : Gt}, rl G1 G2 → w_X11_isBound_h9 K1 i1 a0 a1 G1 → w_X11_isBound_h9 K2 i2 b0 b1 G2 → b0 = a0 → b1 = a1 → Φ := by
  intro i1
  induction i1 with
  | zero =>
    intro i2 a0 b0 a1 b1 G1 G2 hG0 h1 h2 e0 e1
    exact h1.elim
  | succ i1 ih =>
    intro i2 a0 b0 a1 b1 G1 G2 hG0 h1 h2 e0 e1
    subst e0 e1
    cases i2 with
    | zero => exact h2.elim
    | succ i2 =>
      rw [w_X11_isBound_h9] at h1 h2
      replace h1 := h1.2
      replace h2 := h2.2
      rcases pifD (by simp only [hG0.c (k := 64) rfl (by decide)]) h1 h2 with ⟨h1, h2⟩ | ⟨h1, h2⟩
      · replace h1 := h1.2
        replace h2 := h2.2
        exact hk hG0 h1 h2 rfl
      · rcases pifD rfl h1 h2 with ⟨h1, h2⟩ | ⟨h1, h2⟩
        · replace h1 := h1.2
          replace h2 := h2.2
          replace h1 := h1.2
          replace h2 := h2.2
          rcases pifD (by simp only [hG0.c (k := 47) rfl (by decide), hG0.c (k := 64) rfl (by decide)]) h1 h2 with ⟨h1, h2⟩ | ⟨h1, h2⟩
          · exact d_X11_isBound_j65 hk (fun g1 g2 g3 q0 q1 => ih _ g1 g2 g3 q0 q1) hG0 h1 h2 rfl
          · replace h1 := h1.2
            replace h2 := h2.2
            replace h1 := h1.2
            replace h2 := h2.2
            rcases pifD (by simp only [hG0.c (k := 47) rfl (by decide), hG0.c (k := 64) rfl (by decide)]) h1 h2 with ⟨h1, h2⟩ | ⟨h1, h2⟩
            · replace h1 := h1.2
              replace h2 := h2.2
              rcases pifD (by simp only [hG0.c (k := 67) rfl (by decide)]) h1 h2 with ⟨h1, h2⟩ | ⟨h1, h2⟩
              · exact d_X11_isBound_j65 hk (fun g1 g2 g3 q0 q1 => ih _ g1 g2 g3 q0 q1) hG0 h1 h2 rfl
              · exact d_X11_isBound_j69 hk (fun g1 g2 g3 q0 q1 => ih _ g1 g2 g3 q0 q1) hG0 h1 h2 rfl
            · exact d_X11_isBound_j69 hk (fun g1 g2 g3 q0 q1 => ih _ g1 g2 g3 q0 q1) hG0 h1 h2 rfl
        · exact d_X11_isBound_j65 hk (fun g1 g2 g3 q0 q1 => ih _ g1 g2 g3 q0 q1) hG0 h1 h2 rfl
set_option maxHeartbeats 4000000 in
set_option maxRecDepth 100000 in
theorem d_X11_isBound {Φ : Prop} {K1 K2 : Int32 → Gt → Prop} (hk : ∀ {r s : Int32} {H1 H2 : Gt}, rl H1 H2 → K1 r H1 → K2 s H2 → s = r → Φ) : ∀ {a0 b0 : Int32} {G1 G2 : Gt}, rl G1 G2 → w_X11_isBound K1 a0 G1 → w_X11_isBound K2 b0 G2 → b0 = a0 → Φ := by
  intro a0 b0 G1 G2 hG0 h1 h2 e0
  subst e0
  unfold w_X11_isBound at h1 h2
  replace h1 := h1.2
  replace h2 := h2.2
  obtain ⟨i1, h1⟩ := h1
  obtain ⟨i2, h2⟩ := h2
  exact d_X11_isBound_h9 hk _ _ hG0 h1 h2 (by simp only [hG0.c (k := 65) rfl (by decide)]) rfl
set_option maxHeartbeats 4000000 in
set_option maxRecDepth 100000 in
theorem d_X11_inserts_j138 {Φ : Prop} {K1 K2 : Gt → Prop} {rec86a rec86b : Int32 → Int32 → Gt → Prop} (hk : ∀ {H1 H2 : Gt}, rl H1 H2 → K1 H1 → K2 H2 → Φ) (hrec86 : ∀ {a0 b0 a1 b1 : Int32} {H1 H2 : Gt}, rl H1 H2 → rec86a a0 a1 H1 → rec86b b0 b1 H2 → b0 = a0 → b1 = a1 → Φ) : ∀ {a0 b0 a1 b1 a2 b2 a3 b3 a4 b4 : Int32} {G1 G2 : Gt}, rl G1 G2 → w_X11_inserts_j138 K1 rec86a a0 a1 a2 a3 a4 G1 → w_X11_inserts_j138 K2 rec86b b0 b1 b2 b3 b4 G2 → b0 = a0 → b1 = a1 → b2 = a2 → b3 = a3 → b4 = a4 → Φ := by
  intro a0 b0 a1 b1 a2 b2 a3 b3 a4 b4 G1 G2 hG0 h1 h2 e0 e1 e2 e3 e4
  subst e0 e1 e2 e3 e4
  unfold w_X11_inserts_j138 at h1 h2
  replace h1 := h1.2
  replace h2 := h2.2
  obtain ⟨G5a, eG5a, h1⟩ := h1
  obtain ⟨G5b, eG5b, h2⟩ := h2
  have hG5 : rl G5a G5b := by
    rw [eG5a, eG5b]
    exact rl_gu hG0 rfl rfl
  exact hrec86 hG5 h1 h2 rfl rfl
set_option maxHeartbeats 4000000 in
set_option maxRecDepth 100000 in
theorem d_X11_inserts_j133 {Φ : Prop} {K1 K2 : Gt → Prop} {rec86a rec86b : Int32 → Int32 → Gt → Prop} (hk : ∀ {H1 H2 : Gt}, rl H1 H2 → K1 H1 → K2 H2 → Φ) (hrec86 : ∀ {a0 b0 a1 b1 : Int32} {H1 H2 : Gt}, rl H1 H2 → rec86a a0 a1 H1 → rec86b b0 b1 H2 → b0 = a0 → b1 = a1 → Φ) : ∀ {a0 b0 a1 b1 a2 b2 a3 b3 : Int32} {G1 G2 : Gt}, rl G1 G2 → w_X11_inserts_j133 K1 rec86a a0 a1 a2 a3 G1 → w_X11_inserts_j133 K2 rec86b b0 b1 b2 b3 G2 → b0 = a0 → b1 = a1 → b2 = a2 → b3 = a3 → Φ := by
  intro a0 b0 a1 b1 a2 b2 a3 b3 G1 G2 hG0 h1 h2 e0 e1 e2 e3
  subst e0 e1 e2 e3
  unfold w_X11_inserts_j133 at h1 h2
  exact d_X11_inserts_j138 hk hrec86 hG0 h1 h2 rfl rfl rfl rfl rfl
set_option maxHeartbeats 4000000 in
set_option maxRecDepth 100000 in
theorem d_X11_inserts_h86 {Φ : Prop} {K1 K2 : Gt → Prop} (hk : ∀ {H1 H2 : Gt}, rl H1 H2 → K1 H1 → K2 H2 → Φ) : ∀ (i1 i2 : Nat) {a0 b0 a1 b1 : Int32} {G1 G2 : Gt}, rl G1 G2 → w_X11_inserts_h86 K1 i1 a0 a1 G1 → w_X11_inserts_h86 K2 i2 b0 b1 G2 → b0 = a0 → b1 = a1 → Φ := by
  intro i1
  induction i1 with
  | zero =>
    intro i2 a0 b0 a1 b1 G1 G2 hG0 h1 h2 e0 e1
    exact h1.elim
  | succ i1 ih =>
    intro i2 a0 b0 a1 b1 G1 G2 hG0 h1 h2 e0 e1
    subst e0 e1
    cases i2 with
    | zero => exact h2.elim
    | succ i2 =>
      rw [w_X11_inserts_h86] at h1 h2
      rcases pifD rfl h1 h2 with ⟨h1, h2⟩ | ⟨h1, h2⟩
      · exact hk hG0 h1 h2
      · replace h1 := h1.2
        replace h2 := h2.2
        replace h1 := h1.2
        replace h2 := h2.2
        rcases pifD (by simp only [hG0.c (k := 60) rfl (by decide), hG0.s (j := 14) (by decide)]) h1 h2 with ⟨h1, h2⟩ | ⟨h1, h2⟩
        · exact d_X11_inserts_j133 hk (fun g1 g2 g3 q0 q1 => ih _ g1 g2 g3 q0 q1) hG0 h1 h2 rfl rfl (by simp only [hG0.s (j := 14) (by decide)]) (by simp only [hG0.c (k := 60) rfl (by decide), hG0.s (j := 14) (by decide)])
        · replace h1 := h1.2
          replace h2 := h2.2
          rcases pifD (by simp only [hG0.c (k := 61) rfl (by decide), hG0.s (j := 14) (by decide)]) h1 h2 with ⟨h1, h2⟩ | ⟨h1, h2⟩
          · exact d_X11_inserts_j133 hk (fun g1 g2 g3 q0 q1 => ih _ g1 g2 g3 q0 q1) hG0 h1 h2 rfl rfl (by simp only [hG0.s (j := 14) (by decide)]) (by simp only [hG0.c (k := 60) rfl (by decide), hG0.s (j := 14) (by decide)])
          · exact d_X11_inserts_j138 hk (fun g1 g2 g3 q0 q1 => ih _ g1 g2 g3 q0 q1) hG0 h1 h2 rfl rfl (by simp only [hG0.s (j := 14) (by decide)]) (by simp only [hG0.c (k := 60) rfl (by decide), hG0.s (j := 14) (by decide)]) rfl
set_option maxHeartbeats 4000000 in
set_option maxRecDepth 100000 in
theorem d_X11_inserts_h15 {Φ : Prop} {K1 K2 : Gt → Prop} (hk : ∀ {H1 H2 : Gt}, rl H1 H2 → K1 H1 → K2 H2 → Φ) : ∀ (i1 i2 : Nat) {a0 b0 a1 b1 a2 b2 : Int32} {G1 G2 : Gt}, rl G1 G2 → w_X11_inserts_h15 K1 i1 a0 a1 a2 G1 → w_X11_inserts_h15 K2 i2 b0 b1 b2 G2 → b0 = a0 → b1 = a1 → b2 = a2 → Φ := by
  intro i1
  induction i1 with
  | zero =>
    intro i2 a0 b0 a1 b1 a2 b2 G1 G2 hG0 h1 h2 e0 e1 e2
    exact h1.elim
  | succ i1 ih =>
    intro i2 a0 b0 a1 b1 a2 b2 G1 G2 hG0 h1 h2 e0 e1 e2
    subst e0 e1 e2
    cases i2 with
    | zero => exact h2.elim
    | succ i2 =>
      rw [w_X11_inserts_h15] at h1 h2
      rcases pifD rfl h1 h2 with ⟨h1, h2⟩ | ⟨h1, h2⟩
      · replace h1 := h1.2
        replace h2 := h2.2
        obtain ⟨G3a, eG3a, h1⟩ := h1
        obtain ⟨G3b, eG3b, h2⟩ := h2
        have hG3 : rl G3a G3b := by
          rw [eG3a, eG3b]
          exact rl_gu hG0 (by simp only [hG0.s (j := 14) (by decide)]) rfl
        replace h1 := h1.2
        replace h2 := h2.2
        replace h1 := h1.2
        replace h2 := h2.2
        obtain ⟨G4a, eG4a, h1⟩ := h1
        obtain ⟨G4b, eG4b, h2⟩ := h2
        have hG4 : rl G4a G4b := by
          rw [eG4a, eG4b]
          exact rl_gu hG3 (by simp only [hG3.s (j := 14) (by decide)]) (by simp only [hG3.c (k := 59) rfl (by decide), hG3.s (j := 14) (by decide)])
        obtain ⟨i1, h1⟩ := h1
        obtain ⟨i2, h2⟩ := h2
        exact d_X11_inserts_h86 hk _ _ hG4 h1 h2 rfl rfl
      · replace h1 := h1.2
        replace h2 := h2.2
        replace h1 := h1.2
        replace h2 := h2.2
        obtain ⟨G6a, eG6a, h1⟩ := h1
        obtain ⟨G6b, eG6b, h2⟩ := h2
        have hG6 : rl G6a G6b := by
          rw [eG6a, eG6b]
          exact rl_gu hG0 (by simp only [hG0.s (j := 14) (by decide)]) (by simp only [hG0.c (k := 58) rfl (by decide), hG0.s (j := 14) (by decide)])
        exact ih _ hG6 h1 h2 rfl rfl rfl
set_option maxHeartbeats 4000000 in
set_option maxRecDepth 100000 in
theorem d_X11_inserts {Φ : Prop} {K1 K2 : Gt → Prop} (hk : ∀ {H1 H2 : Gt}, rl H1 H2 → K1 H1 → K2 H2 → Φ) : ∀ {a0 b0 : Int32} {G1 G2 : Gt}, rl G1 G2 → w_X11_inserts K1 a0 G1 → w_X11_inserts K2 b0 G2 → b0 = a0 → Φ := by
  intro a0 b0 G1 G2 hG0 h1 h2 e0
  subst e0
  unfold w_X11_inserts at h1 h2
  refine d_X11_place (fun hG1 h1 h2 ev2 => ?_) hG0 h1 h2
  subst ev2
  replace h1 := h1.2
  replace h2 := h2.2
  obtain ⟨i1, h1⟩ := h1
  obtain ⟨i2, h2⟩ := h2
  exact d_X11_inserts_h15 hk _ _ hG1 h1 h2 rfl rfl (by simp only [hG1.c (k := 59) rfl (by decide), hG1.s (j := 14) (by decide)])
set_option maxHeartbeats 4000000 in
set_option maxRecDepth 100000 in
theorem d_X11_places_j32 {Φ : Prop} {K1 K2 : Int32 → Gt → Prop} {rec4a rec4b : Int32 → Int32 → Gt → Prop} (hk : ∀ {r s : Int32} {H1 H2 : Gt}, rl H1 H2 → K1 r H1 → K2 s H2 → s = r → Φ) (hrec4 : ∀ {a0 b0 a1 b1 : Int32} {H1 H2 : Gt}, rl H1 H2 → rec4a a0 a1 H1 → rec4b b0 b1 H2 → b0 = a0 → b1 = a1 → Φ) : ∀ {a0 b0 a1 b1 a2 b2 : Int32} {G1 G2 : Gt}, rl G1 G2 → w_X11_places_j32 K1 rec4a a0 a1 a2 G1 → w_X11_places_j32 K2 rec4b b0 b1 b2 G2 → b0 = a0 → b1 = a1 → b2 = a2 → Φ := by
  intro a0 b0 a1 b1 a2 b2 G1 G2 hG0 h1 h2 e0 e1 e2
  subst e0 e1 e2
  unfold w_X11_places_j32 at h1 h2
  exact hrec4 hG0 h1 h2 rfl rfl
set_option maxHeartbeats 4000000 in
set_option maxRecDepth 100000 in
theorem d_X11_places_h4 {Φ : Prop} {K1 K2 : Int32 → Gt → Prop} (hk : ∀ {r s : Int32} {H1 H2 : Gt}, rl H1 H2 → K1 r H1 → K2 s H2 → s = r → Φ) : ∀ (i1 i2 : Nat) {a0 b0 a1 b1 : Int32} {G1 G2 : Gt}, rl G1 G2 → w_X11_places_h4 K1 i1 a0 a1 G1 → w_X11_places_h4 K2 i2 b0 b1 G2 → b0 = a0 → b1 = a1 → Φ := by
  intro i1
  induction i1 with
  | zero =>
    intro i2 a0 b0 a1 b1 G1 G2 hG0 h1 h2 e0 e1
    exact h1.elim
  | succ i1 ih =>
    intro i2 a0 b0 a1 b1 G1 G2 hG0 h1 h2 e0 e1
    subst e0 e1
    cases i2 with
    | zero => exact h2.elim
    | succ i2 =>
      rw [w_X11_places_h4] at h1 h2
      rcases pifD rfl h1 h2 with ⟨h1, h2⟩ | ⟨h1, h2⟩
      · exact hk hG0 h1 h2 rfl
      · replace h1 := h1.2
        replace h2 := h2.2
        rcases pifD (by simp only [hG0.c (k := 60) rfl (by decide), hG0.s (j := 14) (by decide)]) h1 h2 with ⟨h1, h2⟩ | ⟨h1, h2⟩
        · exact d_X11_places_j32 hk (fun g1 g2 g3 q0 q1 => ih _ g1 g2 g3 q0 q1) hG0 h1 h2 rfl rfl rfl
        · exact d_X11_places_j32 hk (fun g1 g2 g3 q0 q1 => ih _ g1 g2 g3 q0 q1) hG0 h1 h2 rfl rfl rfl
set_option maxHeartbeats 4000000 in
set_option maxRecDepth 100000 in
theorem d_X11_places {Φ : Prop} {K1 K2 : Int32 → Gt → Prop} (hk : ∀ {r s : Int32} {H1 H2 : Gt}, rl H1 H2 → K1 r H1 → K2 s H2 → s = r → Φ) : ∀ {G1 G2 : Gt}, rl G1 G2 → w_X11_places K1 G1 → w_X11_places K2 G2 → Φ := by
  intro  G1 G2 hG0 h1 h2 
  unfold w_X11_places at h1 h2
  obtain ⟨i1, h1⟩ := h1
  obtain ⟨i2, h2⟩ := h2
  exact d_X11_places_h4 hk _ _ hG0 h1 h2 rfl rfl
set_option maxHeartbeats 4000000 in
set_option maxRecDepth 100000 in
theorem d_X11_hasNone_j333 {Φ : Prop} {K1 K2 : Gt → Prop} (hk : ∀ {H1 H2 : Gt}, rl H1 H2 → K1 H1 → K2 H2 → Φ) : ∀ {G1 G2 : Gt}, rl G1 G2 → w_X11_hasNone_j333 K1 G1 → w_X11_hasNone_j333 K2 G2 → Φ := by
  intro  G1 G2 hG0 h1 h2 
  unfold w_X11_hasNone_j333 at h1 h2
  exact hk hG0 h1 h2
set_option maxHeartbeats 4000000 in
set_option maxRecDepth 100000 in
theorem d_X11_hasNone_j105 {Φ : Prop} {K1 K2 : Gt → Prop} (hk : ∀ {H1 H2 : Gt}, rl H1 H2 → K1 H1 → K2 H2 → Φ) : ∀ {a0 b0 a1 b1 : Int32} {G1 G2 : Gt}, rl G1 G2 → w_X11_hasNone_j105 K1 a0 a1 G1 → w_X11_hasNone_j105 K2 b0 b1 G2 → b0 = a0 → b1 = a1 → Φ := by
  intro a0 b0 a1 b1 G1 G2 hG0 h1 h2 e0 e1
  subst e0 e1
  unfold w_X11_hasNone_j105 at h1 h2
  rcases pifD (by simp only [hG0.s (j := 41) (by decide)]) h1 h2 with ⟨h1, h2⟩ | ⟨h1, h2⟩
  · replace h1 := h1.2
    replace h2 := h2.2
    rcases pifD (by simp only [hG0.s (j := 43) (by decide), hG0.c (k := 48) rfl (by decide)]) h1 h2 with ⟨h1, h2⟩ | ⟨h1, h2⟩
    · replace h1 := h1.2
      replace h2 := h2.2
      replace h1 := h1.2
      replace h2 := h2.2
      refine d_X11_opens (fun hG2 h1 h2 ev3 => ?_) hG0 h1 h2 (by simp only [hG0.c (k := 66) rfl (by decide)])
      subst ev3
      refine d_X11_asks (fun hG4 h1 h2 => ?_) hG2 h1 h2 (by simp only [hG0.c (k := 49) rfl (by decide)]) rfl rfl
      exact d_X11_hasNone_j333 hk hG4 h1 h2
    · exact d_X11_hasNone_j333 hk hG0 h1 h2
  · exact d_X11_hasNone_j333 hk hG0 h1 h2
set_option maxHeartbeats 4000000 in
set_option maxRecDepth 100000 in
theorem d_X11_hasNone_j321 {Φ : Prop} {K1 K2 : Gt → Prop} (hk : ∀ {H1 H2 : Gt}, rl H1 H2 → K1 H1 → K2 H2 → Φ) : ∀ {a0 b0 a1 b1 : Int32} {G1 G2 : Gt}, rl G1 G2 → w_X11_hasNone_j321 K1 a0 a1 G1 → w_X11_hasNone_j321 K2 b0 b1 G2 → b0 = a0 → b1 = a1 → Φ := by
  intro a0 b0 a1 b1 G1 G2 hG0 h1 h2 e0 e1
  subst e0 e1
  unfold w_X11_hasNone_j321 at h1 h2
  replace h1 := h1.2
  replace h2 := h2.2
  obtain ⟨G13a, eG13a, h1⟩ := h1
  obtain ⟨G13b, eG13b, h2⟩ := h2
  have hG13 : rl G13a G13b := by
    rw [eG13a, eG13b]
    exact rl_gu hG0 rfl rfl
  exact d_X11_hasNone_j333 hk hG13 h1 h2
set_option maxHeartbeats 4000000 in
set_option maxRecDepth 100000 in
theorem d_X11_hasNone {Φ : Prop} {K1 K2 : Gt → Prop} (hk : ∀ {H1 H2 : Gt}, rl H1 H2 → K1 H1 → K2 H2 → Φ) : ∀ {a0 b0 : Int32} {G1 G2 : Gt}, rl G1 G2 → w_X11_hasNone K1 a0 G1 → w_X11_hasNone K2 b0 G2 → b0 = a0 → Φ := by
  intro a0 b0 G1 G2 hG0 h1 h2 e0
  subst e0
  unfold w_X11_hasNone at h1 h2
  replace h1 := h1.2
  replace h2 := h2.2
  replace h1 := h1.2
  replace h2 := h2.2
  obtain ⟨G1a, eG1a, h1⟩ := h1
  obtain ⟨G1b, eG1b, h2⟩ := h2
  have hG1 : rl G1a G1b := by
    rw [eG1a, eG1b]
    exact rl_gu hG0 rfl (by simp only [hG0.c (k := 65) rfl (by decide)])
  replace h1 := h1.2
  replace h2 := h2.2
  rcases pifD (by simp only [hG1.c (k := 47) rfl (by decide), hG0.c (k := 64) rfl (by decide)]) h1 h2 with ⟨h1, h2⟩ | ⟨h1, h2⟩
  · rcases pifD (by simp only [hG1.s (j := 41) (by decide)]) h1 h2 with ⟨h1, h2⟩ | ⟨h1, h2⟩
    · replace h1 := h1.2
      replace h2 := h2.2
      rcases pifD (by simp only [hG1.s (j := 43) (by decide), hG1.c (k := 48) rfl (by decide), hG0.c (k := 64) rfl (by decide)]) h1 h2 with ⟨h1, h2⟩ | ⟨h1, h2⟩
      · refine d_X11_ends (fun hG5 h1 h2 => ?_) hG1 h1 h2 rfl (by simp only [hG1.s (j := 42) (by decide)])
        exact d_X11_hasNone_j333 hk hG5 h1 h2
      · exact d_X11_hasNone_j105 hk hG1 h1 h2 rfl (by simp only [hG0.c (k := 64) rfl (by decide)])
    · exact d_X11_hasNone_j105 hk hG1 h1 h2 rfl (by simp only [hG0.c (k := 64) rfl (by decide)])
  · rcases pifD (by simp only [hG1.c (k := 47) rfl (by decide), hG0.c (k := 64) rfl (by decide)]) h1 h2 with ⟨h1, h2⟩ | ⟨h1, h2⟩
    · rcases pifD (by simp only [hG1.s (j := 41) (by decide)]) h1 h2 with ⟨h1, h2⟩ | ⟨h1, h2⟩
      · replace h1 := h1.2
        replace h2 := h2.2
        rcases pifD (by simp only [hG1.c (k := 67) rfl (by decide)]) h1 h2 with ⟨h1, h2⟩ | ⟨h1, h2⟩
        · replace h1 := h1.2
          replace h2 := h2.2
          refine d_X11_opens (fun hG6 h1 h2 ev7 => ?_) hG1 h1 h2 (by simp only [hG1.c (k := 66) rfl (by decide)])
          subst ev7
          replace h1 := h1.2
          replace h2 := h2.2
          replace h1 := h1.2
          replace h2 := h2.2
          obtain ⟨G8a, eG8a, h1⟩ := h1
          obtain ⟨G8b, eG8b, h2⟩ := h2
          have hG8 : rl G8a G8b := by
            rw [eG8a, eG8b]
            exact rl_gu hG6 (by simp only [hG6.c (k := 48) rfl (by decide), hG0.c (k := 64) rfl (by decide)]) (by simp only [hG6.s (j := 42) (by decide)])
          replace h1 := h1.2
          replace h2 := h2.2
          obtain ⟨G9a, eG9a, h1⟩ := h1
          obtain ⟨G9b, eG9b, h2⟩ := h2
          have hG9 : rl G9a G9b := by
            rw [eG9a, eG9b]
            exact rl_gu hG8 rfl rfl
          replace h1 := h1.2
          replace h2 := h2.2
          refine d_X11_asks (fun hG10 h1 h2 => ?_) hG9 h1 h2 (by simp only [hG9.c (k := 50) rfl (by decide), hG0.c (k := 64) rfl (by decide)]) rfl rfl
          exact d_X11_hasNone_j333 hk hG10 h1 h2
        · exact d_X11_hasNone_j333 hk hG1 h1 h2
      · exact d_X11_hasNone_j333 hk hG1 h1 h2
    · rcases pifD (by simp only [hG1.c (k := 47) rfl (by decide), hG0.c (k := 64) rfl (by decide)]) h1 h2 with ⟨h1, h2⟩ | ⟨h1, h2⟩
      · replace h1 := h1.2
        replace h2 := h2.2
        rcases pifD (by simp only [hG1.c (k := 67) rfl (by decide)]) h1 h2 with ⟨h1, h2⟩ | ⟨h1, h2⟩
        · refine d_X11_waits (fun hG12 h1 h2 => ?_) hG1 h1 h2 rfl (by simp only [hG0.c (k := 64) rfl (by decide)])
          exact d_X11_hasNone_j333 hk hG12 h1 h2
        · rcases pifD (by simp only [hG1.s (j := 41) (by decide)]) h1 h2 with ⟨h1, h2⟩ | ⟨h1, h2⟩
          · replace h1 := h1.2
            replace h2 := h2.2
            replace h1 := h1.2
            replace h2 := h2.2
            rcases pifD (by simp only [hG1.c (k := 80) rfl (by decide), hG1.c (k := 68) rfl (by decide)]) h1 h2 with ⟨h1, h2⟩ | ⟨h1, h2⟩
            · replace h1 := h1.2
              replace h2 := h2.2
              replace h1 := h1.2
              replace h2 := h2.2
              obtain ⟨G11a, eG11a, h1⟩ := h1
              obtain ⟨G11b, eG11b, h2⟩ := h2
              have hG11 : rl G11a G11b := by
                rw [eG11a, eG11b]
                exact rl_gu hG1 rfl (by simp only [hG1.c (k := 80) rfl (by decide), hG1.c (k := 68) rfl (by decide)])
              exact d_X11_hasNone_j333 hk hG11 h1 h2
            · exact d_X11_hasNone_j333 hk hG1 h1 h2
          · exact d_X11_hasNone_j333 hk hG1 h1 h2
      · rcases pifD (by simp only [hG1.c (k := 47) rfl (by decide), hG0.c (k := 64) rfl (by decide)]) h1 h2 with ⟨h1, h2⟩ | ⟨h1, h2⟩
        · replace h1 := h1.2
          replace h2 := h2.2
          replace h1 := h1.2
          replace h2 := h2.2
          rcases pifD (by simp only [hG1.c (k := 67) rfl (by decide)]) h1 h2 with ⟨h1, h2⟩ | ⟨h1, h2⟩
          · replace h1 := h1.2
            replace h2 := h2.2
            exact d_X11_hasNone_j321 hk hG1 h1 h2 (by simp only [hG1.c (k := 48) rfl (by decide), hG0.c (k := 64) rfl (by decide)]) (by simp only [hG1.c (k := 68) rfl (by decide)])
          · replace h1 := h1.2
            replace h2 := h2.2
            replace h1 := h1.2
            replace h2 := h2.2
            exact d_X11_hasNone_j321 hk hG1 h1 h2 (by simp only [hG1.c (k := 48) rfl (by decide), hG0.c (k := 64) rfl (by decide)]) (by simp only [hG1.c (k := 56) rfl (by decide), hG1.c (k := 48) rfl (by decide), hG0.c (k := 64) rfl (by decide)])
        · rcases pifD (by simp only [hG1.c (k := 47) rfl (by decide), hG0.c (k := 64) rfl (by decide)]) h1 h2 with ⟨h1, h2⟩ | ⟨h1, h2⟩
          · refine d_X11_setsBack (fun hG14 h1 h2 => ?_) hG1 h1 h2 rfl
            exact d_X11_hasNone_j333 hk hG14 h1 h2
          · exact d_X11_hasNone_j333 hk hG1 h1 h2
set_option maxHeartbeats 4000000 in
set_option maxRecDepth 100000 in
theorem d_X11_begins {Φ : Prop} {K1 K2 : Int32 → Gt → Prop} (hk : ∀ {r s : Int32} {H1 H2 : Gt}, rl H1 H2 → K1 r H1 → K2 s H2 → s = r → Φ) : ∀ {a0 b0 a1 b1 a2 b2 a3 b3 : Int32} {G1 G2 : Gt}, rl G1 G2 → w_X11_begins K1 a0 a1 a2 a3 G1 → w_X11_begins K2 b0 b1 b2 b3 G2 → b0 = a0 → b1 = a1 → b2 = a2 → b3 = a3 → Φ := by
  intro a0 b0 a1 b1 a2 b2 a3 b3 G1 G2 hG0 h1 h2 e0 e1 e2 e3
  subst e0 e1 e2 e3
  unfold w_X11_begins at h1 h2
  refine d_X11_lays (fun hG1 h1 h2 ev2 => ?_) hG0 h1 h2 rfl rfl rfl rfl
  subst ev2
  refine d_X11_asks (fun hG3 h1 h2 => ?_) hG1 h1 h2 rfl rfl rfl
  exact hk hG3 h1 h2 rfl
set_option maxHeartbeats 4000000 in
set_option maxRecDepth 100000 in
theorem d_X11_stops_h53 {Φ : Prop} {K1 K2 : Gt → Prop} (hk : ∀ {H1 H2 : Gt}, rl H1 H2 → K1 H1 → K2 H2 → Φ) : ∀ (i1 i2 : Nat) {a0 b0 : Int32} {G1 G2 : Gt}, rl G1 G2 → w_X11_stops_h53 K1 i1 a0 G1 → w_X11_stops_h53 K2 i2 b0 G2 → b0 = a0 → Φ := by
  intro i1
  induction i1 with
  | zero =>
    intro i2 a0 b0 G1 G2 hG0 h1 h2 e0
    exact h1.elim
  | succ i1 ih =>
    intro i2 a0 b0 G1 G2 hG0 h1 h2 e0
    subst e0
    cases i2 with
    | zero => exact h2.elim
    | succ i2 =>
      rw [w_X11_stops_h53] at h1 h2
      rcases pifD rfl h1 h2 with ⟨h1, h2⟩ | ⟨h1, h2⟩
      · refine d_X11_restores (fun hG5 h1 h2 => ?_) hG0 h1 h2
        obtain ⟨G6a, eG6a, h1⟩ := h1
        obtain ⟨G6b, eG6b, h2⟩ := h2
        have hG6 : rl G6a G6b := by
          rw [eG6a, eG6b]
          exact rl_gu hG5 rfl rfl
        obtain ⟨G7a, eG7a, h1⟩ := h1
        obtain ⟨G7b, eG7b, h2⟩ := h2
        have hG7 : rl G7a G7b := by
          rw [eG7a, eG7b]
          exact rl_gu hG6 rfl rfl
        exact hk hG7 h1 h2
      · replace h1 := h1.2
        replace h2 := h2.2
        replace h1 := h1.2
        replace h2 := h2.2
        obtain ⟨G8a, eG8a, h1⟩ := h1
        obtain ⟨G8b, eG8b, h2⟩ := h2
        have hG8 : rl G8a G8b := by
          rw [eG8a, eG8b]
          exact rl_gu hG0 (by simp only [hG0.s (j := 64) (by decide)]) (by simp only [hG0.c (k := 64) rfl (by decide)])
        obtain ⟨G9a, eG9a, h1⟩ := h1
        obtain ⟨G9b, eG9b, h2⟩ := h2
        have hG9 : rl G9a G9b := by
          rw [eG9a, eG9b]
          exact rl_gu hG8 rfl (by simp only [hG8.s (j := 64) (by decide)])
        replace h1 := h1.2
        replace h2 := h2.2
        exact ih _ hG9 h1 h2 (by simp only [hG9.c (k := 70) rfl (by decide)])
set_option maxHeartbeats 4000000 in
set_option maxRecDepth 100000 in
theorem d_X11_stops_j30 {Φ : Prop} {K1 K2 : Gt → Prop} (hk : ∀ {H1 H2 : Gt}, rl H1 H2 → K1 H1 → K2 H2 → Φ) : ∀ {a0 b0 : Int32} {G1 G2 : Gt}, rl G1 G2 → w_X11_stops_j30 K1 a0 G1 → w_X11_stops_j30 K2 b0 G2 → b0 = a0 → Φ := by
  intro a0 b0 G1 G2 hG0 h1 h2 e0
  subst e0
  unfold w_X11_stops_j30 at h1 h2
  obtain ⟨G2a, eG2a, h1⟩ := h1
  obtain ⟨G2b, eG2b, h2⟩ := h2
  have hG2 : rl G2a G2b := by
    rw [eG2a, eG2b]
    exact rl_gu hG0 rfl rfl
  replace h1 := h1.2
  replace h2 := h2.2
  obtain ⟨G3a, eG3a, h1⟩ := h1
  obtain ⟨G3b, eG3b, h2⟩ := h2
  have hG3 : rl G3a G3b := by
    rw [eG3a, eG3b]
    exact rl_gu hG2 rfl (by simp only [hG2.s (j := 45) (by decide)])
  obtain ⟨G4a, eG4a, h1⟩ := h1
  obtain ⟨G4b, eG4b, h2⟩ := h2
  have hG4 : rl G4a G4b := by
    rw [eG4a, eG4b]
    exact rl_gu hG3 rfl rfl
  obtain ⟨i1, h1⟩ := h1
  obtain ⟨i2, h2⟩ := h2
  exact d_X11_stops_h53 hk _ _ hG4 h1 h2 (by simp only [hG4.s (j := 46) (by decide)])
set_option maxHeartbeats 4000000 in
set_option maxRecDepth 100000 in
theorem d_X11_stops {Φ : Prop} {K1 K2 : Gt → Prop} (hk : ∀ {H1 H2 : Gt}, rl H1 H2 → K1 H1 → K2 H2 → Φ) : ∀ {G1 G2 : Gt}, rl G1 G2 → w_X11_stops K1 G1 → w_X11_stops K2 G2 → Φ := by
  intro  G1 G2 hG0 h1 h2 
  unfold w_X11_stops at h1 h2
  obtain ⟨G1a, eG1a, h1⟩ := h1
  obtain ⟨G1b, eG1b, h2⟩ := h2
  have hG1 : rl G1a G1b := by
    rw [eG1a, eG1b]
    exact rl_gu hG0 rfl (by simp only [hG0.s (j := 42) (by decide)])
  rcases pifD (by simp only [hG1.s (j := 44) (by decide)]) h1 h2 with ⟨h1, h2⟩ | ⟨h1, h2⟩
  · exact d_X11_stops_j30 hk hG1 h1 h2 rfl
  · exact d_X11_stops_j30 hk hG1 h1 h2 (by simp only [hG1.s (j := 44) (by decide)])
set_option maxHeartbeats 4000000 in
set_option maxRecDepth 100000 in
theorem d_X11_names_j25 {Φ : Prop} {K1 K2 : Gt → Prop} (hk : ∀ {H1 H2 : Gt}, rl H1 H2 → K1 H1 → K2 H2 → Φ) : ∀ {G1 G2 : Gt}, rl G1 G2 → w_X11_names_j25 K1 G1 → w_X11_names_j25 K2 G2 → Φ := by
  intro  G1 G2 hG0 h1 h2 
  unfold w_X11_names_j25 at h1 h2
  exact hk hG0 h1 h2
set_option maxHeartbeats 4000000 in
set_option maxRecDepth 100000 in
theorem d_X11_names {Φ : Prop} {K1 K2 : Gt → Prop} (hk : ∀ {H1 H2 : Gt}, rl H1 H2 → K1 H1 → K2 H2 → Φ) : ∀ {a0 b0 a1 b1 : Int32} {G1 G2 : Gt}, rl G1 G2 → w_X11_names K1 a0 a1 G1 → w_X11_names K2 b0 b1 G2 → b0 = a0 → b1 = a1 → Φ := by
  intro a0 b0 a1 b1 G1 G2 hG0 h1 h2 e0 e1
  subst e0 e1
  unfold w_X11_names at h1 h2
  rcases pifD rfl h1 h2 with ⟨h1, h2⟩ | ⟨h1, h2⟩
  · refine d_X11_fails (fun hG2 h1 h2 => ?_) hG0 h1 h2 rfl rfl
    exact d_X11_names_j25 hk hG2 h1 h2
  · replace h1 := h1.2
    replace h2 := h2.2
    refine d_X11_ends (fun hG1 h1 h2 => ?_) hG0 h1 h2 rfl (by simp only [hG0.c (k := 72) rfl (by decide)])
    exact d_X11_names_j25 hk hG1 h1 h2
set_option maxHeartbeats 4000000 in
set_option maxRecDepth 100000 in
theorem d_X11_leavesTo_j28 {Φ : Prop} {K1 K2 : Gt → Prop} (hk : ∀ {H1 H2 : Gt}, rl H1 H2 → K1 H1 → K2 H2 → Φ) : ∀ {G1 G2 : Gt}, rl G1 G2 → w_X11_leavesTo_j28 K1 G1 → w_X11_leavesTo_j28 K2 G2 → Φ := by
  intro  G1 G2 hG0 h1 h2 
  unfold w_X11_leavesTo_j28 at h1 h2
  exact hk hG0 h1 h2
set_option maxHeartbeats 4000000 in
set_option maxRecDepth 100000 in
theorem d_X11_leavesTo {Φ : Prop} {K1 K2 : Gt → Prop} (hk : ∀ {H1 H2 : Gt}, rl H1 H2 → K1 H1 → K2 H2 → Φ) : ∀ {a0 b0 a1 b1 a2 b2 a3 b3 : Int32} {G1 G2 : Gt}, rl G1 G2 → w_X11_leavesTo K1 a0 a1 a2 a3 G1 → w_X11_leavesTo K2 b0 b1 b2 b3 G2 → b0 = a0 → b1 = a1 → b2 = a2 → b3 = a3 → Φ := by
  intro a0 b0 a1 b1 a2 b2 a3 b3 G1 G2 hG0 h1 h2 e0 e1 e2 e3
  subst e0 e1 e2 e3
  unfold w_X11_leavesTo at h1 h2
  refine d_X11_hasLoop (fun hG1 h1 h2 ev2 => ?_) hG0 h1 h2 rfl rfl
  subst ev2
  rcases pifD rfl h1 h2 with ⟨h1, h2⟩ | ⟨h1, h2⟩
  · refine d_X11_fails (fun hG3 h1 h2 => ?_) hG1 h1 h2 rfl rfl
    exact d_X11_leavesTo_j28 hk hG3 h1 h2
  · refine d_X11_leaves (fun hG4 h1 h2 => ?_) hG1 h1 h2 rfl rfl rfl rfl
    exact d_X11_leavesTo_j28 hk hG4 h1 h2
set_option maxHeartbeats 4000000 in
set_option maxRecDepth 100000 in
theorem d_X11_enters_j62 {Φ : Prop} {K1 K2 : Gt → Prop} (hk : ∀ {H1 H2 : Gt}, rl H1 H2 → K1 H1 → K2 H2 → Φ) : ∀ {G1 G2 : Gt}, rl G1 G2 → w_X11_enters_j62 K1 G1 → w_X11_enters_j62 K2 G2 → Φ := by
  intro  G1 G2 hG0 h1 h2 
  unfold w_X11_enters_j62 at h1 h2
  exact hk hG0 h1 h2
set_option maxHeartbeats 4000000 in
set_option maxRecDepth 100000 in
theorem d_X11_enters_j59 {Φ : Prop} {K1 K2 : Gt → Prop} (hk : ∀ {H1 H2 : Gt}, rl H1 H2 → K1 H1 → K2 H2 → Φ) : ∀ {a0 b0 : Int32} {G1 G2 : Gt}, rl G1 G2 → w_X11_enters_j59 K1 a0 G1 → w_X11_enters_j59 K2 b0 G2 → b0 = a0 → Φ := by
  intro a0 b0 G1 G2 hG0 h1 h2 e0
  subst e0
  unfold w_X11_enters_j59 at h1 h2
  replace h1 := h1.2
  replace h2 := h2.2
  obtain ⟨G3a, eG3a, h1⟩ := h1
  obtain ⟨G3b, eG3b, h2⟩ := h2
  have hG3 : rl G3a G3b := by
    rw [eG3a, eG3b]
    exact rl_gu hG0 rfl rfl
  exact d_X11_enters_j62 hk hG3 h1 h2
set_option maxHeartbeats 4000000 in
set_option maxRecDepth 100000 in
theorem d_X11_enters_j58 {Φ : Prop} {K1 K2 : Gt → Prop} (hk : ∀ {H1 H2 : Gt}, rl H1 H2 → K1 H1 → K2 H2 → Φ) : ∀ {G1 G2 : Gt}, rl G1 G2 → w_X11_enters_j58 K1 G1 → w_X11_enters_j58 K2 G2 → Φ := by
  intro  G1 G2 hG0 h1 h2 
  unfold w_X11_enters_j58 at h1 h2
  exact d_X11_enters_j59 hk hG0 h1 h2 rfl
set_option maxHeartbeats 4000000 in
set_option maxRecDepth 100000 in
theorem d_X11_enters {Φ : Prop} {K1 K2 : Gt → Prop} (hk : ∀ {H1 H2 : Gt}, rl H1 H2 → K1 H1 → K2 H2 → Φ) : ∀ {a0 b0 a1 b1 : Int32} {G1 G2 : Gt}, rl G1 G2 → w_X11_enters K1 a0 a1 G1 → w_X11_enters K2 b0 b1 G2 → b0 = a0 → b1 = a1 → Φ := by
  intro a0 b0 a1 b1 G1 G2 hG0 h1 h2 e0 e1
  subst e0 e1
  unfold w_X11_enters at h1 h2
  refine d_X11_calls (fun hG1 h1 h2 ev2 => ?_) hG0 h1 h2 rfl
  subst ev2
  rcases pifD rfl h1 h2 with ⟨h1, h2⟩ | ⟨h1, h2⟩
  · rcases pifD (by simp only [hG1.s (j := 51) (by decide)]) h1 h2 with ⟨h1, h2⟩ | ⟨h1, h2⟩
    · exact d_X11_enters_j58 hk hG1 h1 h2
    · replace h1 := h1.2
      replace h2 := h2.2
      replace h1 := h1.2
      replace h2 := h2.2
      rcases pifD (by simp only [hG1.c (k := 47) rfl (by decide), hG1.c (k := 64) rfl (by decide)]) h1 h2 with ⟨h1, h2⟩ | ⟨h1, h2⟩
      · exact d_X11_enters_j58 hk hG1 h1 h2
      · exact d_X11_enters_j59 hk hG1 h1 h2 rfl
  · replace h1 := h1.2
    replace h2 := h2.2
    replace h1 := h1.2
    replace h2 := h2.2
    refine d_X11_begins (fun hG4 h1 h2 ev5 => ?_) hG1 h1 h2 (by simp only [hG1.c (k := 54) rfl (by decide)]) rfl rfl (by simp only [hG1.c (k := 69) rfl (by decide)])
    subst ev5
    exact d_X11_enters_j62 hk hG4 h1 h2
set_option maxHeartbeats 4000000 in
set_option maxRecDepth 100000 in
theorem d_X11_looks_j76 {Φ : Prop} {K1 K2 : Gt → Prop} (hk : ∀ {H1 H2 : Gt}, rl H1 H2 → K1 H1 → K2 H2 → Φ) : ∀ {G1 G2 : Gt}, rl G1 G2 → w_X11_looks_j76 K1 G1 → w_X11_looks_j76 K2 G2 → Φ := by
  intro  G1 G2 hG0 h1 h2 
  unfold w_X11_looks_j76 at h1 h2
  exact hk hG0 h1 h2
set_option maxHeartbeats 4000000 in
set_option maxRecDepth 100000 in
theorem d_X11_looks_j73 {Φ : Prop} {K1 K2 : Gt → Prop} (hk : ∀ {H1 H2 : Gt}, rl H1 H2 → K1 H1 → K2 H2 → Φ) : ∀ {a0 b0 a1 b1 : Int32} {G1 G2 : Gt}, rl G1 G2 → w_X11_looks_j73 K1 a0 a1 G1 → w_X11_looks_j73 K2 b0 b1 G2 → b0 = a0 → b1 = a1 → Φ := by
  intro a0 b0 a1 b1 G1 G2 hG0 h1 h2 e0 e1
  subst e0 e1
  unfold w_X11_looks_j73 at h1 h2
  refine d_X11_ends (fun hG1 h1 h2 => ?_) hG0 h1 h2 rfl rfl
  exact d_X11_looks_j76 hk hG1 h1 h2
set_option maxHeartbeats 4000000 in
set_option maxRecDepth 100000 in
theorem d_X11_looks_j23 {Φ : Prop} {K1 K2 : Gt → Prop} (hk : ∀ {H1 H2 : Gt}, rl H1 H2 → K1 H1 → K2 H2 → Φ) : ∀ {a0 b0 a1 b1 : Int32} {G1 G2 : Gt}, rl G1 G2 → w_X11_looks_j23 K1 a0 a1 G1 → w_X11_looks_j23 K2 b0 b1 G2 → b0 = a0 → b1 = a1 → Φ := by
  intro a0 b0 a1 b1 G1 G2 hG0 h1 h2 e0 e1
  subst e0 e1
  unfold w_X11_looks_j23 at h1 h2
  rcases pifD rfl h1 h2 with ⟨h1, h2⟩ | ⟨h1, h2⟩
  · refine d_X11_erases (fun hG6 h1 h2 ev7 => ?_) hG0 h1 h2
    subst ev7
    exact d_X11_looks_j73 hk hG6 h1 h2 rfl rfl
  · rcases pifD rfl h1 h2 with ⟨h1, h2⟩ | ⟨h1, h2⟩
    · refine d_X11_place (fun hG4 h1 h2 ev5 => ?_) hG0 h1 h2
      subst ev5
      exact d_X11_looks_j73 hk hG4 h1 h2 rfl rfl
    · rcases pifD rfl h1 h2 with ⟨h1, h2⟩ | ⟨h1, h2⟩
      · refine d_X11_letterHere (fun hG2 h1 h2 ev3 => ?_) hG0 h1 h2
        subst ev3
        exact d_X11_looks_j73 hk hG2 h1 h2 rfl rfl
      · replace h1 := h1.2
        replace h2 := h2.2
        exact d_X11_looks_j73 hk hG0 h1 h2 rfl (by simp only [hG0.c (k := 59) rfl (by decide), hG0.s (j := 14) (by decide)])
set_option maxHeartbeats 4000000 in
set_option maxRecDepth 100000 in
theorem d_X11_looks {Φ : Prop} {K1 K2 : Gt → Prop} (hk : ∀ {H1 H2 : Gt}, rl H1 H2 → K1 H1 → K2 H2 → Φ) : ∀ {a0 b0 a1 b1 : Int32} {G1 G2 : Gt}, rl G1 G2 → w_X11_looks K1 a0 a1 G1 → w_X11_looks K2 b0 b1 G2 → b0 = a0 → b1 = a1 → Φ := by
  intro a0 b0 a1 b1 G1 G2 hG0 h1 h2 e0 e1
  subst e0 e1
  unfold w_X11_looks at h1 h2
  rcases pifD rfl h1 h2 with ⟨h1, h2⟩ | ⟨h1, h2⟩
  · refine d_X11_place (fun hG8 h1 h2 ev9 => ?_) hG0 h1 h2
    subst ev9
    rcases pifD rfl h1 h2 with ⟨h1, h2⟩ | ⟨h1, h2⟩
    · refine d_X11_fails (fun hG10 h1 h2 => ?_) hG8 h1 h2 rfl rfl
      exact d_X11_looks_j76 hk hG10 h1 h2
    · exact d_X11_looks_j23 hk hG8 h1 h2 rfl rfl
  · exact d_X11_looks_j23 hk hG0 h1 h2 rfl rfl
set_option maxHeartbeats 4000000 in
set_option maxRecDepth 100000 in
theorem d_X11_goesOn_j122 {Φ : Prop} {K1 K2 : Gt → Prop} (hk : ∀ {H1 H2 : Gt}, rl H1 H2 → K1 H1 → K2 H2 → Φ) : ∀ {G1 G2 : Gt}, rl G1 G2 → w_X11_goesOn_j122 K1 G1 → w_X11_goesOn_j122 K2 G2 → Φ := by
  intro  G1 G2 hG0 h1 h2 
  unfold w_X11_goesOn_j122 at h1 h2
  exact hk hG0 h1 h2
set_option maxHeartbeats 4000000 in
set_option maxRecDepth 100000 in
theorem d_X11_goesOn_j77 {Φ : Prop} {K1 K2 : Gt → Prop} (hk : ∀ {H1 H2 : Gt}, rl H1 H2 → K1 H1 → K2 H2 → Φ) : ∀ {a0 b0 a1 b1 : Int32} {G1 G2 : Gt}, rl G1 G2 → w_X11_goesOn_j77 K1 a0 a1 G1 → w_X11_goesOn_j77 K2 b0 b1 G2 → b0 = a0 → b1 = a1 → Φ := by
  intro a0 b0 a1 b1 G1 G2 hG0 h1 h2 e0 e1
  subst e0 e1
  unfold w_X11_goesOn_j77 at h1 h2
  rcases pifD rfl h1 h2 with ⟨h1, h2⟩ | ⟨h1, h2⟩
  · refine d_X11_setsBack (fun hG1 h1 h2 => ?_) hG0 h1 h2 rfl
    replace h1 := h1.2
    replace h2 := h2.2
    refine d_X11_ends (fun hG2 h1 h2 => ?_) hG1 h1 h2 rfl (by simp only [hG1.c (k := 67) rfl (by decide)])
    exact d_X11_goesOn_j122 hk hG2 h1 h2
  · replace h1 := h1.2
    replace h2 := h2.2
    replace h1 := h1.2
    replace h2 := h2.2
    replace h1 := h1.2
    replace h2 := h2.2
    refine d_X11_parts (fun hG3 h1 h2 => ?_) hG0 h1 h2 (by simp only [hG0.c (k := 48) rfl (by decide), hG0.c (k := 64) rfl (by decide)]) rfl (by simp only [hG0.c (k := 67) rfl (by decide)])
    exact d_X11_goesOn_j122 hk hG3 h1 h2
set_option maxHeartbeats 4000000 in
set_option maxRecDepth 100000 in
theorem d_X11_goesOn_j74 {Φ : Prop} {K1 K2 : Gt → Prop} {rec12a rec12b : Int32 → Int32 → Int32 → Gt → Prop} (hk : ∀ {H1 H2 : Gt}, rl H1 H2 → K1 H1 → K2 H2 → Φ) (hrec12 : ∀ {a0 b0 a1 b1 a2 b2 : Int32} {H1 H2 : Gt}, rl H1 H2 → rec12a a0 a1 a2 H1 → rec12b b0 b1 b2 H2 → b0 = a0 → b1 = a1 → b2 = a2 → Φ) : ∀ {a0 b0 a1 b1 a2 b2 : Int32} {G1 G2 : Gt}, rl G1 G2 → w_X11_goesOn_j74 K1 rec12a a0 a1 a2 G1 → w_X11_goesOn_j74 K2 rec12b b0 b1 b2 G2 → b0 = a0 → b1 = a1 → b2 = a2 → Φ := by
  intro a0 b0 a1 b1 a2 b2 G1 G2 hG0 h1 h2 e0 e1 e2
  subst e0 e1 e2
  unfold w_X11_goesOn_j74 at h1 h2
  exact hrec12 hG0 h1 h2 rfl rfl rfl
set_option maxHeartbeats 4000000 in
set_option maxRecDepth 100000 in
theorem d_X11_goesOn_h12 {Φ : Prop} {K1 K2 : Gt → Prop} (hk : ∀ {H1 H2 : Gt}, rl H1 H2 → K1 H1 → K2 H2 → Φ) : ∀ (i1 i2 : Nat) {a0 b0 a1 b1 a2 b2 : Int32} {G1 G2 : Gt}, rl G1 G2 → w_X11_goesOn_h12 K1 i1 a0 a1 a2 G1 → w_X11_goesOn_h12 K2 i2 b0 b1 b2 G2 → b0 = a0 → b1 = a1 → b2 = a2 → Φ := by
  intro i1
  induction i1 with
  | zero =>
    intro i2 a0 b0 a1 b1 a2 b2 G1 G2 hG0 h1 h2 e0 e1 e2
    exact h1.elim
  | succ i1 ih =>
    intro i2 a0 b0 a1 b1 a2 b2 G1 G2 hG0 h1 h2 e0 e1 e2
    subst e0 e1 e2
    cases i2 with
    | zero => exact h2.elim
    | succ i2 =>
      rw [w_X11_goesOn_h12] at h1 h2
      replace h1 := h1.2
      replace h2 := h2.2
      rcases pifD (by simp only [hG0.c (k := 68) rfl (by decide)]) h1 h2 with ⟨h1, h2⟩ | ⟨h1, h2⟩
      · exact d_X11_goesOn_j77 hk hG0 h1 h2 rfl rfl
      · rcases pifD rfl h1 h2 with ⟨h1, h2⟩ | ⟨h1, h2⟩
        · replace h1 := h1.2
          replace h2 := h2.2
          replace h1 := h1.2
          replace h2 := h2.2
          replace h1 := h1.2
          replace h2 := h2.2
          obtain ⟨G4a, eG4a, h1⟩ := h1
          obtain ⟨G4b, eG4b, h2⟩ := h2
          have hG4 : rl G4a G4b := by
            rw [eG4a, eG4b]
            exact rl_gu hG0 rfl (by simp only [hG0.c (k := 68) rfl (by decide)])
          replace h1 := h1.2
          replace h2 := h2.2
          rcases pifD (by simp only [hG4.c (k := 60) rfl (by decide), hG0.c (k := 68) rfl (by decide)]) h1 h2 with ⟨h1, h2⟩ | ⟨h1, h2⟩
          · exact d_X11_goesOn_j74 hk (fun g1 g2 g3 q0 q1 q2 => ih _ g1 g2 g3 q0 q1 q2) hG4 h1 h2 rfl rfl rfl
          · replace h1 := h1.2
            replace h2 := h2.2
            obtain ⟨G5a, eG5a, h1⟩ := h1
            obtain ⟨G5b, eG5b, h2⟩ := h2
            have hG5 : rl G5a G5b := by
              rw [eG5a, eG5b]
              exact rl_gu hG4 rfl (by simp only [hG0.c (k := 68) rfl (by decide)])
            exact d_X11_goesOn_j74 hk (fun g1 g2 g3 q0 q1 q2 => ih _ g1 g2 g3 q0 q1 q2) hG5 h1 h2 rfl rfl rfl
        · exact d_X11_goesOn_j77 hk hG0 h1 h2 rfl rfl
set_option maxHeartbeats 4000000 in
set_option maxRecDepth 100000 in
theorem d_X11_goesOn {Φ : Prop} {K1 K2 : Gt → Prop} (hk : ∀ {H1 H2 : Gt}, rl H1 H2 → K1 H1 → K2 H2 → Φ) : ∀ {a0 b0 : Int32} {G1 G2 : Gt}, rl G1 G2 → w_X11_goesOn K1 a0 G1 → w_X11_goesOn K2 b0 G2 → b0 = a0 → Φ := by
  intro a0 b0 G1 G2 hG0 h1 h2 e0
  subst e0
  unfold w_X11_goesOn at h1 h2
  replace h1 := h1.2
  replace h2 := h2.2
  obtain ⟨i1, h1⟩ := h1
  obtain ⟨i2, h2⟩ := h2
  exact d_X11_goesOn_h12 hk _ _ hG0 h1 h2 rfl (by simp only [hG0.c (k := 69) rfl (by decide)]) rfl
set_option maxHeartbeats 4000000 in
set_option maxRecDepth 100000 in
theorem d_X11_generatorEnds_j92 {Φ : Prop} {K1 K2 : Gt → Prop} (hk : ∀ {H1 H2 : Gt}, rl H1 H2 → K1 H1 → K2 H2 → Φ) : ∀ {G1 G2 : Gt}, rl G1 G2 → w_X11_generatorEnds_j92 K1 G1 → w_X11_generatorEnds_j92 K2 G2 → Φ := by
  intro  G1 G2 hG0 h1 h2 
  unfold w_X11_generatorEnds_j92 at h1 h2
  exact hk hG0 h1 h2
set_option maxHeartbeats 4000000 in
set_option maxRecDepth 100000 in
theorem d_X11_generatorEnds_j52 {Φ : Prop} {K1 K2 : Gt → Prop} (hk : ∀ {H1 H2 : Gt}, rl H1 H2 → K1 H1 → K2 H2 → Φ) : ∀ {a0 b0 a1 b1 : Int32} {G1 G2 : Gt}, rl G1 G2 → w_X11_generatorEnds_j52 K1 a0 a1 G1 → w_X11_generatorEnds_j52 K2 b0 b1 G2 → b0 = a0 → b1 = a1 → Φ := by
  intro a0 b0 a1 b1 G1 G2 hG0 h1 h2 e0 e1
  subst e0 e1
  unfold w_X11_generatorEnds_j52 at h1 h2
  rcases pifD rfl h1 h2 with ⟨h1, h2⟩ | ⟨h1, h2⟩
  · refine d_X11_comesBack (fun hG2 h1 h2 => ?_) hG0 h1 h2 rfl
    replace h1 := h1.2
    replace h2 := h2.2
    obtain ⟨G3a, eG3a, h1⟩ := h1
    obtain ⟨G3b, eG3b, h2⟩ := h2
    have hG3 : rl G3a G3b := by
      rw [eG3a, eG3b]
      exact rl_gu hG2 rfl (by simp only [hG2.c (k := 65) rfl (by decide)])
    rcases pifD (by simp only [hG3.s (j := 41) (by decide)]) h1 h2 with ⟨h1, h2⟩ | ⟨h1, h2⟩
    · exact d_X11_generatorEnds_j92 hk hG3 h1 h2
    · refine d_X11_ends (fun hG4 h1 h2 => ?_) hG3 h1 h2 rfl rfl
      exact d_X11_generatorEnds_j92 hk hG4 h1 h2
  · refine d_X11_closes (fun hG5 h1 h2 => ?_) hG0 h1 h2
    exact d_X11_generatorEnds_j92 hk hG5 h1 h2
set_option maxHeartbeats 4000000 in
set_option maxRecDepth 100000 in
theorem d_X11_generatorEnds_j20 {Φ : Prop} {K1 K2 : Gt → Prop} (hk : ∀ {H1 H2 : Gt}, rl H1 H2 → K1 H1 → K2 H2 → Φ) : ∀ {a0 b0 a1 b1 a2 b2 : Int32} {G1 G2 : Gt}, rl G1 G2 → w_X11_generatorEnds_j20 K1 a0 a1 a2 G1 → w_X11_generatorEnds_j20 K2 b0 b1 b2 G2 → b0 = a0 → b1 = a1 → b2 = a2 → Φ := by
  intro a0 b0 a1 b1 a2 b2 G1 G2 hG0 h1 h2 e0 e1 e2
  subst e0 e1 e2
  unfold w_X11_generatorEnds_j20 at h1 h2
  replace h1 := h1.2
  replace h2 := h2.2
  replace h1 := h1.2
  replace h2 := h2.2
  obtain ⟨G1a, eG1a, h1⟩ := h1
  obtain ⟨G1b, eG1b, h2⟩ := h2
  have hG1 : rl G1a G1b := by
    rw [eG1a, eG1b]
    exact rl_gu hG0 (by simp only [hG0.c (k := 68) rfl (by decide)]) rfl
  rcases pifD rfl h1 h2 with ⟨h1, h2⟩ | ⟨h1, h2⟩
  · exact d_X11_generatorEnds_j52 hk hG1 h1 h2 rfl rfl
  · rcases pifD (by simp only [hG1.s (j := 41) (by decide)]) h1 h2 with ⟨h1, h2⟩ | ⟨h1, h2⟩
    · refine d_X11_stops (fun hG6 h1 h2 => ?_) hG1 h1 h2
      exact d_X11_generatorEnds_j92 hk hG6 h1 h2
    · exact d_X11_generatorEnds_j52 hk hG1 h1 h2 rfl rfl
set_option maxHeartbeats 4000000 in
set_option maxRecDepth 100000 in
theorem d_X11_generatorEnds {Φ : Prop} {K1 K2 : Gt → Prop} (hk : ∀ {H1 H2 : Gt}, rl H1 H2 → K1 H1 → K2 H2 → Φ) : ∀ {a0 b0 a1 b1 : Int32} {G1 G2 : Gt}, rl G1 G2 → w_X11_generatorEnds K1 a0 a1 G1 → w_X11_generatorEnds K2 b0 b1 G2 → b0 = a0 → b1 = a1 → Φ := by
  intro a0 b0 a1 b1 G1 G2 hG0 h1 h2 e0 e1
  subst e0 e1
  unfold w_X11_generatorEnds at h1 h2
  replace h1 := h1.2
  replace h2 := h2.2
  replace h1 := h1.2
  replace h2 := h2.2
  rcases pifD (by simp only [hG0.c (k := 77) rfl (by decide), hG0.c (k := 68) rfl (by decide)]) h1 h2 with ⟨h1, h2⟩ | ⟨h1, h2⟩
  · exact d_X11_generatorEnds_j20 hk hG0 h1 h2 rfl rfl rfl
  · exact d_X11_generatorEnds_j20 hk hG0 h1 h2 rfl rfl rfl
set_option maxHeartbeats 4000000 in
set_option maxRecDepth 100000 in
theorem d_X11_makes_j67 {Φ : Prop} {K1 K2 : Int32 → Gt → Prop} (hk : ∀ {r s : Int32} {H1 H2 : Gt}, rl H1 H2 → K1 r H1 → K2 s H2 → s = r → Φ) : ∀ {a0 b0 : Int32} {G1 G2 : Gt}, rl G1 G2 → w_X11_makes_j67 K1 a0 G1 → w_X11_makes_j67 K2 b0 G2 → b0 = a0 → Φ := by
  intro a0 b0 G1 G2 hG0 h1 h2 e0
  subst e0
  unfold w_X11_makes_j67 at h1 h2
  exact hk hG0 h1 h2 rfl
set_option maxHeartbeats 4000000 in
set_option maxRecDepth 100000 in
theorem d_X11_makes {Φ : Prop} {K1 K2 : Int32 → Gt → Prop} (hk : ∀ {r s : Int32} {H1 H2 : Gt}, rl H1 H2 → K1 r H1 → K2 s H2 → s = r → Φ) : ∀ {a0 b0 a1 b1 a2 b2 : Int32} {G1 G2 : Gt}, rl G1 G2 → w_X11_makes K1 a0 a1 a2 G1 → w_X11_makes K2 b0 b1 b2 G2 → b0 = a0 → b1 = a1 → b2 = a2 → Φ := by
  intro a0 b0 a1 b1 a2 b2 G1 G2 hG0 h1 h2 e0 e1 e2
  subst e0 e1 e2
  unfold w_X11_makes at h1 h2
  rcases pifD rfl h1 h2 with ⟨h1, h2⟩ | ⟨h1, h2⟩
  · refine d_X11_within (fun hG1 h1 h2 ev2 => ?_) hG0 h1 h2 rfl
    subst ev2
    exact hk hG1 h1 h2 rfl
  · rcases pifD rfl h1 h2 with ⟨h1, h2⟩ | ⟨h1, h2⟩
    · refine d_X11_within (fun hG3 h1 h2 ev4 => ?_) hG0 h1 h2 rfl
      subst ev4
      exact hk hG3 h1 h2 rfl
    · rcases pifD rfl h1 h2 with ⟨h1, h2⟩ | ⟨h1, h2⟩
      · refine d_X11_within (fun hG5 h1 h2 ev6 => ?_) hG0 h1 h2 rfl
        subst ev6
        exact hk hG5 h1 h2 rfl
      · rcases pifD rfl h1 h2 with ⟨h1, h2⟩ | ⟨h1, h2⟩
        · replace h1 := h1.2
          replace h2 := h2.2
          exact hk hG0 h1 h2 rfl
        · rcases pifD rfl h1 h2 with ⟨h1, h2⟩ | ⟨h1, h2⟩
          · exact d_X11_makes_j67 hk hG0 h1 h2 rfl
          · exact d_X11_makes_j67 hk hG0 h1 h2 rfl
set_option maxHeartbeats 4000000 in
set_option maxRecDepth 100000 in
theorem d_X11_applies_j96 {Φ : Prop} {K1 K2 : Gt → Prop} (hk : ∀ {H1 H2 : Gt}, rl H1 H2 → K1 H1 → K2 H2 → Φ) : ∀ {G1 G2 : Gt}, rl G1 G2 → w_X11_applies_j96 K1 G1 → w_X11_applies_j96 K2 G2 → Φ := by
  intro  G1 G2 hG0 h1 h2 
  unfold w_X11_applies_j96 at h1 h2
  exact hk hG0 h1 h2
set_option maxHeartbeats 4000000 in
set_option maxRecDepth 100000 in
theorem d_X11_applies_j14 {Φ : Prop} {K1 K2 : Gt → Prop} (hk : ∀ {H1 H2 : Gt}, rl H1 H2 → K1 H1 → K2 H2 → Φ) : ∀ {a0 b0 : Int32} {G1 G2 : Gt}, rl G1 G2 → w_X11_applies_j14 K1 a0 G1 → w_X11_applies_j14 K2 b0 G2 → b0 = a0 → Φ := by
  intro a0 b0 G1 G2 hG0 h1 h2 e0
  subst e0
  unfold w_X11_applies_j14 at h1 h2
  refine d_X11_fails (fun hG1 h1 h2 => ?_) hG0 h1 h2 rfl rfl
  exact d_X11_applies_j96 hk hG1 h1 h2
set_option maxHeartbeats 4000000 in
set_option maxRecDepth 100000 in
theorem d_X11_applies {Φ : Prop} {K1 K2 : Gt → Prop} (hk : ∀ {H1 H2 : Gt}, rl H1 H2 → K1 H1 → K2 H2 → Φ) : ∀ {a0 b0 a1 b1 a2 b2 : Int32} {G1 G2 : Gt}, rl G1 G2 → w_X11_applies K1 a0 a1 a2 G1 → w_X11_applies K2 b0 b1 b2 G2 → b0 = a0 → b1 = a1 → b2 = a2 → Φ := by
  intro a0 b0 a1 b1 a2 b2 G1 G2 hG0 h1 h2 e0 e1 e2
  subst e0 e1 e2
  unfold w_X11_applies at h1 h2
  rcases pifD rfl h1 h2 with ⟨h1, h2⟩ | ⟨h1, h2⟩
  · exact d_X11_applies_j14 hk hG0 h1 h2 rfl
  · rcases pifD rfl h1 h2 with ⟨h1, h2⟩ | ⟨h1, h2⟩
    · refine d_X11_calls (fun hG2 h1 h2 ev3 => ?_) hG0 h1 h2 rfl
      subst ev3
      rcases pifD rfl h1 h2 with ⟨h1, h2⟩ | ⟨h1, h2⟩
      · exact d_X11_applies_j96 hk hG2 h1 h2
      · replace h1 := h1.2
        replace h2 := h2.2
        replace h1 := h1.2
        replace h2 := h2.2
        refine d_X11_opens (fun hG4 h1 h2 ev5 => ?_) hG2 h1 h2 (by simp only [hG2.c (k := 74) rfl (by decide)])
        subst ev5
        replace h1 := h1.2
        replace h2 := h2.2
        replace h1 := h1.2
        replace h2 := h2.2
        obtain ⟨G6a, eG6a, h1⟩ := h1
        obtain ⟨G6b, eG6b, h2⟩ := h2
        have hG6 : rl G6a G6b := by
          rw [eG6a, eG6b]
          exact rl_gu hG4 (by simp only [hG4.c (k := 48) rfl (by decide), hG2.c (k := 73) rfl (by decide)]) rfl
        replace h1 := h1.2
        replace h2 := h2.2
        refine d_X11_begins (fun hG7 h1 h2 ev8 => ?_) hG6 h1 h2 (by simp only [hG6.c (k := 49) rfl (by decide), hG2.c (k := 73) rfl (by decide)]) rfl rfl rfl
        subst ev8
        exact d_X11_applies_j96 hk hG7 h1 h2
    · exact d_X11_applies_j14 hk hG0 h1 h2 rfl
set_option maxHeartbeats 4000000 in
set_option maxRecDepth 100000 in
theorem d_X11_yields_j39 {Φ : Prop} {K1 K2 : Gt → Prop} (hk : ∀ {H1 H2 : Gt}, rl H1 H2 → K1 H1 → K2 H2 → Φ) : ∀ {a0 b0 : Int32} {G1 G2 : Gt}, rl G1 G2 → w_X11_yields_j39 K1 a0 G1 → w_X11_yields_j39 K2 b0 G2 → b0 = a0 → Φ := by
  intro a0 b0 G1 G2 hG0 h1 h2 e0
  subst e0
  unfold w_X11_yields_j39 at h1 h2
  refine d_X11_fails (fun hG3 h1 h2 => ?_) hG0 h1 h2 rfl rfl
  exact hk hG3 h1 h2
set_option maxHeartbeats 4000000 in
set_option maxRecDepth 100000 in
theorem d_X11_yields {Φ : Prop} {K1 K2 : Gt → Prop} (hk : ∀ {H1 H2 : Gt}, rl H1 H2 → K1 H1 → K2 H2 → Φ) : ∀ {a0 b0 a1 b1 : Int32} {G1 G2 : Gt}, rl G1 G2 → w_X11_yields K1 a0 a1 G1 → w_X11_yields K2 b0 b1 G2 → b0 = a0 → b1 = a1 → Φ := by
  intro a0 b0 a1 b1 G1 G2 hG0 h1 h2 e0 e1
  subst e0 e1
  unfold w_X11_yields at h1 h2
  refine d_X11_bodyOf (fun hG1 h1 h2 ev2 => ?_) hG0 h1 h2 rfl
  subst ev2
  replace h1 := h1.2
  replace h2 := h2.2
  rcases pifD (by simp only [hG1.c (k := 67) rfl (by decide)]) h1 h2 with ⟨h1, h2⟩ | ⟨h1, h2⟩
  · refine d_X11_isBound (fun hG4 h1 h2 ev5 => ?_) hG1 h1 h2 rfl
    subst ev5
    rcases pifD rfl h1 h2 with ⟨h1, h2⟩ | ⟨h1, h2⟩
    · replace h1 := h1.2
      replace h2 := h2.2
      replace h1 := h1.2
      replace h2 := h2.2
      rcases pifD (by simp only [hG4.c (k := 77) rfl (by decide), hG4.c (k := 68) rfl (by decide)]) h1 h2 with ⟨h1, h2⟩ | ⟨h1, h2⟩
      · exact d_X11_yields_j39 hk hG4 h1 h2 rfl
      · replace h1 := h1.2
        replace h2 := h2.2
        replace h1 := h1.2
        replace h2 := h2.2
        obtain ⟨G6a, eG6a, h1⟩ := h1
        obtain ⟨G6b, eG6b, h2⟩ := h2
        have hG6 : rl G6a G6b := by
          rw [eG6a, eG6b]
          exact rl_gu hG4 (by simp only [hG4.c (k := 68) rfl (by decide)]) rfl
        replace h1 := h1.2
        replace h2 := h2.2
        replace h1 := h1.2
        replace h2 := h2.2
        obtain ⟨G7a, eG7a, h1⟩ := h1
        obtain ⟨G7b, eG7b, h2⟩ := h2
        have hG7 : rl G7a G7b := by
          rw [eG7a, eG7b]
          exact rl_gu hG6 (by simp only [hG6.c (k := 68) rfl (by decide)]) rfl
        replace h1 := h1.2
        replace h2 := h2.2
        refine d_X11_comesBack (fun hG8 h1 h2 => ?_) hG7 h1 h2 (by simp only [hG7.c (k := 65) rfl (by decide)])
        replace h1 := h1.2
        replace h2 := h2.2
        refine d_X11_ends (fun hG9 h1 h2 => ?_) hG8 h1 h2 (by simp only [hG8.c (k := 65) rfl (by decide)]) rfl
        exact hk hG9 h1 h2
    · exact d_X11_yields_j39 hk hG4 h1 h2 rfl
  · exact d_X11_yields_j39 hk hG1 h1 h2 rfl
set_option maxHeartbeats 4000000 in
set_option maxRecDepth 100000 in
theorem d_X11_asksOf_j166 {Φ : Prop} {K1 K2 : Gt → Prop} (hk : ∀ {H1 H2 : Gt}, rl H1 H2 → K1 H1 → K2 H2 → Φ) : ∀ {G1 G2 : Gt}, rl G1 G2 → w_X11_asksOf_j166 K1 G1 → w_X11_asksOf_j166 K2 G2 → Φ := by
  intro  G1 G2 hG0 h1 h2 
  unfold w_X11_asksOf_j166 at h1 h2
  exact hk hG0 h1 h2
set_option maxHeartbeats 4000000 in
set_option maxRecDepth 100000 in
theorem d_X11_asksOf_j30 {Φ : Prop} {K1 K2 : Gt → Prop} (hk : ∀ {H1 H2 : Gt}, rl H1 H2 → K1 H1 → K2 H2 → Φ) : ∀ {a0 b0 : Int32} {G1 G2 : Gt}, rl G1 G2 → w_X11_asksOf_j30 K1 a0 G1 → w_X11_asksOf_j30 K2 b0 G2 → b0 = a0 → Φ := by
  intro a0 b0 G1 G2 hG0 h1 h2 e0
  subst e0
  unfold w_X11_asksOf_j30 at h1 h2
  refine d_X11_fails (fun hG1 h1 h2 => ?_) hG0 h1 h2 rfl rfl
  exact d_X11_asksOf_j166 hk hG1 h1 h2
set_option maxHeartbeats 4000000 in
set_option maxRecDepth 100000 in
theorem d_X11_asksOf_j81 {Φ : Prop} {K1 K2 : Gt → Prop} (hk : ∀ {H1 H2 : Gt}, rl H1 H2 → K1 H1 → K2 H2 → Φ) : ∀ {a0 b0 a1 b1 a2 b2 : Int32} {G1 G2 : Gt}, rl G1 G2 → w_X11_asksOf_j81 K1 a0 a1 a2 G1 → w_X11_asksOf_j81 K2 b0 b1 b2 G2 → b0 = a0 → b1 = a1 → b2 = a2 → Φ := by
  intro a0 b0 a1 b1 a2 b2 G1 G2 hG0 h1 h2 e0 e1 e2
  subst e0 e1 e2
  unfold w_X11_asksOf_j81 at h1 h2
  replace h1 := h1.2
  replace h2 := h2.2
  obtain ⟨G4a, eG4a, h1⟩ := h1
  obtain ⟨G4b, eG4b, h2⟩ := h2
  have hG4 : rl G4a G4b := by
    rw [eG4a, eG4b]
    exact rl_gu hG0 rfl rfl
  rcases pifD rfl h1 h2 with ⟨h1, h2⟩ | ⟨h1, h2⟩
  · replace h1 := h1.2
    replace h2 := h2.2
    replace h1 := h1.2
    replace h2 := h2.2
    obtain ⟨G5a, eG5a, h1⟩ := h1
    obtain ⟨G5b, eG5b, h2⟩ := h2
    have hG5 : rl G5a G5b := by
      rw [eG5a, eG5b]
      exact rl_gu hG4 (by simp only [hG4.c (k := 79) rfl (by decide)]) rfl
    replace h1 := h1.2
    replace h2 := h2.2
    refine d_X11_ends (fun hG6 h1 h2 => ?_) hG5 h1 h2 (by simp only [hG5.c (k := 78) rfl (by decide)]) rfl
    exact d_X11_asksOf_j166 hk hG6 h1 h2
  · replace h1 := h1.2
    replace h2 := h2.2
    replace h1 := h1.2
    replace h2 := h2.2
    replace h1 := h1.2
    replace h2 := h2.2
    refine d_X11_opens (fun hG7 h1 h2 ev8 => ?_) hG4 h1 h2 (by simp only [hG4.c (k := 76) rfl (by decide)])
    subst ev8
    refine d_X11_begins (fun hG9 h1 h2 ev10 => ?_) hG7 h1 h2 (by simp only [hG4.c (k := 48) rfl (by decide), hG4.c (k := 75) rfl (by decide)]) rfl rfl rfl
    subst ev10
    replace h1 := h1.2
    replace h2 := h2.2
    obtain ⟨G11a, eG11a, h1⟩ := h1
    obtain ⟨G11b, eG11b, h2⟩ := h2
    have hG11 : rl G11a G11b := by
      rw [eG11a, eG11b]
      exact rl_gu hG9 rfl rfl
    replace h1 := h1.2
    replace h2 := h2.2
    replace h1 := h1.2
    replace h2 := h2.2
    obtain ⟨G12a, eG12a, h1⟩ := h1
    obtain ⟨G12b, eG12b, h2⟩ := h2
    have hG12 : rl G12a G12b := by
      rw [eG12a, eG12b]
      exact rl_gu hG11 (by simp only [hG11.c (k := 79) rfl (by decide)]) rfl
    exact d_X11_asksOf_j166 hk hG12 h1 h2
set_option maxHeartbeats 4000000 in
set_option maxRecDepth 100000 in
theorem d_X11_asksOf {Φ : Prop} {K1 K2 : Gt → Prop} (hk : ∀ {H1 H2 : Gt}, rl H1 H2 → K1 H1 → K2 H2 → Φ) : ∀ {a0 b0 a1 b1 : Int32} {G1 G2 : Gt}, rl G1 G2 → w_X11_asksOf K1 a0 a1 G1 → w_X11_asksOf K2 b0 b1 G2 → b0 = a0 → b1 = a1 → Φ := by
  intro a0 b0 a1 b1 G1 G2 hG0 h1 h2 e0 e1
  subst e0 e1
  unfold w_X11_asksOf at h1 h2
  rcases pifD rfl h1 h2 with ⟨h1, h2⟩ | ⟨h1, h2⟩
  · exact d_X11_asksOf_j30 hk hG0 h1 h2 rfl
  · replace h1 := h1.2
    replace h2 := h2.2
    rcases pifD (by simp only [hG0.c (k := 77) rfl (by decide)]) h1 h2 with ⟨h1, h2⟩ | ⟨h1, h2⟩
    · exact d_X11_asksOf_j30 hk hG0 h1 h2 rfl
    · replace h1 := h1.2
      replace h2 := h2.2
      rcases pifD (by simp only [hG0.c (k := 77) rfl (by decide)]) h1 h2 with ⟨h1, h2⟩ | ⟨h1, h2⟩
      · exact d_X11_asksOf_j30 hk hG0 h1 h2 rfl
      · replace h1 := h1.2
        replace h2 := h2.2
        rcases pifD (by simp only [hG0.c (k := 77) rfl (by decide)]) h1 h2 with ⟨h1, h2⟩ | ⟨h1, h2⟩
        · refine d_X11_ends (fun hG13 h1 h2 => ?_) hG0 h1 h2 rfl rfl
          exact d_X11_asksOf_j166 hk hG13 h1 h2
        · refine d_X11_calls (fun hG2 h1 h2 ev3 => ?_) hG0 h1 h2 rfl
          subst ev3
          rcases pifD rfl h1 h2 with ⟨h1, h2⟩ | ⟨h1, h2⟩
          · exact d_X11_asksOf_j166 hk hG2 h1 h2
          · replace h1 := h1.2
            replace h2 := h2.2
            rcases pifD (by simp only [hG2.c (k := 77) rfl (by decide)]) h1 h2 with ⟨h1, h2⟩ | ⟨h1, h2⟩
            · exact d_X11_asksOf_j81 hk hG2 h1 h2 rfl rfl rfl
            · exact d_X11_asksOf_j81 hk hG2 h1 h2 rfl rfl rfl
set_option maxHeartbeats 4000000 in
set_option maxRecDepth 100000 in
theorem d_X11_putsCursor_j25 {Φ : Prop} {K1 K2 : Gt → Prop} (hk : ∀ {H1 H2 : Gt}, rl H1 H2 → K1 H1 → K2 H2 → Φ) : ∀ {a0 b0 : Int32} {G1 G2 : Gt}, rl G1 G2 → w_X11_putsCursor_j25 K1 a0 G1 → w_X11_putsCursor_j25 K2 b0 G2 → b0 = a0 → Φ := by
  intro a0 b0 G1 G2 hG0 h1 h2 e0
  subst e0
  unfold w_X11_putsCursor_j25 at h1 h2
  refine d_X11_fails (fun hG3 h1 h2 => ?_) hG0 h1 h2 rfl rfl
  exact hk hG3 h1 h2
set_option maxHeartbeats 4000000 in
set_option maxRecDepth 100000 in
theorem d_X11_putsCursor_h35 {Φ : Prop} {K1 K2 : Gt → Prop} (hk : ∀ {H1 H2 : Gt}, rl H1 H2 → K1 H1 → K2 H2 → Φ) : ∀ (i1 i2 : Nat) {a0 b0 a1 b1 a2 b2 : Int32} {G1 G2 : Gt}, rl G1 G2 → w_X11_putsCursor_h35 K1 i1 a0 a1 a2 G1 → w_X11_putsCursor_h35 K2 i2 b0 b1 b2 G2 → b0 = a0 → b1 = a1 → b2 = a2 → Φ := by
  intro i1
  induction i1 with
  | zero =>
    intro i2 a0 b0 a1 b1 a2 b2 G1 G2 hG0 h1 h2 e0 e1 e2
    exact h1.elim
  | succ i1 ih =>
    intro i2 a0 b0 a1 b1 a2 b2 G1 G2 hG0 h1 h2 e0 e1 e2
    subst e0 e1 e2
    cases i2 with
    | zero => exact h2.elim
    | succ i2 =>
      rw [w_X11_putsCursor_h35] at h1 h2
      replace h1 := h1.2
      replace h2 := h2.2
      rcases pifD (by simp only [hG0.c (k := 60) rfl (by decide), hG0.s (j := 14) (by decide)]) h1 h2 with ⟨h1, h2⟩ | ⟨h1, h2⟩
      · replace h1 := h1.2
        replace h2 := h2.2
        obtain ⟨G6a, eG6a, h1⟩ := h1
        obtain ⟨G6b, eG6b, h2⟩ := h2
        have hG6 : rl G6a G6b := by
          rw [eG6a, eG6b]
          exact rl_gu hG0 (by simp only [hG0.s (j := 14) (by decide)]) rfl
        refine d_X11_ends (fun hG7 h1 h2 => ?_) hG6 h1 h2 rfl rfl
        exact hk hG7 h1 h2
      · exact ih _ hG0 h1 h2 rfl rfl rfl
set_option maxHeartbeats 4000000 in
set_option maxRecDepth 100000 in
theorem d_X11_putsCursor {Φ : Prop} {K1 K2 : Gt → Prop} (hk : ∀ {H1 H2 : Gt}, rl H1 H2 → K1 H1 → K2 H2 → Φ) : ∀ {a0 b0 a1 b1 : Int32} {G1 G2 : Gt}, rl G1 G2 → w_X11_putsCursor K1 a0 a1 G1 → w_X11_putsCursor K2 b0 b1 G2 → b0 = a0 → b1 = a1 → Φ := by
  intro a0 b0 a1 b1 G1 G2 hG0 h1 h2 e0 e1
  subst e0 e1
  unfold w_X11_putsCursor at h1 h2
  replace h1 := h1.2
  replace h2 := h2.2
  refine d_X11_in (fun hG1 h1 h2 ev2 => ?_) hG0 h1 h2 rfl rfl (by simp only [hG0.c (k := 59) rfl (by decide), hG0.s (j := 14) (by decide)])
  subst ev2
  rcases pifD rfl h1 h2 with ⟨h1, h2⟩ | ⟨h1, h2⟩
  · exact d_X11_putsCursor_j25 hk hG1 h1 h2 rfl
  · refine d_X11_places (fun hG4 h1 h2 ev5 => ?_) hG1 h1 h2
    subst ev5
    rcases pifD rfl h1 h2 with ⟨h1, h2⟩ | ⟨h1, h2⟩
    · exact d_X11_putsCursor_j25 hk hG4 h1 h2 rfl
    · obtain ⟨i1, h1⟩ := h1
      obtain ⟨i2, h2⟩ := h2
      exact d_X11_putsCursor_h35 hk _ _ hG4 h1 h2 rfl rfl rfl
set_option maxHeartbeats 4000000 in
set_option maxRecDepth 100000 in
theorem d_X11_callsSlot_j70 {Φ : Prop} {K1 K2 : Gt → Prop} (hk : ∀ {H1 H2 : Gt}, rl H1 H2 → K1 H1 → K2 H2 → Φ) : ∀ {a0 b0 a1 b1 : Int32} {G1 G2 : Gt}, rl G1 G2 → w_X11_callsSlot_j70 K1 a0 a1 G1 → w_X11_callsSlot_j70 K2 b0 b1 G2 → b0 = a0 → b1 = a1 → Φ := by
  intro a0 b0 a1 b1 G1 G2 hG0 h1 h2 e0 e1
  subst e0 e1
  unfold w_X11_callsSlot_j70 at h1 h2
  refine d_X11_fails (fun hG2 h1 h2 => ?_) hG0 h1 h2 rfl rfl
  exact hk hG2 h1 h2
set_option maxHeartbeats 4000000 in
set_option maxRecDepth 100000 in
theorem d_X11_callsSlot_j49 {Φ : Prop} {K1 K2 : Gt → Prop} (hk : ∀ {H1 H2 : Gt}, rl H1 H2 → K1 H1 → K2 H2 → Φ) : ∀ {a0 b0 a1 b1 a2 b2 : Int32} {G1 G2 : Gt}, rl G1 G2 → w_X11_callsSlot_j49 K1 a0 a1 a2 G1 → w_X11_callsSlot_j49 K2 b0 b1 b2 G2 → b0 = a0 → b1 = a1 → b2 = a2 → Φ := by
  intro a0 b0 a1 b1 a2 b2 G1 G2 hG0 h1 h2 e0 e1 e2
  subst e0 e1 e2
  unfold w_X11_callsSlot_j49 at h1 h2
  replace h1 := h1.2
  replace h2 := h2.2
  obtain ⟨G1a, eG1a, h1⟩ := h1
  obtain ⟨G1b, eG1b, h2⟩ := h2
  have hG1 : rl G1a G1b := by
    rw [eG1a, eG1b]
    exact rl_gu hG0 rfl rfl
  replace h1 := h1.2
  replace h2 := h2.2
  rcases pifD (by simp only [hG1.c (k := 54) rfl (by decide)]) h1 h2 with ⟨h1, h2⟩ | ⟨h1, h2⟩
  · exact d_X11_callsSlot_j70 hk hG1 h1 h2 rfl rfl
  · exact d_X11_callsSlot_j70 hk hG1 h1 h2 rfl rfl
set_option maxHeartbeats 4000000 in
set_option maxRecDepth 100000 in
theorem d_X11_callsSlot_j48 {Φ : Prop} {K1 K2 : Gt → Prop} (hk : ∀ {H1 H2 : Gt}, rl H1 H2 → K1 H1 → K2 H2 → Φ) : ∀ {a0 b0 a1 b1 : Int32} {G1 G2 : Gt}, rl G1 G2 → w_X11_callsSlot_j48 K1 a0 a1 G1 → w_X11_callsSlot_j48 K2 b0 b1 G2 → b0 = a0 → b1 = a1 → Φ := by
  intro a0 b0 a1 b1 G1 G2 hG0 h1 h2 e0 e1
  subst e0 e1
  unfold w_X11_callsSlot_j48 at h1 h2
  exact d_X11_callsSlot_j49 hk hG0 h1 h2 rfl rfl rfl
set_option maxHeartbeats 4000000 in
set_option maxRecDepth 100000 in
theorem d_X11_callsSlot_j20 {Φ : Prop} {K1 K2 : Gt → Prop} (hk : ∀ {H1 H2 : Gt}, rl H1 H2 → K1 H1 → K2 H2 → Φ) : ∀ {a0 b0 a1 b1 : Int32} {G1 G2 : Gt}, rl G1 G2 → w_X11_callsSlot_j20 K1 a0 a1 G1 → w_X11_callsSlot_j20 K2 b0 b1 G2 → b0 = a0 → b1 = a1 → Φ := by
  intro a0 b0 a1 b1 G1 G2 hG0 h1 h2 e0 e1
  subst e0 e1
  unfold w_X11_callsSlot_j20 at h1 h2
  rcases pifD (by simp only [hG0.s (j := 51) (by decide)]) h1 h2 with ⟨h1, h2⟩ | ⟨h1, h2⟩
  · exact d_X11_callsSlot_j48 hk hG0 h1 h2 rfl rfl
  · replace h1 := h1.2
    replace h2 := h2.2
    replace h1 := h1.2
    replace h2 := h2.2
    rcases pifD (by simp only [hG0.c (k := 47) rfl (by decide), hG0.c (k := 64) rfl (by decide)]) h1 h2 with ⟨h1, h2⟩ | ⟨h1, h2⟩
    · exact d_X11_callsSlot_j48 hk hG0 h1 h2 rfl rfl
    · exact d_X11_callsSlot_j49 hk hG0 h1 h2 rfl rfl rfl
set_option maxHeartbeats 4000000 in
set_option maxRecDepth 100000 in
theorem d_X11_callsSlot_j215 {Φ : Prop} {K1 K2 : Gt → Prop} (hk : ∀ {H1 H2 : Gt}, rl H1 H2 → K1 H1 → K2 H2 → Φ) : ∀ {G1 G2 : Gt}, rl G1 G2 → w_X11_callsSlot_j215 K1 G1 → w_X11_callsSlot_j215 K2 G2 → Φ := by
  intro  G1 G2 hG0 h1 h2 
  unfold w_X11_callsSlot_j215 at h1 h2
  exact hk hG0 h1 h2
set_option maxHeartbeats 4000000 in
set_option maxRecDepth 100000 in
theorem d_X11_callsSlot_j209 {Φ : Prop} {K1 K2 : Gt → Prop} (hk : ∀ {H1 H2 : Gt}, rl H1 H2 → K1 H1 → K2 H2 → Φ) : ∀ {a0 b0 a1 b1 : Int32} {G1 G2 : Gt}, rl G1 G2 → w_X11_callsSlot_j209 K1 a0 a1 G1 → w_X11_callsSlot_j209 K2 b0 b1 G2 → b0 = a0 → b1 = a1 → Φ := by
  intro a0 b0 a1 b1 G1 G2 hG0 h1 h2 e0 e1
  subst e0 e1
  unfold w_X11_callsSlot_j209 at h1 h2
  refine d_X11_enters (fun hG6 h1 h2 => ?_) hG0 h1 h2 rfl rfl
  exact d_X11_callsSlot_j215 hk hG6 h1 h2
set_option maxHeartbeats 4000000 in
set_option maxRecDepth 100000 in
theorem d_X11_callsSlot_j151 {Φ : Prop} {K1 K2 : Gt → Prop} (hk : ∀ {H1 H2 : Gt}, rl H1 H2 → K1 H1 → K2 H2 → Φ) : ∀ {a0 b0 a1 b1 a2 b2 a3 b3 : Int32} {G1 G2 : Gt}, rl G1 G2 → w_X11_callsSlot_j151 K1 a0 a1 a2 a3 G1 → w_X11_callsSlot_j151 K2 b0 b1 b2 b3 G2 → b0 = a0 → b1 = a1 → b2 = a2 → b3 = a3 → Φ := by
  intro a0 b0 a1 b1 a2 b2 a3 b3 G1 G2 hG0 h1 h2 e0 e1 e2 e3
  subst e0 e1 e2 e3
  unfold w_X11_callsSlot_j151 at h1 h2
  replace h1 := h1.2
  replace h2 := h2.2
  rcases pifD (by simp only [hG0.c (k := 53) rfl (by decide)]) h1 h2 with ⟨h1, h2⟩ | ⟨h1, h2⟩
  · rcases pifD rfl h1 h2 with ⟨h1, h2⟩ | ⟨h1, h2⟩
    · exact d_X11_callsSlot_j209 hk hG0 h1 h2 rfl rfl
    · replace h1 := h1.2
      replace h2 := h2.2
      rcases pifD (by simp only [hG0.c (k := 55) rfl (by decide)]) h1 h2 with ⟨h1, h2⟩ | ⟨h1, h2⟩
      · exact d_X11_callsSlot_j209 hk hG0 h1 h2 rfl rfl
      · replace h1 := h1.2
        replace h2 := h2.2
        obtain ⟨G7a, eG7a, h1⟩ := h1
        obtain ⟨G7b, eG7b, h2⟩ := h2
        have hG7 : rl G7a G7b := by
          rw [eG7a, eG7b]
          exact rl_gu hG0 rfl rfl
        replace h1 := h1.2
        replace h2 := h2.2
        refine d_X11_begins (fun hG8 h1 h2 ev9 => ?_) hG7 h1 h2 (by simp only [hG7.c (k := 55) rfl (by decide)]) rfl rfl rfl
        subst ev9
        exact d_X11_callsSlot_j215 hk hG8 h1 h2
  · exact d_X11_callsSlot_j209 hk hG0 h1 h2 rfl rfl
set_option maxHeartbeats 4000000 in
set_option maxRecDepth 100000 in
theorem d_X11_callsSlot_j150 {Φ : Prop} {K1 K2 : Gt → Prop} (hk : ∀ {H1 H2 : Gt}, rl H1 H2 → K1 H1 → K2 H2 → Φ) : ∀ {a0 b0 a1 b1 a2 b2 a3 b3 a4 b4 a5 b5 : Int32} {G1 G2 : Gt}, rl G1 G2 → w_X11_callsSlot_j150 K1 a0 a1 a2 a3 a4 a5 G1 → w_X11_callsSlot_j150 K2 b0 b1 b2 b3 b4 b5 G2 → b0 = a0 → b1 = a1 → b2 = a2 → b3 = a3 → b4 = a4 → b5 = a5 → Φ := by
  intro a0 b0 a1 b1 a2 b2 a3 b3 a4 b4 a5 b5 G1 G2 hG0 h1 h2 e0 e1 e2 e3 e4 e5
  subst e0 e1 e2 e3 e4 e5
  unfold w_X11_callsSlot_j150 at h1 h2
  replace h1 := h1.2
  replace h2 := h2.2
  obtain ⟨G10a, eG10a, h1⟩ := h1
  obtain ⟨G10b, eG10b, h2⟩ := h2
  have hG10 : rl G10a G10b := by
    rw [eG10a, eG10b]
    exact rl_gu hG0 rfl rfl
  exact d_X11_callsSlot_j151 hk hG10 h1 h2 rfl rfl rfl rfl
set_option maxHeartbeats 4000000 in
set_option maxRecDepth 100000 in
theorem d_X11_callsSlot_j118 {Φ : Prop} {K1 K2 : Gt → Prop} (hk : ∀ {H1 H2 : Gt}, rl H1 H2 → K1 H1 → K2 H2 → Φ) : ∀ {a0 b0 a1 b1 a2 b2 a3 b3 a4 b4 : Int32} {G1 G2 : Gt}, rl G1 G2 → w_X11_callsSlot_j118 K1 a0 a1 a2 a3 a4 G1 → w_X11_callsSlot_j118 K2 b0 b1 b2 b3 b4 G2 → b0 = a0 → b1 = a1 → b2 = a2 → b3 = a3 → b4 = a4 → Φ := by
  intro a0 b0 a1 b1 a2 b2 a3 b3 a4 b4 G1 G2 hG0 h1 h2 e0 e1 e2 e3 e4
  subst e0 e1 e2 e3 e4
  unfold w_X11_callsSlot_j118 at h1 h2
  replace h1 := h1.2
  replace h2 := h2.2
  rcases pifD (by simp only [hG0.c (k := 53) rfl (by decide)]) h1 h2 with ⟨h1, h2⟩ | ⟨h1, h2⟩
  · rcases pifD rfl h1 h2 with ⟨h1, h2⟩ | ⟨h1, h2⟩
    · exact d_X11_callsSlot_j150 hk hG0 h1 h2 rfl rfl rfl rfl rfl rfl
    · exact d_X11_callsSlot_j150 hk hG0 h1 h2 rfl rfl rfl rfl rfl rfl
  · exact d_X11_callsSlot_j151 hk hG0 h1 h2 rfl rfl rfl rfl
set_option maxHeartbeats 4000000 in
set_option maxRecDepth 100000 in
theorem d_X11_callsSlot_j117 {Φ : Prop} {K1 K2 : Gt → Prop} (hk : ∀ {H1 H2 : Gt}, rl H1 H2 → K1 H1 → K2 H2 → Φ) : ∀ {a0 b0 a1 b1 a2 b2 a3 b3 a4 b4 a5 b5 a6 b6 : Int32} {G1 G2 : Gt}, rl G1 G2 → w_X11_callsSlot_j117 K1 a0 a1 a2 a3 a4 a5 a6 G1 → w_X11_callsSlot_j117 K2 b0 b1 b2 b3 b4 b5 b6 G2 → b0 = a0 → b1 = a1 → b2 = a2 → b3 = a3 → b4 = a4 → b5 = a5 → b6 = a6 → Φ := by
  intro a0 b0 a1 b1 a2 b2 a3 b3 a4 b4 a5 b5 a6 b6 G1 G2 hG0 h1 h2 e0 e1 e2 e3 e4 e5 e6
  subst e0 e1 e2 e3 e4 e5 e6
  unfold w_X11_callsSlot_j117 at h1 h2
  replace h1 := h1.2
  replace h2 := h2.2
  obtain ⟨G11a, eG11a, h1⟩ := h1
  obtain ⟨G11b, eG11b, h2⟩ := h2
  have hG11 : rl G11a G11b := by
    rw [eG11a, eG11b]
    exact rl_gu hG0 rfl rfl
  exact d_X11_callsSlot_j118 hk hG11 h1 h2 rfl rfl rfl rfl rfl
set_option maxHeartbeats 4000000 in
set_option maxRecDepth 100000 in
theorem d_X11_callsSlot {Φ : Prop} {K1 K2 : Gt → Prop} (hk : ∀ {H1 H2 : Gt}, rl H1 H2 → K1 H1 → K2 H2 → Φ) : ∀ {a0 b0 a1 b1 a2 b2 a3 b3 a4 b4 : Int32} {G1 G2 : Gt}, rl G1 G2 → w_X11_callsSlot K1 a0 a1 a2 a3 a4 G1 → w_X11_callsSlot K2 b0 b1 b2 b3 b4 G2 → b0 = a0 → b1 = a1 → b2 = a2 → b3 = a3 → b4 = a4 → Φ := by
  intro a0 b0 a1 b1 a2 b2 a3 b3 a4 b4 G1 G2 hG0 h1 h2 e0 e1 e2 e3 e4
  subst e0 e1 e2 e3 e4
  unfold w_X11_callsSlot at h1 h2
  replace h1 := h1.2
  replace h2 := h2.2
  rcases pifD (by simp only [hG0.c (k := 54) rfl (by decide)]) h1 h2 with ⟨h1, h2⟩ | ⟨h1, h2⟩
  · exact d_X11_callsSlot_j20 hk hG0 h1 h2 rfl rfl
  · replace h1 := h1.2
    replace h2 := h2.2
    rcases pifD (by simp only [hG0.c (k := 53) rfl (by decide)]) h1 h2 with ⟨h1, h2⟩ | ⟨h1, h2⟩
    · refine d_X11_opens (fun hG3 h1 h2 ev4 => ?_) hG0 h1 h2 rfl
      subst ev4
      replace h1 := h1.2
      replace h2 := h2.2
      obtain ⟨G5a, eG5a, h1⟩ := h1
      obtain ⟨G5b, eG5b, h2⟩ := h2
      have hG5 : rl G5a G5b := by
        rw [eG5a, eG5b]
        exact rl_gu hG3 rfl rfl
      replace h1 := h1.2
      replace h2 := h2.2
      rcases pifD (by simp only [hG5.c (k := 53) rfl (by decide)]) h1 h2 with ⟨h1, h2⟩ | ⟨h1, h2⟩
      · exact d_X11_callsSlot_j118 hk hG5 h1 h2 rfl rfl rfl rfl rfl
      · rcases pifD rfl h1 h2 with ⟨h1, h2⟩ | ⟨h1, h2⟩
        · exact d_X11_callsSlot_j117 hk hG5 h1 h2 rfl rfl rfl rfl rfl rfl rfl
        · exact d_X11_callsSlot_j117 hk hG5 h1 h2 rfl rfl rfl rfl rfl rfl rfl
    · exact d_X11_callsSlot_j20 hk hG0 h1 h2 rfl rfl
set_option maxHeartbeats 4000000 in
set_option maxRecDepth 100000 in
theorem d_X11_bodyEnds_j256 {Φ : Prop} {K1 K2 : Gt → Prop} (hk : ∀ {H1 H2 : Gt}, rl H1 H2 → K1 H1 → K2 H2 → Φ) : ∀ {G1 G2 : Gt}, rl G1 G2 → w_X11_bodyEnds_j256 K1 G1 → w_X11_bodyEnds_j256 K2 G2 → Φ := by
  intro  G1 G2 hG0 h1 h2 
  unfold w_X11_bodyEnds_j256 at h1 h2
  exact hk hG0 h1 h2
set_option maxHeartbeats 4000000 in
set_option maxRecDepth 100000 in
theorem d_X11_bodyEnds_j158 {Φ : Prop} {K1 K2 : Gt → Prop} (hk : ∀ {H1 H2 : Gt}, rl H1 H2 → K1 H1 → K2 H2 → Φ) : ∀ {a0 b0 a1 b1 : Int32} {G1 G2 : Gt}, rl G1 G2 → w_X11_bodyEnds_j158 K1 a0 a1 G1 → w_X11_bodyEnds_j158 K2 b0 b1 G2 → b0 = a0 → b1 = a1 → Φ := by
  intro a0 b0 a1 b1 G1 G2 hG0 h1 h2 e0 e1
  subst e0 e1
  unfold w_X11_bodyEnds_j158 at h1 h2
  refine d_X11_ends (fun hG7 h1 h2 => ?_) hG0 h1 h2 rfl rfl
  exact d_X11_bodyEnds_j256 hk hG7 h1 h2
set_option maxHeartbeats 4000000 in
set_option maxRecDepth 100000 in
theorem d_X11_bodyEnds_j113 {Φ : Prop} {K1 K2 : Gt → Prop} (hk : ∀ {H1 H2 : Gt}, rl H1 H2 → K1 H1 → K2 H2 → Φ) : ∀ {a0 b0 a1 b1 a2 b2 : Int32} {G1 G2 : Gt}, rl G1 G2 → w_X11_bodyEnds_j113 K1 a0 a1 a2 G1 → w_X11_bodyEnds_j113 K2 b0 b1 b2 G2 → b0 = a0 → b1 = a1 → b2 = a2 → Φ := by
  intro a0 b0 a1 b1 a2 b2 G1 G2 hG0 h1 h2 e0 e1 e2
  subst e0 e1 e2
  unfold w_X11_bodyEnds_j113 at h1 h2
  replace h1 := h1.2
  replace h2 := h2.2
  obtain ⟨G4a, eG4a, h1⟩ := h1
  obtain ⟨G4b, eG4b, h2⟩ := h2
  have hG4 : rl G4a G4b := by
    rw [eG4a, eG4b]
    exact rl_gu hG0 rfl rfl
  refine d_X11_comesBack (fun hG5 h1 h2 => ?_) hG4 h1 h2 rfl
  replace h1 := h1.2
  replace h2 := h2.2
  obtain ⟨G6a, eG6a, h1⟩ := h1
  obtain ⟨G6b, eG6b, h2⟩ := h2
  have hG6 : rl G6a G6b := by
    rw [eG6a, eG6b]
    exact rl_gu hG5 rfl (by simp only [hG5.c (k := 65) rfl (by decide)])
  rcases pifD (by simp only [hG6.s (j := 41) (by decide)]) h1 h2 with ⟨h1, h2⟩ | ⟨h1, h2⟩
  · exact d_X11_bodyEnds_j256 hk hG6 h1 h2
  · rcases pifD rfl h1 h2 with ⟨h1, h2⟩ | ⟨h1, h2⟩
    · exact d_X11_bodyEnds_j158 hk hG6 h1 h2 rfl (by simp only [hG6.s (j := 42) (by decide)])
    · replace h1 := h1.2
      replace h2 := h2.2
      exact d_X11_bodyEnds_j158 hk hG6 h1 h2 rfl (by simp only [hG6.c (k := 68) rfl (by decide)])
set_option maxHeartbeats 4000000 in
set_option maxRecDepth 100000 in
theorem d_X11_bodyEnds_j112 {Φ : Prop} {K1 K2 : Gt → Prop} (hk : ∀ {H1 H2 : Gt}, rl H1 H2 → K1 H1 → K2 H2 → Φ) : ∀ {a0 b0 a1 b1 : Int32} {G1 G2 : Gt}, rl G1 G2 → w_X11_bodyEnds_j112 K1 a0 a1 G1 → w_X11_bodyEnds_j112 K2 b0 b1 G2 → b0 = a0 → b1 = a1 → Φ := by
  intro a0 b0 a1 b1 G1 G2 hG0 h1 h2 e0 e1
  subst e0 e1
  unfold w_X11_bodyEnds_j112 at h1 h2
  exact d_X11_bodyEnds_j113 hk hG0 h1 h2 rfl rfl rfl
set_option maxHeartbeats 4000000 in
set_option maxRecDepth 100000 in
theorem d_X11_bodyEnds_j95 {Φ : Prop} {K1 K2 : Gt → Prop} (hk : ∀ {H1 H2 : Gt}, rl H1 H2 → K1 H1 → K2 H2 → Φ) : ∀ {a0 b0 a1 b1 : Int32} {G1 G2 : Gt}, rl G1 G2 → w_X11_bodyEnds_j95 K1 a0 a1 G1 → w_X11_bodyEnds_j95 K2 b0 b1 G2 → b0 = a0 → b1 = a1 → Φ := by
  intro a0 b0 a1 b1 G1 G2 hG0 h1 h2 e0 e1
  subst e0 e1
  unfold w_X11_bodyEnds_j95 at h1 h2
  rcases pifD (by simp only [hG0.s (j := 51) (by decide)]) h1 h2 with ⟨h1, h2⟩ | ⟨h1, h2⟩
  · exact d_X11_bodyEnds_j112 hk hG0 h1 h2 rfl rfl
  · rcases pifD rfl h1 h2 with ⟨h1, h2⟩ | ⟨h1, h2⟩
    · exact d_X11_bodyEnds_j113 hk hG0 h1 h2 rfl rfl rfl
    · exact d_X11_bodyEnds_j112 hk hG0 h1 h2 rfl rfl
set_option maxHeartbeats 4000000 in
set_option maxRecDepth 100000 in
theorem d_X11_bodyEnds_j201 {Φ : Prop} {K1 K2 : Gt → Prop} (hk : ∀ {H1 H2 : Gt}, rl H1 H2 → K1 H1 → K2 H2 → Φ) : ∀ {a0 b0 a1 b1 : Int32} {G1 G2 : Gt}, rl G1 G2 → w_X11_bodyEnds_j201 K1 a0 a1 G1 → w_X11_bodyEnds_j201 K2 b0 b1 G2 → b0 = a0 → b1 = a1 → Φ := by
  intro a0 b0 a1 b1 G1 G2 hG0 h1 h2 e0 e1
  subst e0 e1
  unfold w_X11_bodyEnds_j201 at h1 h2
  replace h1 := h1.2
  replace h2 := h2.2
  obtain ⟨G12a, eG12a, h1⟩ := h1
  obtain ⟨G12b, eG12b, h2⟩ := h2
  have hG12 : rl G12a G12b := by
    rw [eG12a, eG12b]
    exact rl_gu hG0 rfl rfl
  replace h1 := h1.2
  replace h2 := h2.2
  obtain ⟨G13a, eG13a, h1⟩ := h1
  obtain ⟨G13b, eG13b, h2⟩ := h2
  have hG13 : rl G13a G13b := by
    rw [eG13a, eG13b]
    exact rl_gu hG12 rfl (by simp only [hG12.c (k := 65) rfl (by decide)])
  exact d_X11_bodyEnds_j256 hk hG13 h1 h2
set_option maxHeartbeats 4000000 in
set_option maxRecDepth 100000 in
theorem d_X11_bodyEnds_j200 {Φ : Prop} {K1 K2 : Gt → Prop} (hk : ∀ {H1 H2 : Gt}, rl H1 H2 → K1 H1 → K2 H2 → Φ) : ∀ {a0 b0 : Int32} {G1 G2 : Gt}, rl G1 G2 → w_X11_bodyEnds_j200 K1 a0 G1 → w_X11_bodyEnds_j200 K2 b0 G2 → b0 = a0 → Φ := by
  intro a0 b0 G1 G2 hG0 h1 h2 e0
  subst e0
  unfold w_X11_bodyEnds_j200 at h1 h2
  exact d_X11_bodyEnds_j201 hk hG0 h1 h2 rfl rfl
set_option maxHeartbeats 4000000 in
set_option maxRecDepth 100000 in
theorem d_X11_bodyEnds_j250 {Φ : Prop} {K1 K2 : Gt → Prop} (hk : ∀ {H1 H2 : Gt}, rl H1 H2 → K1 H1 → K2 H2 → Φ) : ∀ {a0 b0 a1 b1 : Int32} {G1 G2 : Gt}, rl G1 G2 → w_X11_bodyEnds_j250 K1 a0 a1 G1 → w_X11_bodyEnds_j250 K2 b0 b1 G2 → b0 = a0 → b1 = a1 → Φ := by
  intro a0 b0 a1 b1 G1 G2 hG0 h1 h2 e0 e1
  subst e0 e1
  unfold w_X11_bodyEnds_j250 at h1 h2
  refine d_X11_generatorEnds (fun hG14 h1 h2 => ?_) hG0 h1 h2 rfl rfl
  exact d_X11_bodyEnds_j256 hk hG14 h1 h2
set_option maxHeartbeats 4000000 in
set_option maxRecDepth 100000 in
theorem d_X11_bodyEnds {Φ : Prop} {K1 K2 : Gt → Prop} (hk : ∀ {H1 H2 : Gt}, rl H1 H2 → K1 H1 → K2 H2 → Φ) : ∀ {a0 b0 : Int32} {G1 G2 : Gt}, rl G1 G2 → w_X11_bodyEnds K1 a0 G1 → w_X11_bodyEnds K2 b0 G2 → b0 = a0 → Φ := by
  intro a0 b0 G1 G2 hG0 h1 h2 e0
  subst e0
  unfold w_X11_bodyEnds at h1 h2
  replace h1 := h1.2
  replace h2 := h2.2
  replace h1 := h1.2
  replace h2 := h2.2
  rcases pifD (by simp only [hG0.c (k := 67) rfl (by decide)]) h1 h2 with ⟨h1, h2⟩ | ⟨h1, h2⟩
  · rcases pifD (by simp only [hG0.s (j := 41) (by decide)]) h1 h2 with ⟨h1, h2⟩ | ⟨h1, h2⟩
    · refine d_X11_stops (fun hG3 h1 h2 => ?_) hG0 h1 h2
      exact d_X11_bodyEnds_j256 hk hG3 h1 h2
    · obtain ⟨G1a, eG1a, h1⟩ := h1
      obtain ⟨G1b, eG1b, h2⟩ := h2
      have hG1 : rl G1a G1b := by
        rw [eG1a, eG1b]
        exact rl_gu hG0 rfl (by simp only [hG0.s (j := 42) (by decide)])
      refine d_X11_closes (fun hG2 h1 h2 => ?_) hG1 h1 h2
      exact d_X11_bodyEnds_j256 hk hG2 h1 h2
  · rcases pifD (by simp only [hG0.c (k := 67) rfl (by decide)]) h1 h2 with ⟨h1, h2⟩ | ⟨h1, h2⟩
    · replace h1 := h1.2
      replace h2 := h2.2
      replace h1 := h1.2
      replace h2 := h2.2
      rcases pifD (by simp only [hG0.c (k := 47) rfl (by decide), hG0.c (k := 64) rfl (by decide), hG0.c (k := 65) rfl (by decide)]) h1 h2 with ⟨h1, h2⟩ | ⟨h1, h2⟩
      · exact d_X11_bodyEnds_j95 hk hG0 h1 h2 (by simp only [hG0.c (k := 65) rfl (by decide)]) rfl
      · exact d_X11_bodyEnds_j95 hk hG0 h1 h2 (by simp only [hG0.c (k := 65) rfl (by decide)]) rfl
    · rcases pifD (by simp only [hG0.c (k := 67) rfl (by decide)]) h1 h2 with ⟨h1, h2⟩ | ⟨h1, h2⟩
      · rcases pifD (by simp only [hG0.s (j := 41) (by decide)]) h1 h2 with ⟨h1, h2⟩ | ⟨h1, h2⟩
        · rcases pifD (by simp only [hG0.s (j := 51) (by decide)]) h1 h2 with ⟨h1, h2⟩ | ⟨h1, h2⟩
          · exact d_X11_bodyEnds_j200 hk hG0 h1 h2 (by simp only [hG0.c (k := 65) rfl (by decide)])
          · replace h1 := h1.2
            replace h2 := h2.2
            replace h1 := h1.2
            replace h2 := h2.2
            rcases pifD (by simp only [hG0.c (k := 47) rfl (by decide), hG0.c (k := 64) rfl (by decide), hG0.c (k := 65) rfl (by decide)]) h1 h2 with ⟨h1, h2⟩ | ⟨h1, h2⟩
            · exact d_X11_bodyEnds_j200 hk hG0 h1 h2 (by simp only [hG0.c (k := 65) rfl (by decide)])
            · exact d_X11_bodyEnds_j201 hk hG0 h1 h2 (by simp only [hG0.c (k := 65) rfl (by decide)]) rfl
        · replace h1 := h1.2
          replace h2 := h2.2
          replace h1 := h1.2
          replace h2 := h2.2
          obtain ⟨G8a, eG8a, h1⟩ := h1
          obtain ⟨G8b, eG8b, h2⟩ := h2
          have hG8 : rl G8a G8b := by
            rw [eG8a, eG8b]
            exact rl_gu hG0 (by simp only [hG0.c (k := 69) rfl (by decide), hG0.c (k := 65) rfl (by decide)]) (by simp only [hG0.s (j := 42) (by decide)])
          refine d_X11_slotOf (fun hG9 h1 h2 ev10 => ?_) hG8 h1 h2 (by simp only [hG0.c (k := 65) rfl (by decide)])
          subst ev10
          refine d_X11_enters (fun hG11 h1 h2 => ?_) hG9 h1 h2 (by simp only [hG0.c (k := 65) rfl (by decide)]) rfl
          exact d_X11_bodyEnds_j256 hk hG11 h1 h2
      · exact d_X11_bodyEnds_j250 hk hG0 h1 h2 rfl (by simp only [hG0.c (k := 65) rfl (by decide)])
set_option maxHeartbeats 4000000 in
set_option maxRecDepth 100000 in
theorem d_X11_reckons_j83 {Φ : Prop} {K1 K2 : Gt → Prop} (hk : ∀ {H1 H2 : Gt}, rl H1 H2 → K1 H1 → K2 H2 → Φ) : ∀ {G1 G2 : Gt}, rl G1 G2 → w_X11_reckons_j83 K1 G1 → w_X11_reckons_j83 K2 G2 → Φ := by
  intro  G1 G2 hG0 h1 h2 
  unfold w_X11_reckons_j83 at h1 h2
  exact hk hG0 h1 h2
set_option maxHeartbeats 4000000 in
set_option maxRecDepth 100000 in
theorem d_X11_reckons_j40 {Φ : Prop} {K1 K2 : Gt → Prop} (hk : ∀ {H1 H2 : Gt}, rl H1 H2 → K1 H1 → K2 H2 → Φ) : ∀ {a0 b0 : Int32} {G1 G2 : Gt}, rl G1 G2 → w_X11_reckons_j40 K1 a0 G1 → w_X11_reckons_j40 K2 b0 G2 → b0 = a0 → Φ := by
  intro a0 b0 G1 G2 hG0 h1 h2 e0
  subst e0
  unfold w_X11_reckons_j40 at h1 h2
  refine d_X11_fails (fun hG3 h1 h2 => ?_) hG0 h1 h2 rfl rfl
  exact d_X11_reckons_j83 hk hG3 h1 h2
set_option maxHeartbeats 4000000 in
set_option maxRecDepth 100000 in
theorem d_X11_reckons_j71 {Φ : Prop} {K1 K2 : Gt → Prop} (hk : ∀ {H1 H2 : Gt}, rl H1 H2 → K1 H1 → K2 H2 → Φ) : ∀ {a0 b0 a1 b1 a2 b2 a3 b3 : Int32} {G1 G2 : Gt}, rl G1 G2 → w_X11_reckons_j71 K1 a0 a1 a2 a3 G1 → w_X11_reckons_j71 K2 b0 b1 b2 b3 G2 → b0 = a0 → b1 = a1 → b2 = a2 → b3 = a3 → Φ := by
  intro a0 b0 a1 b1 a2 b2 a3 b3 G1 G2 hG0 h1 h2 e0 e1 e2 e3
  subst e0 e1 e2 e3
  unfold w_X11_reckons_j71 at h1 h2
  refine d_X11_makes (fun hG6 h1 h2 ev7 => ?_) hG0 h1 h2 rfl rfl rfl
  subst ev7
  refine d_X11_ends (fun hG8 h1 h2 => ?_) hG6 h1 h2 rfl rfl
  exact d_X11_reckons_j83 hk hG8 h1 h2
set_option maxHeartbeats 4000000 in
set_option maxRecDepth 100000 in
theorem d_X11_reckons_j19 {Φ : Prop} {K1 K2 : Gt → Prop} (hk : ∀ {H1 H2 : Gt}, rl H1 H2 → K1 H1 → K2 H2 → Φ) : ∀ {a0 b0 a1 b1 : Int32} {G1 G2 : Gt}, rl G1 G2 → w_X11_reckons_j19 K1 a0 a1 G1 → w_X11_reckons_j19 K2 b0 b1 G2 → b0 = a0 → b1 = a1 → Φ := by
  intro a0 b0 a1 b1 G1 G2 hG0 h1 h2 e0 e1
  subst e0 e1
  unfold w_X11_reckons_j19 at h1 h2
  refine d_X11_ends (fun hG10 h1 h2 => ?_) hG0 h1 h2 rfl rfl
  exact d_X11_reckons_j83 hk hG10 h1 h2
set_option maxHeartbeats 4000000 in
set_option maxRecDepth 100000 in
theorem d_X11_reckons {Φ : Prop} {K1 K2 : Gt → Prop} (hk : ∀ {H1 H2 : Gt}, rl H1 H2 → K1 H1 → K2 H2 → Φ) : ∀ {a0 b0 a1 b1 a2 b2 a3 b3 : Int32} {G1 G2 : Gt}, rl G1 G2 → w_X11_reckons K1 a0 a1 a2 a3 G1 → w_X11_reckons K2 b0 b1 b2 b3 G2 → b0 = a0 → b1 = a1 → b2 = a2 → b3 = a3 → Φ := by
  intro a0 b0 a1 b1 a2 b2 a3 b3 G1 G2 hG0 h1 h2 e0 e1 e2 e3
  subst e0 e1 e2 e3
  unfold w_X11_reckons at h1 h2
  rcases pifD rfl h1 h2 with ⟨h1, h2⟩ | ⟨h1, h2⟩
  · rcases pifD rfl h1 h2 with ⟨h1, h2⟩ | ⟨h1, h2⟩
    · exact d_X11_reckons_j19 hk hG0 h1 h2 rfl rfl
    · exact d_X11_reckons_j19 hk hG0 h1 h2 rfl rfl
  · refine d_X11_isNumber (fun hG1 h1 h2 ev2 => ?_) hG0 h1 h2 rfl
    subst ev2
    rcases pifD rfl h1 h2 with ⟨h1, h2⟩ | ⟨h1, h2⟩
    · exact d_X11_reckons_j40 hk hG1 h1 h2 rfl
    · refine d_X11_isNumber (fun hG4 h1 h2 ev5 => ?_) hG1 h1 h2 rfl
      subst ev5
      rcases pifD rfl h1 h2 with ⟨h1, h2⟩ | ⟨h1, h2⟩
      · exact d_X11_reckons_j40 hk hG4 h1 h2 rfl
      · rcases pifD rfl h1 h2 with ⟨h1, h2⟩ | ⟨h1, h2⟩
        · rcases pifD rfl h1 h2 with ⟨h1, h2⟩ | ⟨h1, h2⟩
          · refine d_X11_fails (fun hG9 h1 h2 => ?_) hG4 h1 h2 rfl rfl
            exact d_X11_reckons_j83 hk hG9 h1 h2
          · exact d_X11_reckons_j71 hk hG4 h1 h2 rfl rfl rfl rfl
        · exact d_X11_reckons_j71 hk hG4 h1 h2 rfl rfl rfl rfl
set_option maxHeartbeats 4000000 in
set_option maxRecDepth 100000 in
theorem d_X11_hasArgument_j74 {Φ : Prop} {K1 K2 : Gt → Prop} (hk : ∀ {H1 H2 : Gt}, rl H1 H2 → K1 H1 → K2 H2 → Φ) : ∀ {G1 G2 : Gt}, rl G1 G2 → w_X11_hasArgument_j74 K1 G1 → w_X11_hasArgument_j74 K2 G2 → Φ := by
  intro  G1 G2 hG0 h1 h2 
  unfold w_X11_hasArgument_j74 at h1 h2
  exact hk hG0 h1 h2
set_option maxHeartbeats 4000000 in
set_option maxRecDepth 100000 in
theorem d_X11_hasArgument {Φ : Prop} {K1 K2 : Gt → Prop} (hk : ∀ {H1 H2 : Gt}, rl H1 H2 → K1 H1 → K2 H2 → Φ) : ∀ {a0 b0 a1 b1 a2 b2 a3 b3 : Int32} {G1 G2 : Gt}, rl G1 G2 → w_X11_hasArgument K1 a0 a1 a2 a3 G1 → w_X11_hasArgument K2 b0 b1 b2 b3 G2 → b0 = a0 → b1 = a1 → b2 = a2 → b3 = a3 → Φ := by
  intro a0 b0 a1 b1 a2 b2 a3 b3 G1 G2 hG0 h1 h2 e0 e1 e2 e3
  subst e0 e1 e2 e3
  unfold w_X11_hasArgument at h1 h2
  rcases pifD rfl h1 h2 with ⟨h1, h2⟩ | ⟨h1, h2⟩
  · replace h1 := h1.2
    replace h2 := h2.2
    replace h1 := h1.2
    replace h2 := h2.2
    refine d_X11_callsSlot (fun hG4 h1 h2 => ?_) hG0 h1 h2 rfl (by simp only [hG0.c (k := 48) rfl (by decide)]) rfl (by simp only [hG0.c (k := 68) rfl (by decide)]) rfl
    exact hk hG4 h1 h2
  · replace h1 := h1.2
    replace h2 := h2.2
    obtain ⟨G1a, eG1a, h1⟩ := h1
    obtain ⟨G1b, eG1b, h2⟩ := h2
    have hG1 : rl G1a G1b := by
      rw [eG1a, eG1b]
      exact rl_gu hG0 rfl rfl
    replace h1 := h1.2
    replace h2 := h2.2
    rcases pifD (by simp only [hG1.c (k := 50) rfl (by decide)]) h1 h2 with ⟨h1, h2⟩ | ⟨h1, h2⟩
    · replace h1 := h1.2
      replace h2 := h2.2
      refine d_X11_callsSlot (fun hG3 h1 h2 => ?_) hG1 h1 h2 rfl (by simp only [hG1.c (k := 48) rfl (by decide)]) rfl rfl rfl
      exact d_X11_hasArgument_j74 hk hG3 h1 h2
    · replace h1 := h1.2
      replace h2 := h2.2
      refine d_X11_parts (fun hG2 h1 h2 => ?_) hG1 h1 h2 (by simp only [hG1.c (k := 50) rfl (by decide)]) rfl rfl
      exact d_X11_hasArgument_j74 hk hG2 h1 h2
set_option maxHeartbeats 4000000 in
set_option maxRecDepth 100000 in
theorem d_X11_putsLetter_j24 {Φ : Prop} {K1 K2 : Gt → Prop} (hk : ∀ {H1 H2 : Gt}, rl H1 H2 → K1 H1 → K2 H2 → Φ) : ∀ {a0 b0 : Int32} {G1 G2 : Gt}, rl G1 G2 → w_X11_putsLetter_j24 K1 a0 G1 → w_X11_putsLetter_j24 K2 b0 G2 → b0 = a0 → Φ := by
  intro a0 b0 G1 G2 hG0 h1 h2 e0
  subst e0
  unfold w_X11_putsLetter_j24 at h1 h2
  refine d_X11_fails (fun hG3 h1 h2 => ?_) hG0 h1 h2 rfl rfl
  exact hk hG3 h1 h2
set_option maxHeartbeats 4000000 in
set_option maxRecDepth 100000 in
theorem d_X11_putsLetter_j98 {Φ : Prop} {K1 K2 : Gt → Prop} (hk : ∀ {H1 H2 : Gt}, rl H1 H2 → K1 H1 → K2 H2 → Φ) : ∀ {G1 G2 : Gt}, rl G1 G2 → w_X11_putsLetter_j98 K1 G1 → w_X11_putsLetter_j98 K2 G2 → Φ := by
  intro  G1 G2 hG0 h1 h2 
  unfold w_X11_putsLetter_j98 at h1 h2
  exact hk hG0 h1 h2
set_option maxHeartbeats 4000000 in
set_option maxRecDepth 100000 in
theorem d_X11_putsLetter_j59 {Φ : Prop} {K1 K2 : Gt → Prop} (hk : ∀ {H1 H2 : Gt}, rl H1 H2 → K1 H1 → K2 H2 → Φ) : ∀ {a0 b0 a1 b1 : Int32} {G1 G2 : Gt}, rl G1 G2 → w_X11_putsLetter_j59 K1 a0 a1 G1 → w_X11_putsLetter_j59 K2 b0 b1 G2 → b0 = a0 → b1 = a1 → Φ := by
  intro a0 b0 a1 b1 G1 G2 hG0 h1 h2 e0 e1
  subst e0 e1
  unfold w_X11_putsLetter_j59 at h1 h2
  refine d_X11_ends (fun hG6 h1 h2 => ?_) hG0 h1 h2 rfl rfl
  exact d_X11_putsLetter_j98 hk hG6 h1 h2
set_option maxHeartbeats 4000000 in
set_option maxRecDepth 100000 in
theorem d_X11_putsLetter {Φ : Prop} {K1 K2 : Gt → Prop} (hk : ∀ {H1 H2 : Gt}, rl H1 H2 → K1 H1 → K2 H2 → Φ) : ∀ {a0 b0 a1 b1 : Int32} {G1 G2 : Gt}, rl G1 G2 → w_X11_putsLetter K1 a0 a1 G1 → w_X11_putsLetter K2 b0 b1 G2 → b0 = a0 → b1 = a1 → Φ := by
  intro a0 b0 a1 b1 G1 G2 hG0 h1 h2 e0 e1
  subst e0 e1
  unfold w_X11_putsLetter at h1 h2
  refine d_X11_in (fun hG1 h1 h2 ev2 => ?_) hG0 h1 h2 rfl rfl rfl
  subst ev2
  rcases pifD rfl h1 h2 with ⟨h1, h2⟩ | ⟨h1, h2⟩
  · exact d_X11_putsLetter_j24 hk hG1 h1 h2 rfl
  · replace h1 := h1.2
    replace h2 := h2.2
    rcases pifD (by simp only [hG1.c (k := 59) rfl (by decide), hG1.s (j := 14) (by decide)]) h1 h2 with ⟨h1, h2⟩ | ⟨h1, h2⟩
    · exact d_X11_putsLetter_j24 hk hG1 h1 h2 rfl
    · refine d_X11_inserts (fun hG4 h1 h2 => ?_) hG1 h1 h2 rfl
      replace h1 := h1.2
      replace h2 := h2.2
      obtain ⟨G5a, eG5a, h1⟩ := h1
      obtain ⟨G5b, eG5b, h2⟩ := h2
      have hG5 : rl G5a G5b := by
        rw [eG5a, eG5b]
        exact rl_gu hG4 rfl rfl
      rcases pifD (by simp only [hG5.s (j := 12) (by decide)]) h1 h2 with ⟨h1, h2⟩ | ⟨h1, h2⟩
      · exact d_X11_putsLetter_j59 hk hG5 h1 h2 rfl rfl
      · rcases pifD (by simp only [hG5.s (j := 51) (by decide)]) h1 h2 with ⟨h1, h2⟩ | ⟨h1, h2⟩
        · obtain ⟨G7a, eG7a, h1⟩ := h1
          obtain ⟨G7b, eG7b, h2⟩ := h2
          have hG7 : rl G7a G7b := by
            rw [eG7a, eG7b]
            exact rl_gu hG5 rfl rfl
          replace h1 := h1.2
          replace h2 := h2.2
          obtain ⟨G8a, eG8a, h1⟩ := h1
          obtain ⟨G8b, eG8b, h2⟩ := h2
          have hG8 : rl G8a G8b := by
            rw [eG8a, eG8b]
            exact rl_gu hG7 rfl (by simp only [hG7.s (j := 12) (by decide)])
          refine d_X11_callsSlot (fun hG9 h1 h2 => ?_) hG8 h1 h2 rfl (by simp only [hG8.s (j := 12) (by decide)]) rfl rfl rfl
          exact d_X11_putsLetter_j98 hk hG9 h1 h2
        · exact d_X11_putsLetter_j59 hk hG5 h1 h2 rfl rfl
set_option maxHeartbeats 4000000 in
set_option maxRecDepth 100000 in
theorem d_X11_beginsCall_j24 {Φ : Prop} {K1 K2 : Gt → Prop} (hk : ∀ {H1 H2 : Gt}, rl H1 H2 → K1 H1 → K2 H2 → Φ) : ∀ {G1 G2 : Gt}, rl G1 G2 → w_X11_beginsCall_j24 K1 G1 → w_X11_beginsCall_j24 K2 G2 → Φ := by
  intro  G1 G2 hG0 h1 h2 
  unfold w_X11_beginsCall_j24 at h1 h2
  exact hk hG0 h1 h2
set_option maxHeartbeats 4000000 in
set_option maxRecDepth 100000 in
theorem d_X11_beginsCall {Φ : Prop} {K1 K2 : Gt → Prop} (hk : ∀ {H1 H2 : Gt}, rl H1 H2 → K1 H1 → K2 H2 → Φ) : ∀ {a0 b0 a1 b1 a2 b2 : Int32} {G1 G2 : Gt}, rl G1 G2 → w_X11_beginsCall K1 a0 a1 a2 G1 → w_X11_beginsCall K2 b0 b1 b2 G2 → b0 = a0 → b1 = a1 → b2 = a2 → Φ := by
  intro a0 b0 a1 b1 a2 b2 G1 G2 hG0 h1 h2 e0 e1 e2
  subst e0 e1 e2
  unfold w_X11_beginsCall at h1 h2
  rcases pifD rfl h1 h2 with ⟨h1, h2⟩ | ⟨h1, h2⟩
  · refine d_X11_callsSlot (fun hG2 h1 h2 => ?_) hG0 h1 h2 rfl rfl rfl rfl rfl
    exact d_X11_beginsCall_j24 hk hG2 h1 h2
  · refine d_X11_parts (fun hG1 h1 h2 => ?_) hG0 h1 h2 rfl rfl rfl
    exact d_X11_beginsCall_j24 hk hG1 h1 h2
set_option maxHeartbeats 4000000 in
set_option maxRecDepth 100000 in
theorem d_X11_takes_j211 {Φ : Prop} {K1 K2 : Gt → Prop} (hk : ∀ {H1 H2 : Gt}, rl H1 H2 → K1 H1 → K2 H2 → Φ) : ∀ {G1 G2 : Gt}, rl G1 G2 → w_X11_takes_j211 K1 G1 → w_X11_takes_j211 K2 G2 → Φ := by
  intro  G1 G2 hG0 h1 h2 
  unfold w_X11_takes_j211 at h1 h2
  exact hk hG0 h1 h2
set_option maxHeartbeats 4000000 in
set_option maxRecDepth 100000 in
theorem d_X11_takes_j183 {Φ : Prop} {K1 K2 : Gt → Prop} (hk : ∀ {H1 H2 : Gt}, rl H1 H2 → K1 H1 → K2 H2 → Φ) : ∀ {a0 b0 a1 b1 : Int32} {G1 G2 : Gt}, rl G1 G2 → w_X11_takes_j183 K1 a0 a1 G1 → w_X11_takes_j183 K2 b0 b1 G2 → b0 = a0 → b1 = a1 → Φ := by
  intro a0 b0 a1 b1 G1 G2 hG0 h1 h2 e0 e1
  subst e0 e1
  unfold w_X11_takes_j183 at h1 h2
  refine d_X11_isBuffer (fun hG11 h1 h2 ev12 => ?_) hG0 h1 h2 rfl
  subst ev12
  rcases pifD rfl h1 h2 with ⟨h1, h2⟩ | ⟨h1, h2⟩
  · refine d_X11_fails (fun hG13 h1 h2 => ?_) hG11 h1 h2 rfl rfl
    exact d_X11_takes_j211 hk hG13 h1 h2
  · obtain ⟨G14a, eG14a, h1⟩ := h1
    obtain ⟨G14b, eG14b, h2⟩ := h2
    have hG14 : rl G14a G14b := by
      rw [eG14a, eG14b]
      exact rl_gu hG11 rfl rfl
    refine d_X11_ends (fun hG15 h1 h2 => ?_) hG14 h1 h2 rfl rfl
    exact d_X11_takes_j211 hk hG15 h1 h2
set_option maxHeartbeats 4000000 in
set_option maxRecDepth 100000 in
theorem d_X11_takes {Φ : Prop} {K1 K2 : Gt → Prop} (hk : ∀ {H1 H2 : Gt}, rl H1 H2 → K1 H1 → K2 H2 → Φ) : ∀ {a0 b0 a1 b1 a2 b2 : Int32} {G1 G2 : Gt}, rl G1 G2 → w_X11_takes K1 a0 a1 a2 G1 → w_X11_takes K2 b0 b1 b2 G2 → b0 = a0 → b1 = a1 → b2 = a2 → Φ := by
  intro a0 b0 a1 b1 a2 b2 G1 G2 hG0 h1 h2 e0 e1 e2
  subst e0 e1 e2
  unfold w_X11_takes at h1 h2
  rcases pifD rfl h1 h2 with ⟨h1, h2⟩ | ⟨h1, h2⟩
  · refine d_X11_fails (fun hG1 h1 h2 => ?_) hG0 h1 h2 rfl rfl
    exact d_X11_takes_j211 hk hG1 h1 h2
  · rcases pifD rfl h1 h2 with ⟨h1, h2⟩ | ⟨h1, h2⟩
    · replace h1 := h1.2
      replace h2 := h2.2
      replace h1 := h1.2
      replace h2 := h2.2
      replace h1 := h1.2
      replace h2 := h2.2
      obtain ⟨G2a, eG2a, h1⟩ := h1
      obtain ⟨G2b, eG2b, h2⟩ := h2
      have hG2 : rl G2a G2b := by
        rw [eG2a, eG2b]
        exact rl_gu hG0 (by simp only [hG0.c (k := 48) rfl (by decide), hG0.c (k := 64) rfl (by decide)]) rfl
      refine d_X11_ends (fun hG3 h1 h2 => ?_) hG2 h1 h2 rfl rfl
      exact d_X11_takes_j211 hk hG3 h1 h2
    · rcases pifD rfl h1 h2 with ⟨h1, h2⟩ | ⟨h1, h2⟩
      · refine d_X11_putsLetter (fun hG4 h1 h2 => ?_) hG0 h1 h2 rfl rfl
        exact d_X11_takes_j211 hk hG4 h1 h2
      · rcases pifD rfl h1 h2 with ⟨h1, h2⟩ | ⟨h1, h2⟩
        · replace h1 := h1.2
          replace h2 := h2.2
          refine d_X11_in (fun hG5 h1 h2 ev6 => ?_) hG0 h1 h2 rfl rfl (by simp only [hG0.c (k := 59) rfl (by decide), hG0.s (j := 14) (by decide)])
          subst ev6
          rcases pifD rfl h1 h2 with ⟨h1, h2⟩ | ⟨h1, h2⟩
          · refine d_X11_fails (fun hG7 h1 h2 => ?_) hG5 h1 h2 rfl rfl
            exact d_X11_takes_j211 hk hG7 h1 h2
          · replace h1 := h1.2
            replace h2 := h2.2
            replace h1 := h1.2
            replace h2 := h2.2
            obtain ⟨G8a, eG8a, h1⟩ := h1
            obtain ⟨G8b, eG8b, h2⟩ := h2
            have hG8 : rl G8a G8b := by
              rw [eG8a, eG8b]
              exact rl_gu hG5 (by simp only [hG5.s (j := 14) (by decide), hG5.c (k := 61) rfl (by decide)]) rfl
            refine d_X11_ends (fun hG9 h1 h2 => ?_) hG8 h1 h2 rfl rfl
            exact d_X11_takes_j211 hk hG9 h1 h2
        · rcases pifD rfl h1 h2 with ⟨h1, h2⟩ | ⟨h1, h2⟩
          · refine d_X11_putsCursor (fun hG10 h1 h2 => ?_) hG0 h1 h2 rfl rfl
            exact d_X11_takes_j211 hk hG10 h1 h2
          · exact d_X11_takes_j183 hk hG0 h1 h2 rfl rfl
set_option maxHeartbeats 4000000 in
set_option maxRecDepth 100000 in
theorem d_X11_beginsNode_j531 {Φ : Prop} {K1 K2 : Gt → Prop} (hk : ∀ {H1 H2 : Gt}, rl H1 H2 → K1 H1 → K2 H2 → Φ) : ∀ {G1 G2 : Gt}, rl G1 G2 → w_X11_beginsNode_j531 K1 G1 → w_X11_beginsNode_j531 K2 G2 → Φ := by
  intro  G1 G2 hG0 h1 h2 
  unfold w_X11_beginsNode_j531 at h1 h2
  exact hk hG0 h1 h2
set_option maxHeartbeats 4000000 in
set_option maxRecDepth 100000 in
theorem d_X11_beginsNode_j234 {Φ : Prop} {K1 K2 : Gt → Prop} (hk : ∀ {H1 H2 : Gt}, rl H1 H2 → K1 H1 → K2 H2 → Φ) : ∀ {a0 b0 a1 b1 : Int32} {G1 G2 : Gt}, rl G1 G2 → w_X11_beginsNode_j234 K1 a0 a1 G1 → w_X11_beginsNode_j234 K2 b0 b1 G2 → b0 = a0 → b1 = a1 → Φ := by
  intro a0 b0 a1 b1 G1 G2 hG0 h1 h2 e0 e1
  subst e0 e1
  unfold w_X11_beginsNode_j234 at h1 h2
  replace h1 := h1.2
  replace h2 := h2.2
  refine d_X11_parts (fun hG7 h1 h2 => ?_) hG0 h1 h2 (by simp only [hG0.c (k := 49) rfl (by decide)]) rfl rfl
  exact d_X11_beginsNode_j531 hk hG7 h1 h2
set_option maxHeartbeats 4000000 in
set_option maxRecDepth 100000 in
theorem d_X11_beginsNode_j469 {Φ : Prop} {K1 K2 : Gt → Prop} (hk : ∀ {H1 H2 : Gt}, rl H1 H2 → K1 H1 → K2 H2 → Φ) : ∀ {a0 b0 a1 b1 : Int32} {G1 G2 : Gt}, rl G1 G2 → w_X11_beginsNode_j469 K1 a0 a1 G1 → w_X11_beginsNode_j469 K2 b0 b1 G2 → b0 = a0 → b1 = a1 → Φ := by
  intro a0 b0 a1 b1 G1 G2 hG0 h1 h2 e0 e1
  subst e0 e1
  unfold w_X11_beginsNode_j469 at h1 h2
  replace h1 := h1.2
  replace h2 := h2.2
  refine d_X11_looks (fun hG26 h1 h2 => ?_) hG0 h1 h2 rfl (by simp only [hG0.c (k := 47) rfl (by decide)])
  exact d_X11_beginsNode_j531 hk hG26 h1 h2
set_option maxHeartbeats 4000000 in
set_option maxRecDepth 100000 in
theorem d_X11_beginsNode_j524 {Φ : Prop} {K1 K2 : Gt → Prop} (hk : ∀ {H1 H2 : Gt}, rl H1 H2 → K1 H1 → K2 H2 → Φ) : ∀ {a0 b0 a1 b1 : Int32} {G1 G2 : Gt}, rl G1 G2 → w_X11_beginsNode_j524 K1 a0 a1 G1 → w_X11_beginsNode_j524 K2 b0 b1 G2 → b0 = a0 → b1 = a1 → Φ := by
  intro a0 b0 a1 b1 G1 G2 hG0 h1 h2 e0 e1
  subst e0 e1
  unfold w_X11_beginsNode_j524 at h1 h2
  refine d_X11_parts (fun hG35 h1 h2 => ?_) hG0 h1 h2 rfl rfl rfl
  exact d_X11_beginsNode_j531 hk hG35 h1 h2
set_option maxHeartbeats 4000000 in
set_option maxRecDepth 100000 in
theorem d_X11_beginsNode {Φ : Prop} {K1 K2 : Gt → Prop} (hk : ∀ {H1 H2 : Gt}, rl H1 H2 → K1 H1 → K2 H2 → Φ) : ∀ {G1 G2 : Gt}, rl G1 G2 → w_X11_beginsNode K1 G1 → w_X11_beginsNode K2 G2 → Φ := by
  intro  G1 G2 hG0 h1 h2 
  unfold w_X11_beginsNode at h1 h2
  refine d_X11_lays (fun hG1 h1 h2 ev2 => ?_) hG0 h1 h2 (by simp only [hG0.s (j := 54) (by decide)]) (by simp only [hG0.s (j := 56) (by decide)]) (by simp only [hG0.s (j := 55) (by decide)]) rfl
  subst ev2
  replace h1 := h1.2
  replace h2 := h2.2
  replace h1 := h1.2
  replace h2 := h2.2
  rcases pifD (by simp only [hG1.c (k := 47) rfl (by decide), hG0.s (j := 54) (by decide)]) h1 h2 with ⟨h1, h2⟩ | ⟨h1, h2⟩
  · refine d_X11_ends (fun hG3 h1 h2 => ?_) hG1 h1 h2 rfl (by simp only [hG1.c (k := 48) rfl (by decide), hG0.s (j := 54) (by decide)])
    exact d_X11_beginsNode_j531 hk hG3 h1 h2
  · rcases pifD (by simp only [hG1.c (k := 47) rfl (by decide), hG0.s (j := 54) (by decide)]) h1 h2 with ⟨h1, h2⟩ | ⟨h1, h2⟩
    · refine d_X11_cellOf (fun hG4 h1 h2 ev5 => ?_) hG1 h1 h2 (by simp only [hG1.s (j := 55) (by decide)]) (by simp only [hG1.c (k := 48) rfl (by decide), hG0.s (j := 54) (by decide)])
      subst ev5
      refine d_X11_names (fun hG6 h1 h2 => ?_) hG4 h1 h2 rfl rfl
      exact d_X11_beginsNode_j531 hk hG6 h1 h2
    · rcases pifD (by simp only [hG1.c (k := 47) rfl (by decide), hG0.s (j := 54) (by decide)]) h1 h2 with ⟨h1, h2⟩ | ⟨h1, h2⟩
      · exact d_X11_beginsNode_j234 hk hG1 h1 h2 (by simp only [hG0.s (j := 54) (by decide)]) rfl
      · rcases pifD (by simp only [hG1.c (k := 47) rfl (by decide), hG0.s (j := 54) (by decide)]) h1 h2 with ⟨h1, h2⟩ | ⟨h1, h2⟩
        · exact d_X11_beginsNode_j234 hk hG1 h1 h2 (by simp only [hG0.s (j := 54) (by decide)]) rfl
        · rcases pifD (by simp only [hG1.c (k := 47) rfl (by decide), hG0.s (j := 54) (by decide)]) h1 h2 with ⟨h1, h2⟩ | ⟨h1, h2⟩
          · refine d_X11_opens (fun hG8 h1 h2 ev9 => ?_) hG1 h1 h2 (by simp only [hG1.s (j := 55) (by decide)])
            subst ev9
            refine d_X11_asks (fun hG10 h1 h2 => ?_) hG8 h1 h2 (by simp only [hG1.c (k := 48) rfl (by decide), hG0.s (j := 54) (by decide)]) rfl rfl
            exact d_X11_beginsNode_j531 hk hG10 h1 h2
          · rcases pifD (by simp only [hG1.c (k := 47) rfl (by decide), hG0.s (j := 54) (by decide)]) h1 h2 with ⟨h1, h2⟩ | ⟨h1, h2⟩
            · replace h1 := h1.2
              replace h2 := h2.2
              refine d_X11_opens (fun hG11 h1 h2 ev12 => ?_) hG1 h1 h2 (by simp only [hG1.s (j := 55) (by decide)])
              subst ev12
              refine d_X11_asks (fun hG13 h1 h2 => ?_) hG11 h1 h2 (by simp only [hG1.c (k := 49) rfl (by decide), hG0.s (j := 54) (by decide)]) rfl rfl
              exact d_X11_beginsNode_j531 hk hG13 h1 h2
            · rcases pifD (by simp only [hG1.c (k := 47) rfl (by decide), hG0.s (j := 54) (by decide)]) h1 h2 with ⟨h1, h2⟩ | ⟨h1, h2⟩
              · exact d_X11_beginsNode_j234 hk hG1 h1 h2 (by simp only [hG0.s (j := 54) (by decide)]) rfl
              · rcases pifD (by simp only [hG1.c (k := 47) rfl (by decide), hG0.s (j := 54) (by decide)]) h1 h2 with ⟨h1, h2⟩ | ⟨h1, h2⟩
                · refine d_X11_leavesTo (fun hG14 h1 h2 => ?_) hG1 h1 h2 rfl rfl (by simp only [hG1.c (k := 48) rfl (by decide), hG0.s (j := 54) (by decide)]) rfl
                  exact d_X11_beginsNode_j531 hk hG14 h1 h2
                · rcases pifD (by simp only [hG1.c (k := 47) rfl (by decide), hG0.s (j := 54) (by decide)]) h1 h2 with ⟨h1, h2⟩ | ⟨h1, h2⟩
                  · replace h1 := h1.2
                    replace h2 := h2.2
                    obtain ⟨G15a, eG15a, h1⟩ := h1
                    obtain ⟨G15b, eG15b, h2⟩ := h2
                    have hG15 : rl G15a G15b := by
                      rw [eG15a, eG15b]
                      exact rl_gu hG1 (by simp only [hG1.s (j := 32) (by decide)]) (by simp only [hG0.s (j := 54) (by decide)])
                    replace h1 := h1.2
                    replace h2 := h2.2
                    obtain ⟨G16a, eG16a, h1⟩ := h1
                    obtain ⟨G16b, eG16b, h2⟩ := h2
                    have hG16 : rl G16a G16b := by
                      rw [eG16a, eG16b]
                      exact rl_gu hG15 (by simp only [hG15.s (j := 32) (by decide)]) (by simp only [hG15.s (j := 55) (by decide)])
                    obtain ⟨G17a, eG17a, h1⟩ := h1
                    obtain ⟨G17b, eG17b, h2⟩ := h2
                    have hG17 : rl G17a G17b := by
                      rw [eG17a, eG17b]
                      exact rl_gu hG16 rfl (by simp only [hG16.s (j := 32) (by decide)])
                    refine d_X11_ends (fun hG18 h1 h2 => ?_) hG17 h1 h2 rfl (by simp only [hG17.s (j := 32) (by decide)])
                    exact d_X11_beginsNode_j531 hk hG18 h1 h2
                  · rcases pifD (by simp only [hG1.c (k := 47) rfl (by decide), hG0.s (j := 54) (by decide)]) h1 h2 with ⟨h1, h2⟩ | ⟨h1, h2⟩
                    · replace h1 := h1.2
                      replace h2 := h2.2
                      refine d_X11_beginsCall (fun hG19 h1 h2 => ?_) hG1 h1 h2 rfl (by simp only [hG1.c (k := 48) rfl (by decide), hG0.s (j := 54) (by decide)]) (by simp only [hG1.c (k := 49) rfl (by decide), hG0.s (j := 54) (by decide)])
                      exact d_X11_beginsNode_j531 hk hG19 h1 h2
                    · rcases pifD (by simp only [hG1.c (k := 47) rfl (by decide), hG0.s (j := 54) (by decide)]) h1 h2 with ⟨h1, h2⟩ | ⟨h1, h2⟩
                      · exact d_X11_beginsNode_j234 hk hG1 h1 h2 (by simp only [hG0.s (j := 54) (by decide)]) rfl
                      · rcases pifD (by simp only [hG1.c (k := 47) rfl (by decide), hG0.s (j := 54) (by decide)]) h1 h2 with ⟨h1, h2⟩ | ⟨h1, h2⟩
                        · replace h1 := h1.2
                          replace h2 := h2.2
                          obtain ⟨G20a, eG20a, h1⟩ := h1
                          obtain ⟨G20b, eG20b, h2⟩ := h2
                          have hG20 : rl G20a G20b := by
                            rw [eG20a, eG20b]
                            exact rl_gu hG1 (by simp only [hG1.s (j := 35) (by decide)]) (by simp only [hG0.s (j := 54) (by decide)])
                          replace h1 := h1.2
                          replace h2 := h2.2
                          obtain ⟨G21a, eG21a, h1⟩ := h1
                          obtain ⟨G21b, eG21b, h2⟩ := h2
                          have hG21 : rl G21a G21b := by
                            rw [eG21a, eG21b]
                            exact rl_gu hG20 (by simp only [hG20.s (j := 35) (by decide)]) (by simp only [hG20.s (j := 55) (by decide)])
                          replace h1 := h1.2
                          replace h2 := h2.2
                          obtain ⟨G22a, eG22a, h1⟩ := h1
                          obtain ⟨G22b, eG22b, h2⟩ := h2
                          have hG22 : rl G22a G22b := by
                            rw [eG22a, eG22b]
                            exact rl_gu hG21 (by simp only [hG21.s (j := 35) (by decide)]) rfl
                          obtain ⟨G23a, eG23a, h1⟩ := h1
                          obtain ⟨G23b, eG23b, h2⟩ := h2
                          have hG23 : rl G23a G23b := by
                            rw [eG23a, eG23b]
                            exact rl_gu hG22 rfl (by simp only [hG22.s (j := 35) (by decide)])
                          refine d_X11_ends (fun hG24 h1 h2 => ?_) hG23 h1 h2 rfl (by simp only [hG23.s (j := 35) (by decide)])
                          exact d_X11_beginsNode_j531 hk hG24 h1 h2
                        · rcases pifD (by simp only [hG1.c (k := 47) rfl (by decide), hG0.s (j := 54) (by decide)]) h1 h2 with ⟨h1, h2⟩ | ⟨h1, h2⟩
                          · exact d_X11_beginsNode_j234 hk hG1 h1 h2 (by simp only [hG0.s (j := 54) (by decide)]) rfl
                          · rcases pifD (by simp only [hG1.c (k := 47) rfl (by decide), hG0.s (j := 54) (by decide)]) h1 h2 with ⟨h1, h2⟩ | ⟨h1, h2⟩
                            · replace h1 := h1.2
                              replace h2 := h2.2
                              refine d_X11_ends (fun hG25 h1 h2 => ?_) hG1 h1 h2 rfl (by simp only [hG1.c (k := 56) rfl (by decide), hG1.c (k := 48) rfl (by decide), hG0.s (j := 54) (by decide)])
                              exact d_X11_beginsNode_j531 hk hG25 h1 h2
                            · rcases pifD (by simp only [hG1.c (k := 47) rfl (by decide), hG0.s (j := 54) (by decide)]) h1 h2 with ⟨h1, h2⟩ | ⟨h1, h2⟩
                              · exact d_X11_beginsNode_j234 hk hG1 h1 h2 (by simp only [hG0.s (j := 54) (by decide)]) rfl
                              · rcases pifD (by simp only [hG1.c (k := 47) rfl (by decide), hG0.s (j := 54) (by decide)]) h1 h2 with ⟨h1, h2⟩ | ⟨h1, h2⟩
                                · exact d_X11_beginsNode_j469 hk hG1 h1 h2 (by simp only [hG0.s (j := 54) (by decide)]) rfl
                                · rcases pifD (by simp only [hG1.c (k := 47) rfl (by decide), hG0.s (j := 54) (by decide)]) h1 h2 with ⟨h1, h2⟩ | ⟨h1, h2⟩
                                  · exact d_X11_beginsNode_j469 hk hG1 h1 h2 (by simp only [hG0.s (j := 54) (by decide)]) rfl
                                  · rcases pifD (by simp only [hG1.c (k := 47) rfl (by decide), hG0.s (j := 54) (by decide)]) h1 h2 with ⟨h1, h2⟩ | ⟨h1, h2⟩
                                    · exact d_X11_beginsNode_j469 hk hG1 h1 h2 (by simp only [hG0.s (j := 54) (by decide)]) rfl
                                    · rcases pifD (by simp only [hG1.c (k := 47) rfl (by decide), hG0.s (j := 54) (by decide)]) h1 h2 with ⟨h1, h2⟩ | ⟨h1, h2⟩
                                      · exact d_X11_beginsNode_j469 hk hG1 h1 h2 (by simp only [hG0.s (j := 54) (by decide)]) rfl
                                      · rcases pifD (by simp only [hG1.c (k := 47) rfl (by decide), hG0.s (j := 54) (by decide)]) h1 h2 with ⟨h1, h2⟩ | ⟨h1, h2⟩
                                        · refine d_X11_inOrder (fun hG27 h1 h2 ev28 => ?_) hG1 h1 h2
                                          subst ev28
                                          replace h1 := h1.2
                                          replace h2 := h2.2
                                          obtain ⟨G29a, eG29a, h1⟩ := h1
                                          obtain ⟨G29b, eG29b, h2⟩ := h2
                                          have hG29 : rl G29a G29b := by
                                            rw [eG29a, eG29b]
                                            exact rl_gu hG27 rfl rfl
                                          replace h1 := h1.2
                                          replace h2 := h2.2
                                          replace h1 := h1.2
                                          replace h2 := h2.2
                                          obtain ⟨G30a, eG30a, h1⟩ := h1
                                          obtain ⟨G30b, eG30b, h2⟩ := h2
                                          have hG30 : rl G30a G30b := by
                                            rw [eG30a, eG30b]
                                            exact rl_gu hG29 rfl (by simp only [hG29.s (j := 14) (by decide), hG29.c (k := 61) rfl (by decide)])
                                          refine d_X11_goesOn (fun hG31 h1 h2 => ?_) hG30 h1 h2 rfl
                                          exact d_X11_beginsNode_j531 hk hG31 h1 h2
                                        · rcases pifD (by simp only [hG1.c (k := 47) rfl (by decide), hG0.s (j := 54) (by decide)]) h1 h2 with ⟨h1, h2⟩ | ⟨h1, h2⟩
                                          · replace h1 := h1.2
                                            replace h2 := h2.2
                                            refine d_X11_reloads (fun hG32 h1 h2 => ?_) hG1 h1 h2 rfl (by simp only [hG1.c (k := 48) rfl (by decide), hG0.s (j := 54) (by decide)]) (by simp only [hG1.c (k := 49) rfl (by decide), hG0.s (j := 54) (by decide)])
                                            exact d_X11_beginsNode_j531 hk hG32 h1 h2
                                          · rcases pifD (by simp only [hG1.c (k := 47) rfl (by decide), hG0.s (j := 54) (by decide)]) h1 h2 with ⟨h1, h2⟩ | ⟨h1, h2⟩
                                            · obtain ⟨G33a, eG33a, h1⟩ := h1
                                              obtain ⟨G33b, eG33b, h2⟩ := h2
                                              have hG33 : rl G33a G33b := by
                                                rw [eG33a, eG33b]
                                                exact rl_gu hG1 rfl (by simp only [hG1.c (k := 48) rfl (by decide), hG0.s (j := 54) (by decide)])
                                              refine d_X11_ends (fun hG34 h1 h2 => ?_) hG33 h1 h2 rfl rfl
                                              exact d_X11_beginsNode_j531 hk hG34 h1 h2
                                            · exact d_X11_beginsNode_j524 hk hG1 h1 h2 rfl (by simp only [hG1.c (k := 48) rfl (by decide), hG0.s (j := 54) (by decide)])
set_option maxHeartbeats 4000000 in
set_option maxRecDepth 100000 in
theorem d_X11_hasValue_j661 {Φ : Prop} {K1 K2 : Gt → Prop} (hk : ∀ {H1 H2 : Gt}, rl H1 H2 → K1 H1 → K2 H2 → Φ) : ∀ {G1 G2 : Gt}, rl G1 G2 → w_X11_hasValue_j661 K1 G1 → w_X11_hasValue_j661 K2 G2 → Φ := by
  intro  G1 G2 hG0 h1 h2 
  unfold w_X11_hasValue_j661 at h1 h2
  exact hk hG0 h1 h2
set_option maxHeartbeats 4000000 in
set_option maxRecDepth 100000 in
theorem d_X11_hasValue_j236 {Φ : Prop} {K1 K2 : Gt → Prop} (hk : ∀ {H1 H2 : Gt}, rl H1 H2 → K1 H1 → K2 H2 → Φ) : ∀ {a0 b0 a1 b1 a2 b2 a3 b3 a4 b4 : Int32} {G1 G2 : Gt}, rl G1 G2 → w_X11_hasValue_j236 K1 a0 a1 a2 a3 a4 G1 → w_X11_hasValue_j236 K2 b0 b1 b2 b3 b4 G2 → b0 = a0 → b1 = a1 → b2 = a2 → b3 = a3 → b4 = a4 → Φ := by
  intro a0 b0 a1 b1 a2 b2 a3 b3 a4 b4 G1 G2 hG0 h1 h2 e0 e1 e2 e3 e4
  subst e0 e1 e2 e3 e4
  unfold w_X11_hasValue_j236 at h1 h2
  rcases pifD rfl h1 h2 with ⟨h1, h2⟩ | ⟨h1, h2⟩
  · replace h1 := h1.2
    replace h2 := h2.2
    obtain ⟨G7a, eG7a, h1⟩ := h1
    obtain ⟨G7b, eG7b, h2⟩ := h2
    have hG7 : rl G7a G7b := by
      rw [eG7a, eG7b]
      exact rl_gu hG0 rfl rfl
    replace h1 := h1.2
    replace h2 := h2.2
    refine d_X11_parts (fun hG8 h1 h2 => ?_) hG7 h1 h2 (by simp only [hG7.c (k := 49) rfl (by decide)]) rfl rfl
    exact d_X11_hasValue_j661 hk hG8 h1 h2
  · replace h1 := h1.2
    replace h2 := h2.2
    refine d_X11_reckons (fun hG6 h1 h2 => ?_) hG0 h1 h2 rfl rfl (by simp only [hG0.c (k := 68) rfl (by decide)]) rfl
    exact d_X11_hasValue_j661 hk hG6 h1 h2
set_option maxHeartbeats 4000000 in
set_option maxRecDepth 100000 in
theorem d_X11_hasValue_j305 {Φ : Prop} {K1 K2 : Gt → Prop} (hk : ∀ {H1 H2 : Gt}, rl H1 H2 → K1 H1 → K2 H2 → Φ) : ∀ {a0 b0 a1 b1 : Int32} {G1 G2 : Gt}, rl G1 G2 → w_X11_hasValue_j305 K1 a0 a1 G1 → w_X11_hasValue_j305 K2 b0 b1 G2 → b0 = a0 → b1 = a1 → Φ := by
  intro a0 b0 a1 b1 G1 G2 hG0 h1 h2 e0 e1
  subst e0 e1
  unfold w_X11_hasValue_j305 at h1 h2
  refine d_X11_parts (fun hG10 h1 h2 => ?_) hG0 h1 h2 rfl rfl rfl
  exact d_X11_hasValue_j661 hk hG10 h1 h2
set_option maxHeartbeats 4000000 in
set_option maxRecDepth 100000 in
theorem d_X11_hasValue_j627 {Φ : Prop} {K1 K2 : Gt → Prop} (hk : ∀ {H1 H2 : Gt}, rl H1 H2 → K1 H1 → K2 H2 → Φ) : ∀ {a0 b0 a1 b1 : Int32} {G1 G2 : Gt}, rl G1 G2 → w_X11_hasValue_j627 K1 a0 a1 G1 → w_X11_hasValue_j627 K2 b0 b1 G2 → b0 = a0 → b1 = a1 → Φ := by
  intro a0 b0 a1 b1 G1 G2 hG0 h1 h2 e0 e1
  subst e0 e1
  unfold w_X11_hasValue_j627 at h1 h2
  refine d_X11_ends (fun hG13 h1 h2 => ?_) hG0 h1 h2 rfl rfl
  exact d_X11_hasValue_j661 hk hG13 h1 h2
set_option maxHeartbeats 4000000 in
set_option maxRecDepth 100000 in
theorem d_X11_hasValue_j473 {Φ : Prop} {K1 K2 : Gt → Prop} (hk : ∀ {H1 H2 : Gt}, rl H1 H2 → K1 H1 → K2 H2 → Φ) : ∀ {a0 b0 a1 b1 : Int32} {G1 G2 : Gt}, rl G1 G2 → w_X11_hasValue_j473 K1 a0 a1 G1 → w_X11_hasValue_j473 K2 b0 b1 G2 → b0 = a0 → b1 = a1 → Φ := by
  intro a0 b0 a1 b1 G1 G2 hG0 h1 h2 e0 e1
  subst e0 e1
  unfold w_X11_hasValue_j473 at h1 h2
  refine d_X11_leaves (fun hG24 h1 h2 => ?_) hG0 h1 h2 rfl rfl rfl rfl
  exact d_X11_hasValue_j661 hk hG24 h1 h2
set_option maxHeartbeats 4000000 in
set_option maxRecDepth 100000 in
theorem d_X11_hasValue_j636 {Φ : Prop} {K1 K2 : Gt → Prop} (hk : ∀ {H1 H2 : Gt}, rl H1 H2 → K1 H1 → K2 H2 → Φ) : ∀ {a0 b0 a1 b1 a2 b2 : Int32} {G1 G2 : Gt}, rl G1 G2 → w_X11_hasValue_j636 K1 a0 a1 a2 G1 → w_X11_hasValue_j636 K2 b0 b1 b2 G2 → b0 = a0 → b1 = a1 → b2 = a2 → Φ := by
  intro a0 b0 a1 b1 a2 b2 G1 G2 hG0 h1 h2 e0 e1 e2
  subst e0 e1 e2
  unfold w_X11_hasValue_j636 at h1 h2
  refine d_X11_isNumber (fun hG39 h1 h2 ev40 => ?_) hG0 h1 h2 rfl
  subst ev40
  rcases pifD rfl h1 h2 with ⟨h1, h2⟩ | ⟨h1, h2⟩
  · refine d_X11_fails (fun hG41 h1 h2 => ?_) hG39 h1 h2 rfl rfl
    exact d_X11_hasValue_j661 hk hG41 h1 h2
  · refine d_X11_takes (fun hG42 h1 h2 => ?_) hG39 h1 h2 rfl rfl rfl
    exact d_X11_hasValue_j661 hk hG42 h1 h2
set_option maxHeartbeats 4000000 in
set_option maxRecDepth 100000 in
theorem d_X11_hasValue {Φ : Prop} {K1 K2 : Gt → Prop} (hk : ∀ {H1 H2 : Gt}, rl H1 H2 → K1 H1 → K2 H2 → Φ) : ∀ {a0 b0 a1 b1 : Int32} {G1 G2 : Gt}, rl G1 G2 → w_X11_hasValue K1 a0 a1 G1 → w_X11_hasValue K2 b0 b1 G2 → b0 = a0 → b1 = a1 → Φ := by
  intro a0 b0 a1 b1 G1 G2 hG0 h1 h2 e0 e1
  subst e0 e1
  unfold w_X11_hasValue at h1 h2
  replace h1 := h1.2
  replace h2 := h2.2
  replace h1 := h1.2
  replace h2 := h2.2
  replace h1 := h1.2
  replace h2 := h2.2
  rcases pifD (by simp only [hG0.c (k := 47) rfl (by decide), hG0.c (k := 64) rfl (by decide)]) h1 h2 with ⟨h1, h2⟩ | ⟨h1, h2⟩
  · replace h1 := h1.2
    replace h2 := h2.2
    replace h1 := h1.2
    replace h2 := h2.2
    replace h1 := h1.2
    replace h2 := h2.2
    obtain ⟨G1a, eG1a, h1⟩ := h1
    obtain ⟨G1b, eG1b, h2⟩ := h2
    have hG1 : rl G1a G1b := by
      rw [eG1a, eG1b]
      exact rl_gu hG0 (by simp only [hG0.c (k := 66) rfl (by decide), hG0.c (k := 48) rfl (by decide), hG0.c (k := 64) rfl (by decide)]) rfl
    refine d_X11_ends (fun hG2 h1 h2 => ?_) hG1 h1 h2 rfl rfl
    exact d_X11_hasValue_j661 hk hG2 h1 h2
  · rcases pifD (by simp only [hG0.c (k := 47) rfl (by decide), hG0.c (k := 64) rfl (by decide)]) h1 h2 with ⟨h1, h2⟩ | ⟨h1, h2⟩
    · replace h1 := h1.2
      replace h2 := h2.2
      replace h1 := h1.2
      replace h2 := h2.2
      refine d_X11_cellOf (fun hG3 h1 h2 ev4 => ?_) hG0 h1 h2 (by simp only [hG0.c (k := 66) rfl (by decide)]) (by simp only [hG0.c (k := 48) rfl (by decide), hG0.c (k := 64) rfl (by decide)])
      subst ev4
      refine d_X11_puts (fun hG5 h1 h2 => ?_) hG3 h1 h2 rfl rfl rfl
      exact d_X11_hasValue_j661 hk hG5 h1 h2
    · rcases pifD (by simp only [hG0.c (k := 47) rfl (by decide), hG0.c (k := 64) rfl (by decide)]) h1 h2 with ⟨h1, h2⟩ | ⟨h1, h2⟩
      · exact d_X11_hasValue_j236 hk hG0 h1 h2 rfl rfl (by simp only [hG0.c (k := 64) rfl (by decide)]) (by simp only [hG0.c (k := 67) rfl (by decide)]) (by simp only [hG0.c (k := 47) rfl (by decide), hG0.c (k := 64) rfl (by decide)])
      · rcases pifD (by simp only [hG0.c (k := 47) rfl (by decide), hG0.c (k := 64) rfl (by decide)]) h1 h2 with ⟨h1, h2⟩ | ⟨h1, h2⟩
        · exact d_X11_hasValue_j236 hk hG0 h1 h2 rfl rfl (by simp only [hG0.c (k := 64) rfl (by decide)]) (by simp only [hG0.c (k := 67) rfl (by decide)]) (by simp only [hG0.c (k := 47) rfl (by decide), hG0.c (k := 64) rfl (by decide)])
        · rcases pifD (by simp only [hG0.c (k := 47) rfl (by decide), hG0.c (k := 64) rfl (by decide)]) h1 h2 with ⟨h1, h2⟩ | ⟨h1, h2⟩
          · exact d_X11_hasValue_j236 hk hG0 h1 h2 rfl rfl (by simp only [hG0.c (k := 64) rfl (by decide)]) (by simp only [hG0.c (k := 67) rfl (by decide)]) (by simp only [hG0.c (k := 47) rfl (by decide), hG0.c (k := 64) rfl (by decide)])
          · rcases pifD (by simp only [hG0.c (k := 47) rfl (by decide), hG0.c (k := 64) rfl (by decide)]) h1 h2 with ⟨h1, h2⟩ | ⟨h1, h2⟩
            · exact d_X11_hasValue_j236 hk hG0 h1 h2 rfl rfl (by simp only [hG0.c (k := 64) rfl (by decide)]) (by simp only [hG0.c (k := 67) rfl (by decide)]) (by simp only [hG0.c (k := 47) rfl (by decide), hG0.c (k := 64) rfl (by decide)])
            · rcases pifD (by simp only [hG0.c (k := 47) rfl (by decide), hG0.c (k := 64) rfl (by decide)]) h1 h2 with ⟨h1, h2⟩ | ⟨h1, h2⟩
              · exact d_X11_hasValue_j236 hk hG0 h1 h2 rfl rfl (by simp only [hG0.c (k := 64) rfl (by decide)]) (by simp only [hG0.c (k := 67) rfl (by decide)]) (by simp only [hG0.c (k := 47) rfl (by decide), hG0.c (k := 64) rfl (by decide)])
              · rcases pifD (by simp only [hG0.c (k := 47) rfl (by decide), hG0.c (k := 64) rfl (by decide)]) h1 h2 with ⟨h1, h2⟩ | ⟨h1, h2⟩
                · exact d_X11_hasValue_j236 hk hG0 h1 h2 rfl rfl (by simp only [hG0.c (k := 64) rfl (by decide)]) (by simp only [hG0.c (k := 67) rfl (by decide)]) (by simp only [hG0.c (k := 47) rfl (by decide), hG0.c (k := 64) rfl (by decide)])
                · rcases pifD (by simp only [hG0.c (k := 47) rfl (by decide), hG0.c (k := 64) rfl (by decide)]) h1 h2 with ⟨h1, h2⟩ | ⟨h1, h2⟩
                  · rcases pifD (by simp only [hG0.c (k := 67) rfl (by decide)]) h1 h2 with ⟨h1, h2⟩ | ⟨h1, h2⟩
                    · rcases pifD rfl h1 h2 with ⟨h1, h2⟩ | ⟨h1, h2⟩
                      · replace h1 := h1.2
                        replace h2 := h2.2
                        exact d_X11_hasValue_j305 hk hG0 h1 h2 rfl (by simp only [hG0.c (k := 50) rfl (by decide), hG0.c (k := 64) rfl (by decide)])
                      · replace h1 := h1.2
                        replace h2 := h2.2
                        exact d_X11_hasValue_j305 hk hG0 h1 h2 rfl (by simp only [hG0.c (k := 49) rfl (by decide), hG0.c (k := 64) rfl (by decide)])
                    · refine d_X11_ends (fun hG9 h1 h2 => ?_) hG0 h1 h2 rfl rfl
                      exact d_X11_hasValue_j661 hk hG9 h1 h2
                  · rcases pifD (by simp only [hG0.c (k := 47) rfl (by decide), hG0.c (k := 64) rfl (by decide)]) h1 h2 with ⟨h1, h2⟩ | ⟨h1, h2⟩
                    · rcases pifD (by simp only [hG0.c (k := 67) rfl (by decide)]) h1 h2 with ⟨h1, h2⟩ | ⟨h1, h2⟩
                      · replace h1 := h1.2
                        replace h2 := h2.2
                        refine d_X11_parts (fun hG12 h1 h2 => ?_) hG0 h1 h2 (by simp only [hG0.c (k := 49) rfl (by decide), hG0.c (k := 64) rfl (by decide)]) rfl rfl
                        exact d_X11_hasValue_j661 hk hG12 h1 h2
                      · refine d_X11_ends (fun hG11 h1 h2 => ?_) hG0 h1 h2 rfl rfl
                        exact d_X11_hasValue_j661 hk hG11 h1 h2
                    · rcases pifD (by simp only [hG0.c (k := 47) rfl (by decide), hG0.c (k := 64) rfl (by decide)]) h1 h2 with ⟨h1, h2⟩ | ⟨h1, h2⟩
                      · exact d_X11_hasValue_j627 hk hG0 h1 h2 rfl rfl
                      · rcases pifD (by simp only [hG0.c (k := 47) rfl (by decide), hG0.c (k := 64) rfl (by decide)]) h1 h2 with ⟨h1, h2⟩ | ⟨h1, h2⟩
                        · replace h1 := h1.2
                          replace h2 := h2.2
                          replace h1 := h1.2
                          replace h2 := h2.2
                          refine d_X11_opens (fun hG14 h1 h2 ev15 => ?_) hG0 h1 h2 (by simp only [hG0.c (k := 66) rfl (by decide)])
                          subst ev15
                          refine d_X11_asks (fun hG16 h1 h2 => ?_) hG14 h1 h2 (by simp only [hG0.c (k := 49) rfl (by decide), hG0.c (k := 64) rfl (by decide)]) rfl rfl
                          exact d_X11_hasValue_j661 hk hG16 h1 h2
                        · rcases pifD (by simp only [hG0.c (k := 47) rfl (by decide), hG0.c (k := 64) rfl (by decide)]) h1 h2 with ⟨h1, h2⟩ | ⟨h1, h2⟩
                          · replace h1 := h1.2
                            replace h2 := h2.2
                            refine d_X11_leavesTo (fun hG17 h1 h2 => ?_) hG0 h1 h2 rfl rfl (by simp only [hG0.c (k := 48) rfl (by decide), hG0.c (k := 64) rfl (by decide)]) rfl
                            exact d_X11_hasValue_j661 hk hG17 h1 h2
                          · rcases pifD (by simp only [hG0.c (k := 47) rfl (by decide), hG0.c (k := 64) rfl (by decide)]) h1 h2 with ⟨h1, h2⟩ | ⟨h1, h2⟩
                            · rcases pifD (by simp only [hG0.c (k := 67) rfl (by decide)]) h1 h2 with ⟨h1, h2⟩ | ⟨h1, h2⟩
                              · replace h1 := h1.2
                                replace h2 := h2.2
                                obtain ⟨G19a, eG19a, h1⟩ := h1
                                obtain ⟨G19b, eG19b, h2⟩ := h2
                                have hG19 : rl G19a G19b := by
                                  rw [eG19a, eG19b]
                                  exact rl_gu hG0 rfl rfl
                                replace h1 := h1.2
                                replace h2 := h2.2
                                refine d_X11_parts (fun hG20 h1 h2 => ?_) hG19 h1 h2 (by simp only [hG19.c (k := 49) rfl (by decide), hG0.c (k := 64) rfl (by decide)]) rfl rfl
                                exact d_X11_hasValue_j661 hk hG20 h1 h2
                              · replace h1 := h1.2
                                replace h2 := h2.2
                                refine d_X11_applies (fun hG18 h1 h2 => ?_) hG0 h1 h2 rfl (by simp only [hG0.c (k := 68) rfl (by decide)]) rfl
                                exact d_X11_hasValue_j661 hk hG18 h1 h2
                            · rcases pifD (by simp only [hG0.c (k := 47) rfl (by decide), hG0.c (k := 64) rfl (by decide)]) h1 h2 with ⟨h1, h2⟩ | ⟨h1, h2⟩
                              · refine d_X11_hasArgument (fun hG21 h1 h2 => ?_) hG0 h1 h2 rfl (by simp only [hG0.c (k := 64) rfl (by decide)]) (by simp only [hG0.c (k := 67) rfl (by decide)]) rfl
                                exact d_X11_hasValue_j661 hk hG21 h1 h2
                              · rcases pifD (by simp only [hG0.c (k := 47) rfl (by decide), hG0.c (k := 64) rfl (by decide)]) h1 h2 with ⟨h1, h2⟩ | ⟨h1, h2⟩
                                · refine d_X11_bodyOf (fun hG22 h1 h2 ev23 => ?_) hG0 h1 h2 rfl
                                  subst ev23
                                  replace h1 := h1.2
                                  replace h2 := h2.2
                                  rcases pifD (by simp only [hG22.c (k := 67) rfl (by decide)]) h1 h2 with ⟨h1, h2⟩ | ⟨h1, h2⟩
                                  · exact d_X11_hasValue_j473 hk hG22 h1 h2 rfl rfl
                                  · refine d_X11_bodyOf (fun hG25 h1 h2 ev26 => ?_) hG22 h1 h2 rfl
                                    subst ev26
                                    replace h1 := h1.2
                                    replace h2 := h2.2
                                    rcases pifD (by simp only [hG25.c (k := 67) rfl (by decide)]) h1 h2 with ⟨h1, h2⟩ | ⟨h1, h2⟩
                                    · exact d_X11_hasValue_j473 hk hG25 h1 h2 rfl rfl
                                    · refine d_X11_fails (fun hG27 h1 h2 => ?_) hG25 h1 h2 rfl rfl
                                      exact d_X11_hasValue_j661 hk hG27 h1 h2
                                · rcases pifD (by simp only [hG0.c (k := 47) rfl (by decide), hG0.c (k := 64) rfl (by decide)]) h1 h2 with ⟨h1, h2⟩ | ⟨h1, h2⟩
                                  · exact d_X11_hasValue_j627 hk hG0 h1 h2 rfl rfl
                                  · rcases pifD (by simp only [hG0.c (k := 47) rfl (by decide), hG0.c (k := 64) rfl (by decide)]) h1 h2 with ⟨h1, h2⟩ | ⟨h1, h2⟩
                                    · rcases pifD (by simp only [hG0.c (k := 67) rfl (by decide)]) h1 h2 with ⟨h1, h2⟩ | ⟨h1, h2⟩
                                      · refine d_X11_waits (fun hG29 h1 h2 => ?_) hG0 h1 h2 rfl (by simp only [hG0.c (k := 64) rfl (by decide)])
                                        exact d_X11_hasValue_j661 hk hG29 h1 h2
                                      · refine d_X11_isOver (fun hG28 h1 h2 => ?_) hG0 h1 h2 rfl
                                        exact d_X11_hasValue_j661 hk hG28 h1 h2
                                    · rcases pifD (by simp only [hG0.c (k := 47) rfl (by decide), hG0.c (k := 64) rfl (by decide)]) h1 h2 with ⟨h1, h2⟩ | ⟨h1, h2⟩
                                      · refine d_X11_yields (fun hG30 h1 h2 => ?_) hG0 h1 h2 rfl rfl
                                        exact d_X11_hasValue_j661 hk hG30 h1 h2
                                      · rcases pifD (by simp only [hG0.c (k := 47) rfl (by decide), hG0.c (k := 64) rfl (by decide)]) h1 h2 with ⟨h1, h2⟩ | ⟨h1, h2⟩
                                        · refine d_X11_asksOf (fun hG31 h1 h2 => ?_) hG0 h1 h2 rfl rfl
                                          exact d_X11_hasValue_j661 hk hG31 h1 h2
                                        · rcases pifD (by simp only [hG0.c (k := 47) rfl (by decide), hG0.c (k := 64) rfl (by decide)]) h1 h2 with ⟨h1, h2⟩ | ⟨h1, h2⟩
                                          · rcases pifD (by simp only [hG0.c (k := 67) rfl (by decide)]) h1 h2 with ⟨h1, h2⟩ | ⟨h1, h2⟩
                                            · replace h1 := h1.2
                                              replace h2 := h2.2
                                              replace h1 := h1.2
                                              replace h2 := h2.2
                                              replace h1 := h1.2
                                              replace h2 := h2.2
                                              obtain ⟨G34a, eG34a, h1⟩ := h1
                                              obtain ⟨G34b, eG34b, h2⟩ := h2
                                              have hG34 : rl G34a G34b := by
                                                rw [eG34a, eG34b]
                                                exact rl_gu hG0 rfl (by simp only [hG0.c (k := 56) rfl (by decide), hG0.c (k := 48) rfl (by decide), hG0.c (k := 64) rfl (by decide)])
                                              replace h1 := h1.2
                                              replace h2 := h2.2
                                              replace h1 := h1.2
                                              replace h2 := h2.2
                                              obtain ⟨G35a, eG35a, h1⟩ := h1
                                              obtain ⟨G35b, eG35b, h2⟩ := h2
                                              have hG35 : rl G35a G35b := by
                                                rw [eG35a, eG35b]
                                                exact rl_gu hG34 (by simp only [hG34.c (k := 48) rfl (by decide), hG0.c (k := 64) rfl (by decide)]) rfl
                                              replace h1 := h1.2
                                              replace h2 := h2.2
                                              refine d_X11_parts (fun hG36 h1 h2 => ?_) hG35 h1 h2 (by simp only [hG35.c (k := 50) rfl (by decide), hG0.c (k := 64) rfl (by decide)]) rfl rfl
                                              exact d_X11_hasValue_j661 hk hG36 h1 h2
                                            · replace h1 := h1.2
                                              replace h2 := h2.2
                                              replace h1 := h1.2
                                              replace h2 := h2.2
                                              replace h1 := h1.2
                                              replace h2 := h2.2
                                              obtain ⟨G32a, eG32a, h1⟩ := h1
                                              obtain ⟨G32b, eG32b, h2⟩ := h2
                                              have hG32 : rl G32a G32b := by
                                                rw [eG32a, eG32b]
                                                exact rl_gu hG0 (by simp only [hG0.c (k := 48) rfl (by decide), hG0.c (k := 64) rfl (by decide)]) (by simp only [hG0.c (k := 68) rfl (by decide)])
                                              refine d_X11_ends (fun hG33 h1 h2 => ?_) hG32 h1 h2 rfl rfl
                                              exact d_X11_hasValue_j661 hk hG33 h1 h2
                                          · rcases pifD (by simp only [hG0.c (k := 47) rfl (by decide), hG0.c (k := 64) rfl (by decide)]) h1 h2 with ⟨h1, h2⟩ | ⟨h1, h2⟩
                                            · replace h1 := h1.2
                                              replace h2 := h2.2
                                              replace h1 := h1.2
                                              replace h2 := h2.2
                                              obtain ⟨G37a, eG37a, h1⟩ := h1
                                              obtain ⟨G37b, eG37b, h2⟩ := h2
                                              have hG37 : rl G37a G37b := by
                                                rw [eG37a, eG37b]
                                                exact rl_gu hG0 rfl (by simp only [hG0.c (k := 67) rfl (by decide)])
                                              refine d_X11_goesOn (fun hG38 h1 h2 => ?_) hG37 h1 h2 rfl
                                              exact d_X11_hasValue_j661 hk hG38 h1 h2
                                            · exact d_X11_hasValue_j636 hk hG0 h1 h2 rfl rfl (by simp only [hG0.c (k := 47) rfl (by decide), hG0.c (k := 64) rfl (by decide)])
set_option maxHeartbeats 4000000 in
set_option maxRecDepth 100000 in
theorem d_X11_beginsNext_h59 {Φ : Prop} {K1 K2 : Int32 → Gt → Prop} (hk : ∀ {r s : Int32} {H1 H2 : Gt}, rl H1 H2 → K1 r H1 → K2 s H2 → s = r → Φ) : ∀ (i1 i2 : Nat) {G1 G2 : Gt}, rl G1 G2 → w_X11_beginsNext_h59 K1 i1 G1 → w_X11_beginsNext_h59 K2 i2 G2 → Φ := by
  intro i1
  induction i1 with
  | zero =>
    intro i2  G1 G2 hG0 h1 h2 
    exact h1.elim
  | succ i1 ih =>
    intro i2  G1 G2 hG0 h1 h2 
    cases i2 with
    | zero => exact h2.elim
    | succ i2 =>
      rw [w_X11_beginsNext_h59] at h1 h2
      rcases pifD (by simp only [hG0.s (j := 41) (by decide)]) h1 h2 with ⟨h1, h2⟩ | ⟨h1, h2⟩
      · exact hk hG0 h1 h2 rfl
      · replace h1 := h1.2
        replace h2 := h2.2
        rcases pifD (by simp only [hG0.c (k := 64) rfl (by decide), hG0.s (j := 57) (by decide)]) h1 h2 with ⟨h1, h2⟩ | ⟨h1, h2⟩
        · refine d_X11_bodyEnds (fun hG5 h1 h2 => ?_) hG0 h1 h2 (by simp only [hG0.s (j := 57) (by decide)])
          exact ih _ hG5 h1 h2
        · rcases pifD (by simp only [hG0.s (j := 41) (by decide)]) h1 h2 with ⟨h1, h2⟩ | ⟨h1, h2⟩
          · refine d_X11_hasValue (fun hG4 h1 h2 => ?_) hG0 h1 h2 (by simp only [hG0.s (j := 57) (by decide)]) (by simp only [hG0.s (j := 42) (by decide)])
            exact ih _ hG4 h1 h2
          · refine d_X11_hasNone (fun hG3 h1 h2 => ?_) hG0 h1 h2 (by simp only [hG0.s (j := 57) (by decide)])
            exact ih _ hG3 h1 h2
