/-! THE FIRST STATE -/
theorem i_c : G_init 1 7 = nI 0 ∧ G_init 46 0 = nI 0 ∧ G_init 16 0 = 40 ∧ G_init 14 2 = nI 1 ∧ G_init 20 2 = nI 0 ∧ G_init 59 0 = nI 0 ∧ G_init 20 3 = nI 0 ∧ G_init 61 0 = nI 0 ∧ G_init 25 2 = nI 0 ∧ G_init 59 1 = nI 0 ∧ G_init 25 3 = nI 0 ∧ G_init 61 1 = nI 0 ∧ ¬ G_init 60 0 = -1 ∧ ¬ G_init 60 4 = -1 ∧ G_init 19 7 = nI 0 ∧ G_init 46 14 = nI 0 ∧ G_init 19 8 = -1 ∧ G_init 46 12 = -1 ∧ G_init 40 0 = 0 ∧ G_init 46 66 = 0 ∧ G_init 40 1 = 0 ∧ G_init 46 67 = 0 ∧ G_init 40 2 = 50000 ∧ G_init 46 68 = 50000 ∧ G_init 40 3 = nI 0 ∧ G_init 46 69 = nI 0 ∧ G_init 0 4 = nI 300 ∧ G_init 46 13 = nI 300 ∧ G_init 46 52 = 0 := by decide +kernel
theorem i_52 : ∀ m, m < 120 → G_init 52 m = 0 ∧ G_init 11 m = 0 := by decide +kernel
theorem i_60 : ∀ k, k < 4 → (G_init 24 k = G_init 60 k ∧ (G_init 60 k = -1 ∨ G_init 60 k = nI 0)) ∧ (G_init 29 k = G_init 60 (4 + k) ∧ (G_init 60 (4 + k) = -1 ∨ G_init 60 (4 + k) = nI 0)) := by decide +kernel
theorem i_58 : ∀ p, p < 40 → (G_init 22 p = G_init 58 p ∧ G_init 58 p = nI 0) ∧ (G_init 27 p = G_init 58 (40 + p) ∧ G_init 58 (40 + p) = nI 0) := by decide +kernel
theorem i_35 : ∀ s, s < 6 → G_init 35 s = -1 ∧ G_init 54 s = -1 ∧ G_init 37 s = nI 0 ∧ G_init 53 s = nI 0 ∧ G_init 39 s = -1 ∧ G_init 55 s = -1 := by decide +kernel
theorem i_33 : ∀ k, k < 4 → G_init 33 k = 0 ∧ G_init 57 k = 0 ∧ G_init 31 k = 0 ∧ G_init 56 k = 0 := by decide +kernel
theorem jA_init : jA 0 G_init := by
  obtain ⟨c1, c2, c3, c4, c5, c6, c7, c8, c9, c10, c11, c12, c13, c14, c15, c16, c17, c18, c19, c20, c21, c22, c23, c24, c25, c26, c27, c28, c29⟩ := i_c
  refine ⟨⟨by decide, c1, c2, c3, fun m _ hm => i_52 m hm, 1, c4, by decide, by decide, fun m hm => absurd hm (Nat.not_lt_zero _)⟩, ⟨⟨0, 0, by decide, by decide, c5, c6, c7, c8, c13, fun k hk => ?_⟩, fun p hp => ?_⟩, ⟨⟨0, 0, by decide, by decide, c9, c10, c11, c12, c14, fun k hk => ?_⟩, fun p hp => ?_⟩, ⟨fun s hs => ?_, ⟨0, by decide, c15, c16⟩, c17.trans c18.symm, Or.inl c18⟩, fun s hs => ?_, fun k hk => ?_, fun k hk => ?_, ⟨c19.trans c20.symm, c21.trans c22.symm, c23.trans c24.symm, 0, by decide, c25, c26, fun p hp => absurd hp (Nat.not_lt_zero _)⟩, ⟨c27.trans c28.symm, 300, by decide, by decide, c28⟩, c29⟩
  · rw [Nat.mul_zero, Nat.zero_add]
    obtain ⟨⟨a, b⟩, _⟩ := i_60 k hk
    refine ⟨a, ?_⟩
    rcases b with b | b
    · exact Or.inl b
    · exact Or.inr ⟨0, Nat.le_refl _, b⟩
  · rw [Nat.mul_zero, Nat.zero_add]
    exact ⟨(i_58 p hp).1.1, 0, by decide, (i_58 p hp).1.2⟩
  · obtain ⟨_, a, b⟩ := i_60 k hk
    refine ⟨a, ?_⟩
    rcases b with b | b
    · exact Or.inl b
    · exact Or.inr ⟨0, Nat.le_refl _, b⟩
  · exact ⟨(i_58 p hp).2.1, 0, by decide, (i_58 p hp).2.2⟩
  · obtain ⟨a, b, c, d, e, f⟩ := i_35 s hs
    exact ⟨a.trans b.symm, Or.inl b⟩
  · obtain ⟨a, b, c, d, e, f⟩ := i_35 s hs
    exact ⟨c.trans d.symm, ⟨0, by decide, d⟩, e.trans f.symm, Or.inl f⟩
  · obtain ⟨a, b, c, d⟩ := i_33 k hk
    rw [a, b]
    exact ⟨rfl, by decide, by decide⟩
  · obtain ⟨a, b, c, d⟩ := i_33 k hk
    rw [c, d]
    exact ⟨rfl, by decide, by decide⟩
theorem IA_init : IA G_init := ⟨0, jA_init⟩
