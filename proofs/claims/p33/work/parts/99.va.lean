/-! A VALUE ARRIVES -/
def va (N B : Nat) (z : Zt) (G : Gt) (x : Nat → Int32) (u k e p : Nat) : Prop := arr N B z G x 1 u k e p ∧ (G 116 u = nI (e + plo k p (cO (G 49 (z 1 u)) (G 50 (z 1 u)))) ∨ (k = 10 ∧ p = 2 ∧ G 116 u = nI (e + 5))) ∧ G 118 u = (if lao k p = 0 then 0 else nI (e + lao k p)) ∧ G 84 15 = 0 ∧ vV z (G 84 16) ∧ G 46 41 = 1 ∧ G 46 42 = G 84 16 ∧ G 46 57 = nI (z 6 u)
theorem va_s {N B : Nat} {z : Zt} {G : Gt} {x : Nat → Int32} {u k e p : Nat} (h : va N B z G x u k e p) : st N B z G x 1 0 u k e := ⟨h.1.1, h.1.2.1, h.1.2.2.1, h.1.2.2.2.1, h.1.2.2.2.2.1, h.1.2.2.2.2.2.1, h.1.2.2.2.2.2.2.1, h.1.2.2.2.2.2.2.2.1⟩
theorem va_x {N B : Nat} {z : Zt} {G : Gt} {x : Nat → Int32} {u k e p : Nat} (h : va N B z G x u k e p) (hk : ¬ k = 26) : ∀ o, o < 4 → x o = G 31 o := by
  intro o _
  rw [h.1.2.2.2.2.2.2.2.2.2.2.2 o, if_neg (fun q => hk q.1)]
theorem va_V {N B : Nat} {z : Zt} {G : Gt} {x : Nat → Int32} {u k e p : Nat} (h : va N B z G x u k e p) : xV z G u k p := h.1.2.2.2.2.2.2.2.2.2.1
theorem va_h {N B : Nat} {z : Zt} {G : Gt} {x : Nat → Int32} {u k e p : Nat} (h : va N B z G x u k e p) : vH G (z 6 u) (z 1 u) k := by
  obtain ⟨f1, f2, f3, f4, f5, f6, f7, f8, f9, f10, f11, f12, f13, f14⟩ := st_f (va_s h)
  exact ⟨h.2.2.2.2.2.1, h.2.2.2.2.2.2.2, f5, f6, by omega, h.1.2.2.2.2.2.2.1⟩
theorem va_p {N B : Nat} {z : Zt} {G : Gt} {x : Nat → Int32} {u k e p q : Nat} (h : va N B z G x u k e p) (hk : ¬ (k = 10 ∧ p = 2)) (hq : plo k p (cO (G 49 (z 1 u)) (G 50 (z 1 u))) = q) : G 116 u = nI (e + q) := by
  rcases h.2.1 with a | ⟨a1, a2, _⟩
  · rw [a, hq]
  · exact absurd ⟨a1, a2⟩ hk
theorem va_l {N B : Nat} {z : Zt} {G : Gt} {x : Nat → Int32} {u k e p : Nat} (h : va N B z G x u k e p) (hl : lao k p = 0) : G 118 u = 0 := by rw [h.2.2.1, if_pos hl]
theorem va_l' {N B : Nat} {z : Zt} {G : Gt} {x : Nat → Int32} {u k e p q : Nat} (h : va N B z G x u k e p) (hl : lao k p = q) (h0 : ¬ q = 0) : G 118 u = nI (e + q) := by rw [h.2.2.1, hl, if_neg h0]
theorem va_v {N B : Nat} {z : Zt} {G : Gt} {x : Nat → Int32} {u k e p : Nat} (h : va N B z G x u k e p) : vV z (G 84 16) ∧ G 46 42 = G 84 16 ∧ G 84 15 = 0 := ⟨h.2.2.2.2.1, h.2.2.2.2.2.2.1, h.2.2.2.1⟩
theorem st_k {N B : Nat} {z : Zt} {G : Gt} {x : Nat → Int32} {sp fp u k e : Nat} (h : st N B z G x sp fp u k e) : okL N (shp (nI k) 0 (G 49 (z 1 u))) (G 48 (z 1 u)) ∧ okL N (shp (nI k) 1 (G 49 (z 1 u))) (G 49 (z 1 u)) ∧ okL N (shp (nI k) 2 (G 49 (z 1 u))) (G 50 (z 1 u)) :=
  (node_k h.1.1.1 (st_f h).2.1 h.2.2.2.2.2.2.1 h.2.2.2.2.1).2.2.2
/-- what a frame of no great kind holds while it waits -/
theorem xV_mk {z : Zt} {G : Gt} {i k p : Nat} (h1 : p = 1 ∨ p = 2) (h36 : ¬ k = 36) (h26 : ¬ k = 26) (h21 : ¬ k = 21) (h67 : G 67 (z 6 i) = nI (p - 1)) (h3 : p = 2 → ((4 ≤ k ∧ k ≤ 9) ∨ k = 17 ∨ k = 18) → G 122 i = G 68 (z 6 i) ∧ vV z (G 122 i)) (hpc : (((k = 20 ∧ p = 1) ∨ (k = 17 ∧ p ≤ 2) ∨ (k = 18 ∧ p ≤ 2) ∨ (k = 25 ∧ p = 1) ∨ (k = 29 ∧ p = 1)) → z 19 i = 1 ∧ (k = 18 → ¬ G 49 (z 1 i) = -1 ∧ (p = 2 → ¬ G 50 (z 1 i) = -1)))) : xV z G i k p := by
  refine ⟨⟨fun q _ => ?_, fun q => ?_⟩, fun q => absurd q h36, fun q1 q2 => h3 q1 ?_, fun q => absurd q h26, fun q => absurd q h21, hpc, fun q => absurd q h21, fun q => by omega, fun q1 q2 => by omega⟩
  · rw [h67, q]; rfl
  · rw [h67, q]; rfl
  · rcases q2 with a | a | a | a
    · exact Or.inl a
    · exact Or.inr (Or.inl a)
    · exact Or.inr (Or.inr a)
    · exact absurd a h26
theorem xV_67a {z : Zt} {G : Gt} {i k : Nat} (h : xV z G i k 1) (h36 : ¬ k = 36) : G 67 (z 6 i) = 0 := h.1.1 rfl h36
theorem xV_67b {z : Zt} {G : Gt} {i k : Nat} (h : xV z G i k 2) : G 67 (z 6 i) = 1 := h.1.2 rfl
theorem xV_pc {z : Zt} {G : Gt} {i k p : Nat} (h : xV z G i k p) : ((k = 20 ∧ p = 1) ∨ (k = 17 ∧ p ≤ 2) ∨ (k = 18 ∧ p ≤ 2) ∨ (k = 25 ∧ p = 1) ∨ (k = 29 ∧ p = 1)) → z 19 i = 1 ∧ (k = 18 → ¬ G 49 (z 1 i) = -1 ∧ (p = 2 → ¬ G 50 (z 1 i) = -1)) := h.2.2.2.2.2.1
theorem xV_kept {z : Zt} {G : Gt} {i k : Nat} (h : xV z G i k 2) (hk : (4 ≤ k ∧ k ≤ 9) ∨ k = 17 ∨ k = 18) : G 122 i = G 68 (z 6 i) ∧ vV z (G 122 i) := h.2.2.1 rfl (by omega)
