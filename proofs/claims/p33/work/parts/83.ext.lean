/-! what waits stays as it is, while others go on -/
def eX (N : Nat) (z : Zt) (G : Gt) (z' : Zt) (G' : Gt) : Prop :=
  (z 0 0 ≤ z' 0 0 ∧ z 0 4 ≤ z' 0 4 ∧ z 0 5 ≤ z' 0 5 ∧ z 0 2 ≤ z' 0 2 ∧ z 0 6 ≤ z' 0 6) ∧
  (∀ i, i < z 0 0 → z' 1 i = z 1 i ∧ z' 2 i = z 2 i ∧ z' 3 i = z 3 i ∧ z' 8 i = z 8 i ∧ z' 6 i = z 6 i) ∧
  (∀ i, i < z 0 0 → ¬ z 11 i = 0 → z' 11 i = z 11 i) ∧ (∀ i, i < z 0 0 → z 9 i = 0 → z' 9 i = 0 ∧ G' 120 i = G 120 i) ∧
  (∀ s, s < z 0 2 → z' 13 s = z 13 s) ∧ (∀ m, m < N → G' 13 m = G 13 m ∧ G' 47 m = G 47 m ∧ G' 48 m = G 48 m ∧ G' 49 m = G 49 m ∧ G' 50 m = G 50 m) ∧
  (∀ j, j < 6 * z 0 6 → G' 80 j = G 80 j) ∧ (∀ l, l < 6 → ¬ G 54 l = -1 → ¬ G' 54 l = -1)
/-- what all of these need of the frames -/
def fX (N : Nat) (z : Zt) : Prop := (∀ i, i < z 0 0 → z 1 i < N) ∧ (∀ i, i < z 0 0 → z 2 i = 0 → z 3 i < i) ∧ ∀ i, i < z 0 0 → z 8 i ≤ i
theorem vV_ext {N : Nat} {z z' : Zt} {G G' : Gt} {x : Int32} (h : eX N z G z' G') (hv : vV z x) : vV z' x := by
  obtain ⟨⟨_, h2, h3, _⟩, _⟩ := h
  rcases hv with a | ⟨j, hj, e⟩ | ⟨j, hj, e⟩
  · exact Or.inl a
  · exact Or.inr (Or.inl ⟨j, by omega, e⟩)
  · exact Or.inr (Or.inr ⟨j, by omega, e⟩)
theorem itp_lt {z : Zt} {n : Nat} (hp : ∀ i, i < n → z 2 i = 0 → z 3 i < i) : ∀ (k u : Nat), u < n → (∀ j, j < k → z 2 (itp (z 3) j u) = 0) → ∀ j, j ≤ k → itp (z 3) j u < n := by
  intro k
  induction k with
  | zero => intro u hu _ j hj; have : j = 0 := by omega
            subst this; exact hu
  | succ k ih =>
    intro u hu h j hj
    cases j with
    | zero => exact hu
    | succ j =>
      have h0 := hp u hu (h 0 (by omega))
      exact ih (z 3 u) (by omega) (fun i hi => h (i + 1) (by omega)) j (by omega)
theorem itp_eq {z z' : Zt} {n : Nat} (hp : ∀ i, i < n → z 2 i = 0 → z 3 i < i) (he : ∀ i, i < n → z' 3 i = z 3 i) : ∀ (k u : Nat), u < n → (∀ j, j < k → z 2 (itp (z 3) j u) = 0) → ∀ j, j ≤ k → itp (z' 3) j u = itp (z 3) j u := by
  intro k
  induction k with
  | zero => intro u hu _ j hj; have : j = 0 := by omega
            subst this; rfl
  | succ k ih =>
    intro u hu h j hj
    cases j with
    | zero => rfl
    | succ j =>
      have h0 := hp u hu (h 0 (by omega))
      show itp (z' 3) j (z' 3 u) = itp (z 3) j (z 3 u)
      rw [he u hu]
      exact ih (z 3 u) (by omega) (fun i hi => h (i + 1) (by omega)) j (by omega)
theorem lW_ext {N : Nat} {z z' : Zt} {G G' : Gt} {l u t : Nat} (h : eX N z G z' G') (hf : fX N z) (hu : u < z 0 0) (hw : lW z G l u t) : lW z' G' l u t := by
  obtain ⟨_, h2, _, _, _, h6, _⟩ := h
  obtain ⟨k, a, b, c⟩ := hw
  have e1 := itp_eq (z := z) (z' := z') hf.2.1 (fun i hi => (h2 i hi).2.2.1) k u hu (fun j hj => (a j hj).2)
  have e2 := itp_lt (z := z) hf.2.1 k u hu (fun j hj => (a j hj).2)
  have eL : ∀ v, v < z 0 0 → (isL z' G' l v ↔ isL z G l v) := by
    intro v hv
    have hN := hf.1 v hv
    unfold isL
    rw [(h2 v hv).1, (h6 _ hN).2.1, (h6 _ hN).2.2.1]
  refine ⟨k, fun j hj => ?_, ?_, ?_⟩
  · rw [e1 j (by omega), eL _ (e2 j (by omega)), (h2 _ (e2 j (by omega))).2.1]
    exact a j hj
  · rw [e1 k (by omega), eL _ (e2 k (by omega))]; exact b
  · rw [e1 k (by omega)]; exact c
theorem cH_ext {N : Nat} {z z' : Zt} {G G' : Gt} {c r : Int32} {d : Nat} (h : eX N z G z' G') (hc : cH z c r d) : cH z' c r d := by
  obtain ⟨⟨h1, _⟩, h2, h3, _⟩ := h
  rcases hc with a | ⟨i, hi, e1, e2, e3, e4⟩
  · exact Or.inl a
  · exact Or.inr ⟨i, by omega, e1, by rw [(h2 i hi).2.2.2.2]; exact e2, by rw [h3 i hi (by omega)]; exact e3, e4⟩
theorem oU_ext {N : Nat} {z z' : Zt} {G G' : Gt} {i c c' : Nat} {c15 c16 c18 c17 r41 r42 r43 r44 r45 r46 : Int32} (h : eX N z G z' G') (hf : fX N z) (hi : i < z 0 0) (hcc : c < z 0 0 → z' 9 c = 0 ∧ G' 120 c = G 120 c ∨ (c' = c ∧ G' 120 c = G 120 c))
    (ho : oU z G i c c15 c16 c18 c17 r41 r42 r43 r44 r45 r46) : oU z' G' i c' c15 c16 c18 c17 r41 r42 r43 r44 r45 r46 := by
  have h2 := h.2.1
  have h4 := h.2.2.2.1
  have h1 := h.1.1
  have hP : z 2 i = 0 → z 3 i < z 0 0 := fun e => by have := hf.2.1 i hi e; omega
  rcases ho with ⟨a1, a2, a3, a4⟩ | ⟨a1, a2, a3, a4, a5, d, t, a6, a7, a8, a9, a10, a11⟩ | ⟨a1, a2, a3, a4, a5, l, t, a6, a7, a8, a9, a10⟩ | ⟨a1, a2, a5, l, t, a6, a7, a8, a9, a10⟩ | ⟨a1, a2, a3⟩
  · exact Or.inl ⟨a1, a2, a3, vV_ext h a4⟩
  · refine Or.inr (Or.inl ⟨a1, a2, a3, a4, a5, d, t, by omega, a7, by rw [(h2 d a6).1]; exact a8, a9, ?_, ?_⟩)
    · have e : G' 120 d = G 120 d := by
        rcases a11 with z0 | z0
        · exact (h4 d a6 z0).2
        · subst z0
          rcases hcc a6 with z1 | z1
          · exact z1.2
          · exact z1.2
      rw [e]; exact cH_ext h a10
    · rcases a11 with z0 | z0
      · exact Or.inl (h4 d a6 z0).1
      · subst z0
        rcases hcc a6 with z1 | z1
        · exact Or.inl z1.1
        · exact Or.inr z1.1.symm
  · exact Or.inr (Or.inr (Or.inl ⟨a1, a2, a3, vV_ext h a4, by rw [(h2 i hi).2.1]; exact a5, l, t, a6, a7, a8, by omega, by rw [(h2 i hi).2.2.1]; exact lW_ext h hf (hP a5) a10⟩))
  · exact Or.inr (Or.inr (Or.inr (Or.inl ⟨a1, a2, by rw [(h2 i hi).2.1]; exact a5, l, t, a6, a7, a8, by omega, by rw [(h2 i hi).2.2.1]; exact lW_ext h hf (hP a5) a10⟩)))
  · refine Or.inr (Or.inr (Or.inr (Or.inr ⟨a1, a2, ?_⟩)))
    have hr : z 8 i < z 0 0 := by have := hf.2.2 i hi; omega
    rw [(h2 i hi).2.2.2.1, (h2 _ hr).2.1]
    rcases a3 with ⟨b1, b2, b3⟩ | b1
    · exact Or.inl ⟨b1, b2, vV_ext h b3⟩
    · exact Or.inr b1
theorem dV_ext {N : Nat} {z z' : Zt} {G G' : Gt} {i : Nat} (h : eX N z G z' G') (hf : fX N z) (hi : i < z 0 0) (h600 : z 0 0 ≤ 600) (p9 : z' 9 i = z 9 i) (p19 : z' 19 i = z 19 i) (p20 : z' 20 i = z 20 i)
    (c116 : G' 116 i = G 116 i) (c118 : G' 118 i = G 118 i) (c122 : G' 122 i = G 122 i) (c124 : G' 124 i = G 124 i) (c126 : G' 126 i = G 126 i) (c128 : G' 128 i = G 128 i)
    (r67 : G' 67 (z 6 i) = G 67 (z 6 i)) (r68 : G' 68 (z 6 i) = G 68 (z 6 i)) (r69 : G' 69 (z 6 i) = G 69 (z 6 i)) (hd : dV z G i) : dV z' G' i := by
  have hN := hf.1 i hi
  obtain ⟨⟨h1a, h1b, h1c, h1d, h1e⟩, h2, h3, h4, h5, h6, h7, h8⟩ := id h
  obtain ⟨s1, s2, s3, s4, s5⟩ := h2 i hi
  obtain ⟨t1, t2, t3, t4, t5⟩ := h6 _ hN
  obtain ⟨k, e, a1, a1e, a2, a3, a4, a5, a6, x1, x2, x3, x4, x5, x6, x7, x8, x9⟩ := hd
  refine ⟨k, e, a1, a1e, by rw [s1, t2]; exact a2, by rw [s1, t1]; exact a3, by rw [p9]; exact a4, by rw [p9, s1, t4, t5, c116]; exact a5, by rw [p9, c118]; exact a6, ?_, ?_, ?_, ?_, ?_, ?_, ?_, ?_, ?_⟩
  · rw [p9, s5, r67]; exact x1
  · rw [s5, r67, r68, r69, c122, c124, c126]; exact x2
  · rw [p9, s5, r68, c122]
    intro q1 q2
    exact ⟨(x3 q1 q2).1, vV_ext h (x3 q1 q2).2⟩
  · rw [p9, c124]; exact x4
  · rw [p9]
    intro q1 q2
    obtain ⟨w, w1, w2, w3⟩ := x5 q1 q2
    refine ⟨w, by omega, by rw [s5, r68]; exact w2, ?_⟩
    rw [c122, c124, c126, c128, h7 _ (by omega), h7 _ (by omega), h7 _ (by omega), h7 _ (by omega), h7 _ (by omega), h7 _ (by omega)]
    exact oU_ext h hf hi (fun q => absurd q (by omega)) w3
  · rw [p9, p19, s1, t4, t5]; exact x6
  · rw [p9, p20]; exact x7
  · rw [p9]
    intro q1
    obtain ⟨s, l, w1, w2, w3, w4, w5, w6, w7, w8⟩ := x8 q1
    refine ⟨s, l, by omega, w2, by rw [c124, h5 s w1]; exact w3, by rw [s5, r69]; exact w4, by rw [c126]; exact w5, h8 l w2 w6, by rw [s1, t3]; exact w7, by rw [s5, r67]; exact w8⟩
  · rw [p9, c122, s5, r68]; exact x9
