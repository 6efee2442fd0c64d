/-! node, both sides -/
theorem emL_oth : ∀ (L : List (Int32 × Int32)) (G : Gt) (k j : Nat), ¬ k = 14 → ¬ k = 16 → ¬ k = 18 → emL L G k j = G k j := by
  intro L
  induction L with
  | nil => intro G k j _ _ _; rfl
  | cons q L ih =>
    intro G k j h1 h2 h3
    show emL L (em G q) k j = G k j
    rw [ih _ _ _ h1 h2 h3]
    unfold em
    rw [gu_oo _ h1, rput_oo h3, rput_oo h2]
theorem emL_14 : ∀ (L : List (Int32 × Int32)) (G : Gt) (j : Nat), ¬ j = 2 → emL L G 14 j = G 14 j := by
  intro L
  induction L with
  | nil => intro G j _; rfl
  | cons q L ih =>
    intro G j h
    show emL L (em G q) 14 j = G 14 j
    rw [ih _ _ h]
    unfold em
    rw [gu_ko _ h, rput_oo (by decide), rput_oo (by decide)]
theorem emL_spec : ∀ (L : List (Int32 × Int32)) (G : Gt) (U : Nat), G 14 2 = nI U → U + L.length ≤ 1081 →
    emL L G 14 2 = nI (U + L.length) ∧ (∀ q w d, L[q]? = some (w, d) → emL L G 16 (U + q) = w ∧ emL L G 18 (U + q) = d) ∧ ∀ j, j < U → emL L G 16 j = G 16 j ∧ emL L G 18 j = G 18 j := by
  intro L
  induction L with
  | nil => intro G U h _; exact ⟨h, by intro q w d hq; simp at hq, fun j _ => ⟨rfl, rfl⟩⟩
  | cons q L ih =>
    intro G U h hl
    simp only [List.length_cons] at hl
    have e1 : em G q = gu (gu (gu G 16 U q.1) 18 U q.2) 14 2 (nI (U + 1)) := by
      unfold em
      rw [h, rput_n (by omega) (by decide), rput_n (by omega) (by decide), nI_1]
    obtain ⟨a1, a2, a3⟩ := ih (em G q) (U + 1) (by rw [e1]; rfl) (by omega)
    show emL L (em G q) 14 2 = _ ∧ (∀ i w d, (q :: L)[i]? = some (w, d) → emL L (em G q) 16 (U + i) = w ∧ emL L (em G q) 18 (U + i) = d) ∧ ∀ j, j < U → emL L (em G q) 16 j = G 16 j ∧ emL L (em G q) 18 j = G 18 j
    refine ⟨by rw [a1, List.length_cons]; congr 1; omega, ?_, ?_⟩
    · intro i w d hi
      cases i with
      | zero =>
        simp only [List.getElem?_cons_zero, Option.some.injEq] at hi
        obtain ⟨b1, b2⟩ := a3 U (by omega)
        subst hi
        refine ⟨by rw [Nat.add_zero, b1, e1]; simp [gu], by rw [Nat.add_zero, b2, e1]; simp [gu]⟩
      | succ i =>
        rw [List.getElem?_cons_succ] at hi
        obtain ⟨b1, b2⟩ := a2 i w d hi
        rw [show U + (i + 1) = U + 1 + i by omega]
        exact ⟨b1, b2⟩
    · intro j hj
      obtain ⟨b1, b2⟩ := a3 j (by omega)
      rw [b1, b2, e1]
      have : ¬ j = U := by omega
      exact ⟨by simp [gu, this], by simp [gu, this]⟩
theorem codeOf_len (k a b c e : Int32) : (codeOf k a b c e).length ≤ 9 ∧ 1 ≤ (codeOf k a b c e).length := by
  have ip : ∀ (p : Prop) [Decidable p] (x y : List (Int32 × Int32)), (x.length ≤ 9 ∧ 1 ≤ x.length) → (y.length ≤ 9 ∧ 1 ≤ y.length) → ((if p then x else y).length ≤ 9 ∧ 1 ≤ (if p then x else y).length) := by
    intro p _ x y hx hy
    split
    · exact hx
    · exact hy
  unfold codeOf
  repeat (first | exact ⟨Nat.le_of_ble_eq_true rfl, Nat.le_of_ble_eq_true rfl⟩ | apply ip)
theorem okL_mono {N M : Nat} {l x : Int32} (h : okL N l x) (hM : N ≤ M) : okL M l x := by
  obtain ⟨h1, h2, h3⟩ := h
  refine ⟨fun e => ?_, fun e => ?_, h3⟩
  · obtain ⟨j, hj, q⟩ := h1 e; exact ⟨j, by omega, q⟩
  · rcases h2 e with q | ⟨j, hj, q⟩
    · exact Or.inl q
    · exact Or.inr ⟨j, by omega, q⟩
theorem okL_of {N d : Nat} {x : Int32} (hd : d < 9) (h1 : cbnP N d x True) (h2 : cbP d x) : okL N (Lt d) x := by
  unfold cbnP at h1
  unfold cbP at h2
  unfold okL
  have : d = 0 ∨ d = 1 ∨ d = 2 ∨ d = 3 ∨ d = 4 ∨ d = 5 ∨ d = 6 ∨ d = 7 ∨ d = 8 := by omega
  rcases this with rfl | rfl | rfl | rfl | rfl | rfl | rfl | rfl | rfl <;> simp [Lt] at h1 h2 ⊢ <;> first | exact h1 | exact h2 | (by_cases e : x = -1 <;> simp_all)
theorem nodeR_keep {N U U' m : Nat} {C R C' R' : Gt} (h : nodeR N U C R m) (hU : U ≤ U') (c3 : C' 3 m = C 3 m) (c5 : C' 5 m = C 5 m) (c7 : C' 7 m = C 7 m) (c9 : C' 9 m = C 9 m) (c11 : C' 11 m = C 11 m) (c13 : C' 13 m = C 13 m)
    (r47 : R' 47 m = R 47 m) (r48 : R' 48 m = R 48 m) (r49 : R' 49 m = R 49 m) (r50 : R' 50 m = R 50 m) (r51 : R' 51 m = R 51 m) (r52 : R' 52 m = R 52 m) (hc : ∀ j, j < U → C' 16 j = C 16 j ∧ C' 18 j = C 18 j) {N' : Nat} (hN : N ≤ N') : nodeR N' U' C' R' m := by
  obtain ⟨k, e, s, a1, a2, a3, a4, a5, a6, a7, a8, a9, a10, a11, a12, a13, a14, a15, a16, a17, a18⟩ := h
  refine ⟨k, e, s, a1, a2, a3, a4, by rw [c3, a5], by rw [r47, a6], by rw [c5, r48, a7], by rw [c7, r49, a8], by rw [c9, a9], by rw [r51, a10], by rw [c11, r52, a11], by rw [r52]; exact a12, by rw [c13, a13], by rw [r48, r49]; exact okL_mono a14 hN, by rw [r49]; exact okL_mono a15 hN, by rw [r49, r50]; exact okL_mono a16 hN, by rw [r48, r49, r50]; omega, ?_⟩
  rw [r48, r49, r50]
  intro q w d hq
  have hlt : q < (codeOf (nI k) (R 48 m) (R 49 m) (R 50 m) (nI e)).length := by
    have := List.getElem?_eq_some_iff.mp hq
    exact this.1
  obtain ⟨b1, b2⟩ := hc (e + q) (by omega)
  rw [b1, b2]
  exact a18 q w d hq
/-- a world that node has changed: what else stands -/
def chN (N U k j : Nat) : Prop := ((k = 3 ∨ k = 5 ∨ k = 7 ∨ k = 9 ∨ k = 13 ∨ k = 47 ∨ k = 48 ∨ k = 49 ∨ k = 50 ∨ k = 51) ∧ j = N) ∨ ((k = 16 ∨ k = 18) ∧ U ≤ j) ∨ (k = 1 ∧ j = 7) ∨ (k = 14 ∧ j = 2) ∨ (k = 46 ∧ (j = 0 ∨ j = 71)) ∨ (k = 83 ∧ j = 0)
theorem szC_R {N k d : Nat} {x : Int32} {G : Gt} (hN : N ≤ 120) (e17 : G 1 7 = nI N) (h9 : ∀ m, m < N → G 9 m = G 51 m) (hd : d < 9) (h38 : d = 7 → k = 38) (hn : k = 38 → ¬ d = 1 ∧ ¬ d = 8) (hk : k < 40) (hc : cbnP N d x True) : szC G (nI k) (Lt d) x = szR d x G := by
  have hh : (0 ≤ x ∧ x < G 1 7) ↔ ∃ i, i < N ∧ x = nI i := by rw [e17]; exact nI_b (by omega)
  have k38 : nI k = 38 ↔ k = 38 := nI_eq (b := 38) (by omega) (by decide)
  have rr : ∀ i, i < N → x = nI i → rat G 9 120 x = G 51 x.toNatClampNeg := by
    rintro i hi rfl
    rw [rat_n (by omega) (by decide), nI_clamp (by omega)]; exact h9 i hi
  unfold szC szR
  simp only [hh, k38]
  unfold cbnP at hc
  have : d = 0 ∨ d = 1 ∨ d = 2 ∨ d = 3 ∨ d = 4 ∨ d = 5 ∨ d = 6 ∨ d = 7 ∨ d = 8 := by omega
  rcases this with rfl | rfl | rfl | rfl | rfl | rfl | rfl | rfl | rfl <;> try (simp [Lt]; done)
  · obtain ⟨i, hi, ex⟩ := hc (Or.inl rfl)
    have n38 : ¬ k = 38 := fun z => (hn z).1 rfl
    rw [if_pos ⟨⟨Or.inl rfl, n38⟩, i, hi, ex⟩, if_pos (Or.inl rfl)]
    exact rr i hi ex
  · rw [if_neg (fun z => z.1.2 (h38 rfl)), if_neg (by simp)]
  · have n38 : ¬ k = 38 := fun z => (hn z).2 rfl
    by_cases ex : x = -1
    · rw [if_neg, if_neg (fun z => z.elim (fun y => by cases y) (fun y => y.2 ex))]
      rintro ⟨_, i, hi, e⟩
      exact nI_neg (j := i) (by omega) (e.symm.trans ex)
    · obtain ⟨i, hi, e⟩ := hc (Or.inr (Or.inr ⟨rfl, ex, trivial⟩))
      rw [if_pos ⟨⟨Or.inr rfl, n38⟩, i, hi, e⟩, if_pos (Or.inr ⟨rfl, ex⟩)]
      exact rr i hi e
theorem szR_n {N d : Nat} {x : Int32} {G : Gt} (hN : N ≤ 120) (hs : ∀ m, m < N → ∃ s, s ≤ 150 ∧ G 51 m = nI s) (hc : (d = 1 ∨ (d = 8 ∧ ¬ x = -1)) → ∃ i, i < N ∧ x = nI i) : ∃ s, s ≤ 150 ∧ szR d x G = nI s := by
  unfold szR
  split
  · rename_i h
    obtain ⟨i, hi, rfl⟩ := hc h
    rw [nI_clamp (by omega)]
    exact hs i hi
  · exact ⟨0, by omega, rfl⟩
