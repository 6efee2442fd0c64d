/-! what stands between two calls: the program, the world, the last report, as class (C) and reference (R) have them -/
def okL (N : Nat) (l x : Int32) : Prop :=
  (l = 112 → ∃ j, j < N ∧ x = nI j) ∧ (l = 111 → x = -1 ∨ ∃ j, j < N ∧ x = nI j) ∧ (l = 118 → -9999 ≤ x ∧ x ≤ 9999) ∧ (l = 110 → ∃ j, j < 8 ∧ x = nI j) ∧ (l = 113 → ∃ j, j < 4 ∧ x = nI j) ∧ (l = 115 → ∃ j, j < 6 ∧ x = nI j) ∧ (l = 104 → x = -1 ∨ ∃ j, j < 6 ∧ x = nI j) ∧ (l = 45 → x = -1)
/-- one node of both: N nodes, U places of the code in use -/
def nodeR (N U : Nat) (C R : Gt) (m : Nat) : Prop :=
  ∃ k e s : Nat, k < 40 ∧ 1 ≤ e ∧ 1 ≤ s ∧ s ≤ 150 ∧ C 3 m = nI k ∧ R 47 m = nI k ∧ C 5 m = R 48 m ∧ C 7 m = R 49 m ∧ C 9 m = nI s ∧ R 51 m = nI s ∧ C 11 m = R 52 m ∧ bz (R 52 m) ∧ C 13 m = nI e ∧
    okL N (shp (nI k) 0 (R 49 m)) (R 48 m) ∧ okL N (shp (nI k) 1 (R 49 m)) (R 49 m) ∧ okL N (shp (nI k) 2 (R 49 m)) (R 50 m) ∧
    e + (codeOf (nI k) (R 48 m) (R 49 m) (R 50 m) (nI e)).length ≤ U ∧
    ∀ q w d, (codeOf (nI k) (R 48 m) (R 49 m) (R 50 m) (nI e))[q]? = some (w, d) → C 16 (e + q) = w ∧ C 18 (e + q) = d
def gP (N : Nat) (C R : Gt) : Prop :=
  N ≤ 120 ∧ C 1 7 = nI N ∧ R 46 0 = nI N ∧ C 16 0 = 40 ∧ (∀ m, N ≤ m → m < 120 → R 52 m = 0 ∧ C 11 m = 0) ∧ ∃ U, C 14 2 = nI U ∧ 1 ≤ U ∧ U ≤ 1 + 9 * N ∧ ∀ m, m < N → nodeR N U C R m
/-- a text: the class's object at a, its letters at a + 2, its places at a + 4; the reference's at b -/
def gT (a b : Nat) (C R : Gt) : Prop :=
  (∃ l c, l ≤ 40 ∧ c < 4 ∧ C a 2 = nI l ∧ R 59 b = nI l ∧ C a 3 = nI c ∧ R 61 b = nI c ∧ ¬ R 60 (4 * b + c) = -1 ∧ ∀ k, k < 4 → C (a + 4) k = R 60 (4 * b + k) ∧ (R 60 (4 * b + k) = -1 ∨ ∃ j, j ≤ l ∧ R 60 (4 * b + k) = nI j)) ∧
  ∀ p, p < 40 → C (a + 2) p = R 58 (40 * b + p) ∧ ∃ j, j < 26 ∧ R 58 (40 * b + p) = nI j
abbrev isnum (x : Int32) : Prop := -9999 ≤ x ∧ x ≤ 9999
/-- the slots, the hook, the buffer -/
def gS0 (N : Nat) (C R : Gt) : Prop :=
  (∀ s, s < 6 → (C 35 s = R 54 s ∧ (R 54 s = -1 ∨ ∃ j, j < N ∧ R 54 s = nI j))) ∧
  (∃ b, b < 2 ∧ C 19 7 = nI b ∧ R 46 14 = nI b) ∧ C 19 8 = R 46 12 ∧ (R 46 12 = -1 ∨ ∃ s, s < 6 ∧ R 46 12 = nI s)
/-- what no run changes -/
def gS1 (N : Nat) (C R : Gt) : Prop :=
  ∀ s, s < 6 → C 37 s = R 53 s ∧ (∃ j, j < 3 ∧ R 53 s = nI j) ∧ C 39 s = R 55 s ∧ (R 55 s = -1 ∨ ∃ j, j < N ∧ R 55 s = nI j)
def gRg (C R : Gt) : Prop := ∀ k, k < 4 → C 33 k = R 57 k ∧ isnum (R 57 k)
def gOp (C R : Gt) : Prop := ∀ k, k < 4 → C 31 k = R 56 k ∧ isnum (R 56 k)
/-- what is told of the last run -/
def gL (C R : Gt) : Prop :=
  C 40 0 = R 46 66 ∧ C 40 1 = R 46 67 ∧ C 40 2 = R 46 68 ∧ ∃ c, c ≤ 13 ∧ C 40 3 = nI c ∧ R 46 69 = nI c ∧ ∀ p, p < c → C 42 p = R 82 p
def gB (C R : Gt) : Prop := C 0 4 = R 46 13 ∧ ∃ b, 1 ≤ b ∧ b ≤ 600 ∧ R 46 13 = nI b
def gAll (N : Nat) (G : Gt) : Prop := gP N G G ∧ gT 20 0 G G ∧ gT 25 1 G G ∧ gS0 N G G ∧ gS1 N G G ∧ gRg G G ∧ gL G G ∧ gB G G
/-! ranges -/
theorem nI_b {N : Nat} (hN : N < 2 ^ 31) {x : Int32} : (0 ≤ x ∧ x < nI N) ↔ ∃ i, i < N ∧ x = nI i := by
  constructor
  · intro h; exact nI_ex h.1 h.2 hN
  · rintro ⟨i, h, rfl⟩; exact ⟨nI_pos' (by omega), nI_lt h hN⟩
theorem nI_b1 {N : Nat} (hN : N < 2 ^ 31) {x : Int32} : (0 ≤ x ∧ x ≤ nI N - 1) ↔ ∃ i, i < N ∧ x = nI i := by
  cases N with
  | zero =>
    constructor
    · intro h
      have h1 := h.1
      have h2 := h.2
      rw [Int32.le_iff_toInt_le] at h1 h2
      have e : (nI 0 - 1).toInt = -1 := by decide
      rw [e] at h2; rw [int32_0] at h1; omega
    · rintro ⟨i, h, _⟩; omega
  | succ N =>
    rw [nI_pred]
    constructor
    · intro h
      obtain ⟨j, hj, e⟩ := nI_of (le_not_lt h.1)
      subst e
      exact ⟨j, by have := (nI_leI hj (by omega)).mp h.2; omega, rfl⟩
    · rintro ⟨i, h, rfl⟩; exact ⟨nI_pos' (by omega), nI_le (by omega) (by omega)⟩
theorem bi_eq {p q : Prop} [Decidable p] [Decidable q] (h : p ↔ q) : bi p = bi q := by unfold bi; simp [h]
theorem lit_b {x b : Int32} {N : Nat} (e : b = nI N) (hN : N < 2 ^ 31) : (0 ≤ x ∧ x < b) ↔ ∃ i, i < N ∧ x = nI i := by rw [e]; exact nI_b hN
theorem lit_b1 {x b : Int32} {N : Nat} (e : b + 1 = nI N) (hN : N < 2 ^ 31) : (0 ≤ x ∧ x ≤ b) ↔ ∃ i, i < N ∧ x = nI i := by
  have : b = nI N - 1 := by rw [← e, Int32.add_sub_cancel]
  rw [this]; exact nI_b1 hN
/-! the end of each call in the law -/
def cmpt (I : Gt → Prop) (v1 v4 : Int32) (G3 : Gt) : Prop := w_X11_thrown (fun v6 G5 => pif (v6 = v1) (pif (v1 = 0) (pif ((G5 83 (0 : Int32).toNatClampNeg) = v4) (I G5) False) (I G5)) False) G3
theorem cmpt_0 {I : Gt → Prop} {v4 : Int32} {G3 : Gt} (h1 : G3 46 71 = 0) (h2 : G3 83 0 = v4) (h : I G3) : cmpt I 0 v4 G3 := s11_thrown (pif_p h1 (pif_p rfl (pif_p h2 h)))
theorem cmpt_x {I : Gt → Prop} {v1 v4 : Int32} {G3 : Gt} (hv : ¬ v1 = 0) (h1 : G3 46 71 = v1) (h : I G3) : cmpt I v1 v4 G3 := s11_thrown (pif_p h1 (pif_n hv h))
theorem thr_0 {a b c : Int32} (ha : ¬ a = 0) (hb : ¬ b = 0) (hc : ¬ c = 0) : thr a b c = 0 := by rw [thr, if_neg ha, if_neg hb, if_neg hc]
theorem thr_1 {a b c : Int32} (ha : a = 0) : thr a b c = 1 := by rw [thr, if_pos ha]
theorem thr_2 {a b c : Int32} (ha : ¬ a = 0) (hb : b = 0) : thr a b c = 2 := by rw [thr, if_neg ha, if_pos hb]
theorem thr_3 {a b c : Int32} (ha : ¬ a = 0) (hb : ¬ b = 0) (hc : c = 0) : thr a b c = 3 := by rw [thr, if_neg ha, if_neg hb, if_pos hc]
/-- goes, by what it comes to -/
theorem goes_y {K : Int32 → Gt → Prop} {a b c : Int32} {G : Gt} (ha : ¬ a = 0) (hb : ¬ b = 0) (hc : ¬ c = 0) (h : K 1 (gu G 46 71 0)) : w_X11_goes K a b c G := s11_goes (by rw [thr_0 ha hb hc]; exact h)
theorem goes_n {K : Int32 → Gt → Prop} {a b c t : Int32} {G : Gt} (ht : thr a b c = t) (h0 : ¬ t = 0) (h : K 0 (gu G 46 71 t)) : w_X11_goes K a b c G := s11_goes (by rw [ht, bi_F h0]; exact h)
