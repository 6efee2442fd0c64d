/-! LEVEL 2: numbers alone. Small words. -/
def bi (p : Prop) [Decidable p] : Int32 := if p then 1 else 0
theorem bi_z {p : Prop} [Decidable p] : (bi p = 0) ↔ ¬ p := by unfold bi; split <;> simp_all
theorem bi_o {p : Prop} [Decidable p] : (bi p = 1) ↔ p := by unfold bi; split <;> simp_all
theorem bz_bi {p : Prop} [Decidable p] : bz (bi p) := by unfold bi bz; split <;> simp
theorem bi_T {p : Prop} [Decidable p] (h : p) : bi p = 1 := by simp [bi, h]
theorem bi_F {p : Prop} [Decidable p] (h : ¬ p) : bi p = 0 := by simp [bi, h]
theorem bz_0 : bz 0 := Or.inl rfl
theorem bz_1 : bz 1 := Or.inr rfl
theorem ibl_bi (x b : Int32) : ibl x b = bi (0 ≤ x ∧ x < b) := rfl
theorem inm_bi (x : Int32) : inm x = bi (-9999 ≤ x ∧ x ≤ 9999) := rfl
theorem iam_bi (x : Int32) : iam x = bi (1 ≤ x ∧ x ≤ 600) := rfl
theorem pif_t {A B : Prop} : pif True A B ↔ A := ⟨fun h => h.1 trivial, fun h => ⟨fun _ => h, fun z => absurd trivial z⟩⟩
theorem pif_f {A B : Prop} : pif False A B ↔ B := ⟨fun h => h.2 (fun z => z), fun h => ⟨fun z => z.elim, fun _ => h⟩⟩
theorem pif_p {P A B : Prop} (h : P) (a : A) : pif P A B := ⟨fun _ => a, fun z => absurd h z⟩
theorem pif_n {P A B : Prop} (h : ¬ P) (b : B) : pif P A B := ⟨fun z => absurd z h, fun _ => b⟩
theorem pif_not {P A B : Prop} : pif (¬ P) A B ↔ pif P B A := by
  constructor
  · intro h; exact ⟨fun p => h.2 (fun z => z p), fun p => h.1 p⟩
  · intro h; exact ⟨fun p => h.2 p, fun p => h.1 (Decidable.byContradiction (dec := Classical.propDecidable _) p)⟩
theorem pt_of {G : Gt} {F : Gt → Prop} (h : F G) : pt G F := pt_iff.mpr h
theorem gu_at (G : Gt) (k j : Nat) (v : Int32) (a b : Nat) : gu G k j v a b = if a = k ∧ b = j then v else G a b := by
  unfold gu
  by_cases h1 : a = k
  · by_cases h2 : b = j <;> simp [h1, h2]
  · simp [h1]
theorem gu_kk (G : Gt) (k j : Nat) (v : Int32) : gu G k j v k j = v := by simp [gu]
theorem gu_ko (G : Gt) {k j b : Nat} {v : Int32} (h : b ≠ j) : gu G k j v k b = G k b := by simp [gu, h]
theorem gu_oo (G : Gt) {k j a b : Nat} {v : Int32} (h : a ≠ k) : gu G k j v a b = G a b := by simp [gu, h]
theorem rat_n {G : Gt} {a N i : Nat} (hi : i < N) (hN : N < 2 ^ 31) : rat G a N (nI i) = G a i := by
  unfold rat
  rw [if_pos ⟨nI_pos' (by omega), nI_lt hi hN⟩, nI_clamp (by omega)]
theorem rput_n {G : Gt} {a N i : Nat} {v : Int32} (hi : i < N) (hN : N < 2 ^ 31) : rput G a N (nI i) v = gu G a i v := by
  unfold rput
  rw [if_pos ⟨nI_pos' (by omega), nI_lt hi hN⟩, nI_clamp (by omega)]
theorem vp_n {N i : Nat} (hi : i < N) (hN : N < 2 ^ 31) : vp_in (nI i) N := vp_in_nI hi hN
/-- an int in range is some nI -/
theorem nI_ex {x : Int32} {n : Nat} (h0 : 0 ≤ x) (h1 : x < nI n) (hn : n < 2 ^ 31) : ∃ i, i < n ∧ x = nI i := by
  refine ⟨x.toInt.toNat, ?_, ?_⟩
  · rw [Int32.lt_iff_toInt_lt, nI_toInt hn] at h1
    rw [Int32.le_iff_toInt_le, int32_0] at h0
    omega
  · rw [Int32.le_iff_toInt_le, int32_0] at h0
    apply Int32.toInt_inj.mp
    have hlt := x.toInt_lt
    rw [nI_toInt (by omega)]
    omega
/-! the reference's small questions -/
theorem s11_in {K : Int32 → Gt → Prop} {x lo hi : Int32} {G : Gt} (h : K (bi (lo ≤ x ∧ x ≤ hi)) G) : w_X11_in K x lo hi G := by
  unfold w_X11_in w_X11_in_j14 w_X11_in_j15
  refine ⟨fun h1 => ⟨bz_0, ?_⟩, fun h1 => ⟨fun h2 => ⟨bz_0, ?_⟩, fun h2 => ⟨bz_1, ?_⟩⟩⟩
  · rwa [bi_F (fun z => le_not_lt z.1 h1)] at h
  · rwa [bi_F (fun z => le_not_lt z.2 h2)] at h
  · rwa [bi_T ⟨not_lt_le h1, not_lt_le h2⟩] at h
theorem s11_isNode {K : Int32 → Gt → Prop} {x : Int32} {G : Gt} (h : K (bi (0 ≤ x ∧ x ≤ G 46 0 - 1)) G) : w_X11_isNode K x G := s11_in ⟨bz_bi, h⟩
theorem s11_isSlot {K : Int32 → Gt → Prop} {x : Int32} {G : Gt} (h : K (bi (0 ≤ x ∧ x ≤ 5)) G) : w_X11_isSlot K x G := s11_in ⟨bz_bi, h⟩
theorem s11_isFew {K : Int32 → Gt → Prop} {x : Int32} {G : Gt} (h : K (bi (0 ≤ x ∧ x ≤ 3)) G) : w_X11_isFew K x G := s11_in ⟨bz_bi, h⟩
theorem s11_isName {K : Int32 → Gt → Prop} {x : Int32} {G : Gt} (h : K (bi (0 ≤ x ∧ x ≤ 7)) G) : w_X11_isName K x G := s11_in ⟨bz_bi, h⟩
theorem s11_isBuffer {K : Int32 → Gt → Prop} {x : Int32} {G : Gt} (h : K (bi (x = 0 ∨ x = 1)) G) : w_X11_isBuffer K x G := by
  unfold w_X11_isBuffer w_X11_isBuffer_j9 w_X11_isBuffer_j14
  refine ⟨fun h1 => ⟨bz_1, ?_⟩, fun h1 => ⟨fun h2 => ⟨bz_1, ?_⟩, fun h2 => ⟨bz_0, ?_⟩⟩⟩
  · rwa [bi_T (Or.inl h1)] at h
  · rwa [bi_T (Or.inr h2)] at h
  · rwa [bi_F (fun z => z.elim h1 h2)] at h
/-- which exception: 0 none -/
def thr (a b c : Int32) : Int32 := if a = 0 then 1 else if b = 0 then 2 else if c = 0 then 3 else 0
theorem s11_goes {K : Int32 → Gt → Prop} {a b c : Int32} {G : Gt} (h : K (bi (thr a b c = 0)) (gu G 46 71 (thr a b c))) : w_X11_goes K a b c G := by
  have h26 : ∀ y : Int32, K (bi (y = 0)) (gu G 46 71 y) → w_X11_goes_j26 K y G := by
    intro y hy
    unfold w_X11_goes_j26 w_X11_goes_j41
    refine pt_of ?_
    rw [gu_kk]
    refine ⟨fun h1 => ⟨bz_1, ?_⟩, fun h1 => ⟨bz_0, ?_⟩⟩
    · rwa [bi_T h1] at hy
    · rwa [bi_F h1] at hy
  unfold w_X11_goes
  refine ⟨fun h1 => h26 _ ?_, fun h1 => ⟨fun h2 => h26 _ ?_, fun h2 => ⟨fun h3 => h26 _ ?_, fun h3 => h26 _ ?_⟩⟩⟩
  · rwa [thr, if_pos h1] at h
  · rwa [thr, if_neg h1, if_pos h2] at h
  · rwa [thr, if_neg h1, if_neg h2, if_pos h3] at h
  · rwa [thr, if_neg h1, if_neg h2, if_neg h3] at h
theorem s11_tells {K : Int32 → Gt → Prop} {v : Int32} {G : Gt} (h : K v (gu G 46 71 0)) : w_X11_tells K v G := pt_of h
theorem s11_thrown {K : Int32 → Gt → Prop} {G : Gt} (h : K (G 46 71) G) : w_X11_thrown K G := h
theorem s4_has {K : Int32 → Gt → Prop} {x : Int32} {G : Gt} (h : K (bi (0 ≤ x ∧ x < G 1 7)) G) : w_X4_has K x G := ⟨bz_bi, h⟩
