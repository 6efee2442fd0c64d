/-! .. it calls a body -/
theorem gu_n {G : Gt} {k j a b : Nat} {v : Int32} (h : ¬ (a = k ∧ b = j)) : gu G k j v a b = G a b := by rw [gu_at, if_neg h]
def oNc (u d : Nat) (G : Gt) : Gt := gu (gu (gu G 120 u (G 84 13)) 84 13 (nI u)) 84 8 (nI (d + 1))
def oCl (f d : Nat) (G : Gt) : Gt := gu (gu (gu G 70 f (G 46 49)) 46 49 (nI f)) 46 50 (nI (d + 1))
theorem gu_c {G G' : Gt} {k j a b : Nat} {v : Int32} (h : G a b = G' a b) : gu G k j v a b = gu G' k j v a b := by rw [gu_at, gu_at, h]
theorem op_gu {G : Gt} {S c i : Nat} {o v : Int32} (h : ¬ c = 133 ∧ ¬ c = 131 ∧ ¬ c = 129) : oOp S o (gu G c i v) = gu (oOp S o G) c i v := by
  funext a b
  by_cases e : a = c ∧ b = i
  · obtain ⟨rfl, rfl⟩ := e
    rw [gu_kk]
    unfold oOp
    rw [if_neg h.1, gu_n (by omega), gu_n (by omega), gu_kk]
  · rw [gu_n e]
    unfold oOp
    by_cases e1 : a = 133
    · subst e1
      rw [if_pos rfl, if_pos rfl, gu_n e]
    · rw [if_neg e1, if_neg e1]
      exact gu_c (gu_c (gu_n e))
theorem or_gu {G : Gt} {S c i : Nat} {o v : Int32} (h : ¬ c = 72 ∧ ¬ c = 71 ∧ ¬ (c = 46 ∧ i = 29)) : oOr S o (gu G c i v) = gu (oOr S o G) c i v := by
  funext a b
  by_cases e : a = c ∧ b = i
  · obtain ⟨rfl, rfl⟩ := e
    rw [gu_kk]
    unfold oOr
    rw [if_neg h.1, gu_n (by omega), gu_n (by omega), gu_kk]
  · rw [gu_n e]
    unfold oOr
    by_cases e1 : a = 72
    · subst e1
      rw [if_pos rfl, if_pos rfl, gu_n e]
    · rw [if_neg e1, if_neg e1]
      exact gu_c (gu_c (gu_n e))
theorem mx_C {C R : Gt} {k j : Nat} (h : isR k = false) : mxw C R k j = C k j := by unfold mxw; rw [h]; rfl
theorem mx_R {C R : Gt} {k j : Nat} (h : isR k = true) : mxw C R k j = R k j := by unfold mxw; rw [h]; rfl
theorem isR_t {k : Nat} (h : isR k = true) : 46 ≤ k ∧ k ≤ 82 := by
  unfold isR at h
  rw [Bool.and_eq_true] at h
  exact ⟨Nat.le_of_ble_eq_true h.1, Nat.le_of_ble_eq_true h.2⟩
theorem isR_f {k : Nat} (h : isR k = false) : ¬ (46 ≤ k ∧ k ≤ 82) := by
  rintro ⟨a, b⟩
  unfold isR at h
  rw [Nat.ble_eq_true_of_le a, Nat.ble_eq_true_of_le b] at h
  cases h
/-- agreement but for some cells -/
def agp (P : Nat → Nat → Prop) (G G' : Gt) : Prop := ∀ k j, ¬ P k j → G' k j = G k j
theorem agp_rfl {P : Nat → Nat → Prop} {G : Gt} : agp P G G := fun _ _ _ => rfl
theorem agp_gu {P : Nat → Nat → Prop} {G G' : Gt} {c i : Nat} {v : Int32} (hf : P c i) (h : agp P G G') : agp P G (gu G' c i v) := by
  intro k j hk
  rw [gu_at, if_neg (by rintro ⟨rfl, rfl⟩; exact hk hf)]
  exact h k j hk
theorem agp_mx {P : Nat → Nat → Prop} {Gc Gr Gc' Gr' : Gt} (hc : agp P Gc Gc') (hr : agp P Gr Gr') : agp P (mxw Gc Gr) (mxw Gc' Gr') := by
  intro k j hk
  unfold mxw
  cases isR k
  · exact hc k j hk
  · exact hr k j hk
theorem pfA {z : Zt} {b c : Nat} (h : c = 108 ∨ c = 110 ∨ c = 112 ∨ c = 114 ∨ c = 116 ∨ c = 118 ∨ c = 120 ∨ c = 124) : puf z b c (z 0 0) := Or.inl ⟨h, rfl⟩
theorem pfB {z : Zt} {b : Nat} (h : ¬ b = 2) : puf z b 120 (z 0 7) := Or.inr (Or.inl ⟨rfl, rfl, h⟩)
theorem pfC {z : Zt} {b j : Nat} (h : j = 8 ∨ j = 11 ∨ j = 12 ∨ j = 13) : puf z b 84 j := Or.inr (Or.inr (Or.inl ⟨rfl, h⟩))
theorem pfD {z : Zt} {b j : Nat} (h : j = 21 ∨ j = 41 ∨ j = 49 ∨ j = 50 ∨ j = 54 ∨ j = 55 ∨ j = 56) : puf z b 46 j := Or.inr (Or.inr (Or.inr (Or.inl ⟨rfl, h⟩)))
theorem pfE {z : Zt} {b k : Nat} (h : 64 ≤ k ∧ k ≤ 68) : puf z b k (z 0 1) := Or.inr (Or.inr (Or.inr (Or.inr (Or.inl ⟨h, rfl⟩))))
theorem pfF {z : Zt} {b : Nat} : puf z b 70 (z 6 (z 0 7)) := Or.inr (Or.inr (Or.inr (Or.inr (Or.inr (Or.inl ⟨rfl, rfl⟩)))))
theorem pfG {z : Zt} {g k : Nat} (h : k = 140 ∨ k = 142 ∨ k = 77 ∨ k = 79) : puf z (4 + g) k g := Or.inr (Or.inr (Or.inr (Or.inr (Or.inr (Or.inr ⟨h, by omega, by omega⟩)))))
theorem agp_bg {z : Zt} {b : Nat} {G G' : Gt} {u x s q e : Int32} (h : agp (puf z b) G G') : agp (puf z b) G (oBg (z 0 0) u x s q e G') :=
  agp_gu (pfC (by decide)) (agp_gu (pfC (by decide)) (agp_gu (pfA (by decide)) (agp_gu (pfA (by decide)) (agp_gu (pfA (by decide)) (agp_gu (pfA (by decide)) (agp_gu (pfA (by decide)) (agp_gu (pfA (by decide)) (agp_gu (pfA (by decide)) (agp_gu (pfA (by decide)) h)))))))))
theorem agp_ak {z : Zt} {b : Nat} {G G' : Gt} {x o s : Int32} (h : agp (puf z b) G G') : agp (puf z b) G (oAk x o s G') :=
  agp_gu (pfD (by decide)) (agp_gu (pfD (by decide)) (agp_gu (pfD (by decide)) (agp_gu (pfD (by decide)) h)))
theorem agp_la {z : Zt} {b : Nat} {G G' : Gt} {x o s q : Int32} (h : agp (puf z b) G G') : agp (puf z b) G (oLa (z 0 1) x o s q G') :=
  agp_gu (pfD (by decide)) (agp_gu (pfE (by decide)) (agp_gu (pfE (by decide)) (agp_gu (pfE (by decide)) (agp_gu (pfE (by decide)) h))))
theorem agp_nc {z : Zt} {b d : Nat} {G G' : Gt} (hb : ¬ b = 2) (h : agp (puf z b) G G') : agp (puf z b) G (oNc (z 0 7) d G') :=
  agp_gu (pfC (by decide)) (agp_gu (pfC (by decide)) (agp_gu (pfB hb) h))
theorem agp_cl {z : Zt} {b d : Nat} {G G' : Gt} (h : agp (puf z b) G G') : agp (puf z b) G (oCl (z 6 (z 0 7)) d G') :=
  agp_gu (pfD (by decide)) (agp_gu (pfD (by decide)) (agp_gu pfF h))
theorem bg_rd {n : Nat} {u x s b e : Int32} {G : Gt} : (oBg n u x s b e G) 108 n = x ∧ (oBg n u x s b e G) 110 n = u ∧ (oBg n u x s b e G) 112 n = s ∧ (oBg n u x s b e G) 114 n = b ∧ (oBg n u x s b e G) 116 n = e ∧ (oBg n u x s b e G) 118 n = 0 ∧ (oBg n u x s b e G) 124 n = 0 ∧ (oBg n u x s b e G) 84 11 = nI n ∧ (oBg n u x s b e G) 84 12 = 1 := by simp [oBg, gu]
theorem bg_n {n k j : Nat} {u x s b e : Int32} {G : Gt} (hj : ¬ j = n) (hk : ¬ k = 84) : (oBg n u x s b e G) k j = G k j := by simp [oBg, gu, hj, hk]
theorem bg_84 {n j : Nat} {u x s b e : Int32} {G : Gt} (h1 : ¬ j = 11) (h2 : ¬ j = 12) : (oBg n u x s b e G) 84 j = G 84 j := by simp [oBg, gu, h1, h2]
theorem ak_rd {x o s : Int32} {G : Gt} : (oAk x o s G) 46 54 = x ∧ (oAk x o s G) 46 55 = s ∧ (oAk x o s G) 46 56 = o ∧ (oAk x o s G) 46 41 = 0 := by simp [oAk, gu]
theorem ak_n {x o s : Int32} {G : Gt} {k j : Nat} (h : ¬ k = 46) : (oAk x o s G) k j = G k j := by simp [oAk, gu, h]
theorem ak_46 {x o s : Int32} {G : Gt} {j : Nat} (h : ¬ j = 54 ∧ ¬ j = 55 ∧ ¬ j = 56 ∧ ¬ j = 41) : (oAk x o s G) 46 j = G 46 j := by simp [oAk, gu, h.1, h.2.1, h.2.2.1, h.2.2.2]
theorem la_rd {F : Nat} {x o s q : Int32} {G : Gt} : (oLa F x o s q G) 64 F = x ∧ (oLa F x o s q G) 65 F = o ∧ (oLa F x o s q G) 67 F = q ∧ (oLa F x o s q G) 46 21 = nI (F + 1) := by simp [oLa, gu]
theorem la_n {F k j : Nat} {x o s q : Int32} {G : Gt} (h : ¬ k = 64 ∧ ¬ k = 65 ∧ ¬ k = 66 ∧ ¬ k = 67) (h2 : ¬ (k = 46 ∧ j = 21)) : (oLa F x o s q G) k j = G k j := by
  unfold oLa
  rw [gu_n h2, gu_oo _ h.2.2.2, gu_oo _ h.2.2.1, gu_oo _ h.2.1, gu_oo _ h.1]
theorem nc_rd {u d : Nat} {G : Gt} : (oNc u d G) 120 u = G 84 13 ∧ (oNc u d G) 84 13 = nI u ∧ (oNc u d G) 84 8 = nI (d + 1) := by simp [oNc, gu]
theorem cl_rd {f d : Nat} {G : Gt} : (oCl f d G) 70 f = G 46 49 ∧ (oCl f d G) 46 49 = nI f ∧ (oCl f d G) 46 50 = nI (d + 1) := by simp [oCl, gu]
/-- .. of a function -/
theorem pu_fn {z : Zt} {Gc Gr : Gt} {x s d : Nat} (hd : z 12 (z 8 (z 0 7)) = d) (hd12 : d < 12) (hne : ¬ z 0 7 = z 0 0) : pu z (mxw Gc Gr) (mxw (oBg (z 0 0) (nI (z 0 7)) (nI x) (nI (z 13 s)) 3 (Gc 13 x) (oNc (z 0 7) d Gc)) (oAk (nI x) (nI (z 0 1)) (nI s) (oLa (z 0 1) (-1) (nI (z 6 (z 0 7))) (nI s) 1 (oCl (z 6 (z 0 7)) d Gr)))) x s 3 := by
  obtain ⟨b1, b2, b3, b4, b5, b6, b7, b8, b9⟩ := bg_rd (n := z 0 0) (u := nI (z 0 7)) (x := nI x) (s := nI (z 13 s)) (b := 3) (e := Gc 13 x) (G := oNc (z 0 7) d Gc)
  obtain ⟨a1, a2, a3, a4⟩ := ak_rd (x := nI x) (o := nI (z 0 1)) (s := nI s) (G := oLa (z 0 1) (-1) (nI (z 6 (z 0 7))) (nI s) 1 (oCl (z 6 (z 0 7)) d Gr))
  obtain ⟨l1, l2, l3, l4⟩ := la_rd (F := z 0 1) (x := -1) (o := nI (z 6 (z 0 7))) (s := nI s) (q := 1) (G := oCl (z 6 (z 0 7)) d Gr)
  obtain ⟨n1, n2, n3⟩ := nc_rd (u := z 0 7) (d := d) (G := Gc)
  obtain ⟨c1, c2, c3⟩ := cl_rd (f := z 6 (z 0 7)) (d := d) (G := Gr)
  have AN : ∀ k j, ¬ k = 46 → (oAk (nI x) (nI (z 0 1)) (nI s) (oLa (z 0 1) (-1) (nI (z 6 (z 0 7))) (nI s) 1 (oCl (z 6 (z 0 7)) d Gr))) k j = (oLa (z 0 1) (-1) (nI (z 6 (z 0 7))) (nI s) 1 (oCl (z 6 (z 0 7)) d Gr)) k j := fun k j h => ak_n h
  have A4 : ∀ j, (¬ j = 54 ∧ ¬ j = 55 ∧ ¬ j = 56 ∧ ¬ j = 41) → (oAk (nI x) (nI (z 0 1)) (nI s) (oLa (z 0 1) (-1) (nI (z 6 (z 0 7))) (nI s) 1 (oCl (z 6 (z 0 7)) d Gr))) 46 j = (oLa (z 0 1) (-1) (nI (z 6 (z 0 7))) (nI s) 1 (oCl (z 6 (z 0 7)) d Gr)) 46 j := fun j h => ak_46 h
  have LN : ∀ k j, (¬ k = 64 ∧ ¬ k = 65 ∧ ¬ k = 66 ∧ ¬ k = 67) → ¬ (k = 46 ∧ j = 21) → (oLa (z 0 1) (-1) (nI (z 6 (z 0 7))) (nI s) 1 (oCl (z 6 (z 0 7)) d Gr)) k j = (oCl (z 6 (z 0 7)) d Gr) k j := fun k j h h2 => la_n h h2
  have BN : ∀ k j, ¬ j = z 0 0 → ¬ k = 84 → (oBg (z 0 0) (nI (z 0 7)) (nI x) (nI (z 13 s)) 3 (Gc 13 x) (oNc (z 0 7) d Gc)) k j = (oNc (z 0 7) d Gc) k j := fun k j h h2 => bg_n h h2
  have B8 : ∀ j, ¬ j = 11 → ¬ j = 12 → (oBg (z 0 0) (nI (z 0 7)) (nI x) (nI (z 13 s)) 3 (Gc 13 x) (oNc (z 0 7) d Gc)) 84 j = (oNc (z 0 7) d Gc) 84 j := fun j h h2 => bg_84 h h2
  refine ⟨agp_mx (agp_bg (agp_nc (by decide) agp_rfl)) (agp_ak (agp_la (agp_cl agp_rfl))), ⟨b1, b2, b3, b4, b5, b6, b7, b8, b9⟩, ⟨a1, a2, a3, a4, (A4 _ (by decide)).trans l4, (AN _ _ (by decide)).trans l1, (AN _ _ (by decide)).trans l2, (AN _ _ (by decide)).trans l3⟩, fun q => absurd q (by decide), fun q => absurd q (by decide), fun _ => ⟨by rw [hd]; exact hd12, (BN _ _ hne (by decide)).trans n1, ((AN _ _ (by decide)).trans (LN _ _ (by decide) (by omega))).trans c1, (B8 _ (by decide) (by decide)).trans n2, ((A4 _ (by decide)).trans (LN _ _ (by decide) (by omega))).trans c2, ?_, ?_⟩⟩
  · rw [hd]; exact (B8 _ (by decide) (by decide)).trans n3
  · rw [hd]; exact ((A4 _ (by decide)).trans (LN _ _ (by decide) (by omega))).trans c3
/-- .. of a standard -/
theorem pu_sd {z : Zt} {Gc Gr : Gt} {x s : Nat} : pu z (mxw Gc Gr) (mxw (oBg (z 0 0) (nI (z 0 7)) (nI x) (nI (z 13 s)) 2 (Gc 13 x) Gc) (oAk (nI x) (nI (z 0 1)) (nI s) (oLa (z 0 1) (-1) (nI (z 6 (z 0 7))) (nI s) 3 Gr))) x s 2 := by
  obtain ⟨b1, b2, b3, b4, b5, b6, b7, b8, b9⟩ := bg_rd (n := z 0 0) (u := nI (z 0 7)) (x := nI x) (s := nI (z 13 s)) (b := 2) (e := Gc 13 x) (G := Gc)
  obtain ⟨a1, a2, a3, a4⟩ := ak_rd (x := nI x) (o := nI (z 0 1)) (s := nI s) (G := oLa (z 0 1) (-1) (nI (z 6 (z 0 7))) (nI s) 3 Gr)
  obtain ⟨l1, l2, l3, l4⟩ := la_rd (F := z 0 1) (x := -1) (o := nI (z 6 (z 0 7))) (s := nI s) (q := 3) (G := Gr)
  have AN : ∀ k j, ¬ k = 46 → (oAk (nI x) (nI (z 0 1)) (nI s) (oLa (z 0 1) (-1) (nI (z 6 (z 0 7))) (nI s) 3 Gr)) k j = (oLa (z 0 1) (-1) (nI (z 6 (z 0 7))) (nI s) 3 Gr) k j := fun k j h => ak_n h
  have A4 : ∀ j, (¬ j = 54 ∧ ¬ j = 55 ∧ ¬ j = 56 ∧ ¬ j = 41) → (oAk (nI x) (nI (z 0 1)) (nI s) (oLa (z 0 1) (-1) (nI (z 6 (z 0 7))) (nI s) 3 Gr)) 46 j = (oLa (z 0 1) (-1) (nI (z 6 (z 0 7))) (nI s) 3 Gr) 46 j := fun j h => ak_46 h
  have LN : ∀ k j, (¬ k = 64 ∧ ¬ k = 65 ∧ ¬ k = 66 ∧ ¬ k = 67) → ¬ (k = 46 ∧ j = 21) → (oLa (z 0 1) (-1) (nI (z 6 (z 0 7))) (nI s) 3 Gr) k j = Gr k j := fun k j h h2 => la_n h h2
  have BN : ∀ k j, ¬ j = z 0 0 → ¬ k = 84 → (oBg (z 0 0) (nI (z 0 7)) (nI x) (nI (z 13 s)) 2 (Gc 13 x) Gc) k j = Gc k j := fun k j h h2 => bg_n h h2
  have B8 : ∀ j, ¬ j = 11 → ¬ j = 12 → (oBg (z 0 0) (nI (z 0 7)) (nI x) (nI (z 13 s)) 2 (Gc 13 x) Gc) 84 j = Gc 84 j := fun j h h2 => bg_84 h h2
  refine ⟨agp_mx (agp_bg agp_rfl) (agp_ak (agp_la agp_rfl)), ⟨b1, b2, b3, b4, b5, b6, b7, b8, b9⟩, ⟨a1, a2, a3, a4, (A4 _ (by decide)).trans l4, (AN _ _ (by decide)).trans l1, (AN _ _ (by decide)).trans l2, (AN _ _ (by decide)).trans l3⟩, fun q => absurd q (by decide), fun _ => ⟨B8 8 (by decide) (by decide), B8 13 (by decide) (by decide), (A4 49 (by decide)).trans (LN 46 49 (by decide) (by decide)), (A4 50 (by decide)).trans (LN 46 50 (by decide) (by decide)), (AN 70 _ (by decide)).trans (LN 70 _ (by decide) (by omega))⟩, fun q => absurd rfl q⟩
/-- .. of a generator -/
theorem pu_gn {z : Zt} {Gc Gr : Gt} {x s d g : Nat} (hd : z 12 (z 8 (z 0 7)) = d) (hd12 : d < 12) (hne : ¬ z 0 7 = z 0 0) (hg : g < z 0 5) (hst : z 16 g = 0) (h25 : Gr 47 (z 1 (z 0 7)) = 25) : pu z (mxw Gc Gr) (mxw (gu (oBg (z 0 0) (nI (z 0 7)) (nI x) (nI (z 13 s)) (nI (4 + g)) (Gc 13 x) (oNc (z 0 7) d (gu Gc 140 g 2))) 142 g (nI (z 0 0))) (gu (gu (oAk (nI x) (nI (z 0 1)) (nI s) (oLa (z 0 1) (-1) (nI (z 6 (z 0 7))) (nI s) 2 (gu (oCl (z 6 (z 0 7)) d Gr) 77 g 2))) 79 g (nI (z 0 1))) 68 (z 0 1) (nI g))) x s (4 + g) := by
  obtain ⟨b1, b2, b3, b4, b5, b6, b7, b8, b9⟩ := bg_rd (n := z 0 0) (u := nI (z 0 7)) (x := nI x) (s := nI (z 13 s)) (b := nI (4 + g)) (e := Gc 13 x) (G := oNc (z 0 7) d (gu Gc 140 g 2))
  obtain ⟨a1, a2, a3, a4⟩ := ak_rd (x := nI x) (o := nI (z 0 1)) (s := nI s) (G := oLa (z 0 1) (-1) (nI (z 6 (z 0 7))) (nI s) 2 (gu (oCl (z 6 (z 0 7)) d Gr) 77 g 2))
  obtain ⟨l1, l2, l3, l4⟩ := la_rd (F := z 0 1) (x := -1) (o := nI (z 6 (z 0 7))) (s := nI s) (q := 2) (G := gu (oCl (z 6 (z 0 7)) d Gr) 77 g 2)
  obtain ⟨n1, n2, n3⟩ := nc_rd (u := z 0 7) (d := d) (G := gu Gc 140 g 2)
  obtain ⟨c1, c2, c3⟩ := cl_rd (f := z 6 (z 0 7)) (d := d) (G := Gr)
  have hw : wH (4 + g) = 2 := by unfold wH; rw [if_neg (by omega), if_neg (by omega), if_neg (by omega)]
  have hgg : 4 + g - 4 = g := by omega
  have X : ∀ k j, ¬ k = 142 → (gu (oBg (z 0 0) (nI (z 0 7)) (nI x) (nI (z 13 s)) (nI (4 + g)) (Gc 13 x) (oNc (z 0 7) d (gu Gc 140 g 2))) 142 g (nI (z 0 0))) k j = (oBg (z 0 0) (nI (z 0 7)) (nI x) (nI (z 13 s)) (nI (4 + g)) (Gc 13 x) (oNc (z 0 7) d (gu Gc 140 g 2))) k j := fun k j h => gu_oo _ h
  have Y : ∀ k j, ¬ k = 79 → ¬ k = 68 → (gu (gu (oAk (nI x) (nI (z 0 1)) (nI s) (oLa (z 0 1) (-1) (nI (z 6 (z 0 7))) (nI s) 2 (gu (oCl (z 6 (z 0 7)) d Gr) 77 g 2))) 79 g (nI (z 0 1))) 68 (z 0 1) (nI g)) k j = (oAk (nI x) (nI (z 0 1)) (nI s) (oLa (z 0 1) (-1) (nI (z 6 (z 0 7))) (nI s) 2 (gu (oCl (z 6 (z 0 7)) d Gr) 77 g 2))) k j := fun k j h h' => (gu_oo _ h').trans (gu_oo _ h)
  have AN : ∀ k j, ¬ k = 46 → (oAk (nI x) (nI (z 0 1)) (nI s) (oLa (z 0 1) (-1) (nI (z 6 (z 0 7))) (nI s) 2 (gu (oCl (z 6 (z 0 7)) d Gr) 77 g 2))) k j = (oLa (z 0 1) (-1) (nI (z 6 (z 0 7))) (nI s) 2 (gu (oCl (z 6 (z 0 7)) d Gr) 77 g 2)) k j := fun k j h => ak_n h
  have A4 : ∀ j, (¬ j = 54 ∧ ¬ j = 55 ∧ ¬ j = 56 ∧ ¬ j = 41) → (oAk (nI x) (nI (z 0 1)) (nI s) (oLa (z 0 1) (-1) (nI (z 6 (z 0 7))) (nI s) 2 (gu (oCl (z 6 (z 0 7)) d Gr) 77 g 2))) 46 j = (oLa (z 0 1) (-1) (nI (z 6 (z 0 7))) (nI s) 2 (gu (oCl (z 6 (z 0 7)) d Gr) 77 g 2)) 46 j := fun j h => ak_46 h
  have LN : ∀ k j, (¬ k = 64 ∧ ¬ k = 65 ∧ ¬ k = 66 ∧ ¬ k = 67) → ¬ (k = 46 ∧ j = 21) → (oLa (z 0 1) (-1) (nI (z 6 (z 0 7))) (nI s) 2 (gu (oCl (z 6 (z 0 7)) d Gr) 77 g 2)) k j = (gu (oCl (z 6 (z 0 7)) d Gr) 77 g 2) k j := fun k j h h2 => la_n h h2
  have BN : ∀ k j, ¬ j = z 0 0 → ¬ k = 84 → (oBg (z 0 0) (nI (z 0 7)) (nI x) (nI (z 13 s)) (nI (4 + g)) (Gc 13 x) (oNc (z 0 7) d (gu Gc 140 g 2))) k j = (oNc (z 0 7) d (gu Gc 140 g 2)) k j := fun k j h h2 => bg_n h h2
  have B8 : ∀ j, ¬ j = 11 → ¬ j = 12 → (oBg (z 0 0) (nI (z 0 7)) (nI x) (nI (z 13 s)) (nI (4 + g)) (Gc 13 x) (oNc (z 0 7) d (gu Gc 140 g 2))) 84 j = (oNc (z 0 7) d (gu Gc 140 g 2)) 84 j := fun j h h2 => bg_84 h h2
  refine ⟨agp_mx (agp_gu (pfG (by decide)) (agp_bg (agp_nc (by omega) (agp_gu (pfG (by decide)) agp_rfl)))) (agp_gu (pfE (by decide)) (agp_gu (pfG (by decide)) (agp_ak (agp_la (agp_gu (pfG (by decide)) (agp_cl agp_rfl)))))), ⟨(X _ _ (by decide)).trans b1, (X _ _ (by decide)).trans b2, (X _ _ (by decide)).trans b3, (X _ _ (by decide)).trans b4, (X _ _ (by decide)).trans b5, (X _ _ (by decide)).trans b6, (X _ _ (by decide)).trans b7, (X _ _ (by decide)).trans b8, (X _ _ (by decide)).trans b9⟩, ⟨(Y _ _ (by decide) (by decide)).trans a1, (Y _ _ (by decide) (by decide)).trans a2, (Y _ _ (by decide) (by decide)).trans a3, (Y _ _ (by decide) (by decide)).trans a4, ((Y _ _ (by decide) (by decide)).trans (A4 _ (by decide))).trans l4, ((Y _ _ (by decide) (by decide)).trans (AN _ _ (by decide))).trans l1, ((Y _ _ (by decide) (by decide)).trans (AN _ _ (by decide))).trans l2, ?_⟩, fun _ => ?_, fun q => absurd q (by omega), fun _ => ⟨by rw [hd]; exact hd12, ((X _ _ (by decide)).trans (BN _ _ hne (by decide))).trans n1, ?_, ((X _ _ (by decide)).trans (B8 _ (by decide) (by decide))).trans n2, ?_, ?_, ?_⟩⟩
  · rw [hw]; exact ((Y _ _ (by decide) (by decide)).trans (AN _ _ (by decide))).trans l3
  · rw [hgg]
    refine ⟨?_, ?_, ?_, ?_, ?_, hg, hst, h25⟩
    · rw [mx_R rfl, gu_kk]
    · rw [mx_C rfl]
      refine (X 140 g (by decide)).trans ?_
      unfold oBg oNc
      rw [gu_oo _ (by decide), gu_oo _ (by decide), gu_oo _ (by decide), gu_oo _ (by decide), gu_oo _ (by decide), gu_oo _ (by decide), gu_oo _ (by decide), gu_oo _ (by decide), gu_oo _ (by decide), gu_oo _ (by decide), gu_oo _ (by decide), gu_oo _ (by decide), gu_oo _ (by decide), gu_kk]
    · rw [mx_R rfl]
      refine (Y 77 g (by decide) (by decide)).trans ((AN 77 g (by decide)).trans ((LN 77 g (by decide) (by omega)).trans ?_))
      rw [gu_kk]
    · rw [mx_C rfl, gu_kk]
    · rw [mx_R rfl, gu_oo _ (by decide), gu_kk]
  · exact ((Y 70 _ (by decide) (by decide)).trans (AN 70 _ (by decide))).trans ((LN 70 _ (by decide) (by omega)).trans ((gu_oo _ (by decide)).trans c1))
  · exact ((Y 46 49 (by decide) (by decide)).trans (A4 49 (by decide))).trans ((LN 46 49 (by decide) (by decide)).trans ((gu_oo _ (by decide)).trans c2))
  · rw [hd]; exact ((X 84 8 (by decide)).trans (B8 8 (by decide) (by decide))).trans n3
  · rw [hd]; exact ((Y 46 50 (by decide) (by decide)).trans (A4 50 (by decide))).trans ((LN 46 50 (by decide) (by decide)).trans ((gu_oo _ (by decide)).trans c3))
/-- what it holds while a body that it calls goes on -/
theorem xV_c4 {z : Zt} {G : Gt} {i k : Nat} (hk : k = 17 ∨ k = 18 ∨ k = 25 ∨ k = 29) (h29 : k = 29 → G 122 i = G 68 (z 6 i) ∧ isnum (G 122 i)) : xV z G i k 4 :=
  ⟨⟨fun q => by omega, fun q => by omega⟩, fun q => by omega, fun q => by omega, fun q => by omega, fun q => by omega, fun q => by omega, fun q => by omega, fun q => by omega, fun q _ => h29 q⟩
theorem xV_c3 {z : Zt} {G : Gt} {i k s l : Nat} (hk : k = 18 ∨ k = 29) (hs : s < z 0 2) (hl : l < 6) (h124 : G 124 i = nI (z 13 s)) (h69 : G 69 (z 6 i) = nI s) (h126 : G 126 i = nI l) (h54 : ¬ G 54 l = -1) (h18 : k = 18 → G 48 (z 1 i) = nI l) (h67 : k = 29 → G 67 (z 6 i) = nI (10 + l)) (h29 : k = 29 → G 122 i = G 68 (z 6 i) ∧ isnum (G 122 i)) : xV z G i k 3 :=
  ⟨⟨fun q => by omega, fun q => by omega⟩, fun q => by omega, fun q => by omega, fun q => by omega, fun q => by omega, fun q => by omega, fun q => by omega, fun _ => ⟨s, l, hs, hl, h124, h69, h126, h54, h18, h67⟩, fun q _ => h29 q⟩
/-- .. the call -/
theorem f_call {N B : Nat} {z : Zt} {G Gc Gr Gc' Gr' : Gt} {Rr : Gt → Prop} {x : Nat → Int32} {sp u k e y s b p' t : Nat} (hcl : clo Rr) (h : st N B z (mxw Gc Gr) x sp 0 u k e) (hx : ∀ o, o < 4 → x o = Gc 31 o) (hy : y < N) (hs : s < z 0 2) (hb : 2 ≤ b) (hp : pu z (mxw Gc Gr) (mxw Gc' Gr') y s b) (hct : cT t G Gc') (ht : t ≤ 9) (hR : Rr Gr') (hk1 : kp G Gc') (hk2 : kp G Gr')
    (hp' : p' = if b = 2 then 3 else 4) (hkP : kP k p') (h116 : Gc 116 u = nI (e + plo k p' (cO (Gr 49 (z 1 u)) (Gr 50 (z 1 u))))) (h118 : Gc 118 u = (if lao k p' = 0 then 0 else nI (e + lao k p'))) (hxv : xV z (mxw Gc Gr) u k p') (h15 : Gc 84 15 = 0 := by first | rfl | assumption) : eW N B z G Rr := by
  obtain ⟨hA, hu, hn, hd, hk, he, h47, h13⟩ := h
  subst hu
  have h6 := hA.2.2.1
  have hm := hA.2.1
  have hne : ¬ z 0 7 = z 0 0 := by omega
  have hX := eX_pu (N := N) hp h6 hn hd
  have hf := fX_of hA.1.2.1 hA.1.2.2.2.1 (by omega)
  have hQ := hA.1.2.2.2.2.2.2.2.2.2.2.2.2.2.2.2.2.2.1
  have hn6 : z 0 0 ≤ 600 := by have := hQ.1; have := hQ.2.2.2.1; omega
  have hG := hA.1.2.2.2.2.2.2.2.1
  have h6f := hG.2.2 (z 0 7) hn
  have pf := hp.1
  have zl : ∀ c, ¬ c = 0 → ¬ c = 9 → ¬ c = 10 → ¬ c = 11 → ¬ c = 16 → ¬ c = 17 → (zPu z y s b) c (z 0 7) = z c (z 0 7) := fun c h1 h2 h3 h4 h5 h6 => zPu_l hne h1 h2 h3 h4 h5 h6
  have z9 : (zPu z y s b) 9 (z 0 7) = p' := by rw [zPu_9, if_neg hne, if_pos rfl, hp']
  have gu' : ∀ c, (c = 116 ∨ c = 118 ∨ c = 122 ∨ c = 124 ∨ c = 126 ∨ c = 128) → (mxw Gc' Gr') c (z 0 7) = (mxw Gc Gr) c (z 0 7) := fun c hc => pf _ _ (by unfold puf; omega)
  have gr' : ∀ c, (c = 67 ∨ c = 68 ∨ c = 69) → (mxw Gc' Gr') c (z 6 (z 0 7)) = (mxw Gc Gr) c (z 6 (z 0 7)) := fun c hc => pf _ _ (by unfold puf; omega)
  have gn' : ∀ c j, (c = 13 ∨ c = 47 ∨ c = 49 ∨ c = 50) → (mxw Gc' Gr') c j = (mxw Gc Gr) c j := fun c j hc => pf _ _ (by unfold puf; omega)
  have hdV : dV (zPu z y s b) (mxw Gc' Gr') (z 0 7) := by
    refine ⟨k, e, hk, he, ?_, ?_, ?_, Or.inl ?_, ?_, ?_⟩
    · rw [zl 1 (by decide) (by decide) (by decide) (by decide) (by decide) (by decide), gn' _ _ (by decide)]; exact h47
    · rw [zl 1 (by decide) (by decide) (by decide) (by decide) (by decide) (by decide), gn' _ _ (by decide)]; exact h13
    · rw [z9]; exact hkP
    · rw [z9, zl 1 (by decide) (by decide) (by decide) (by decide) (by decide) (by decide), gu' _ (by decide), gn' _ _ (by decide), gn' _ _ (by decide)]; exact h116
    · rw [z9, gu' _ (by decide)]; exact h118
    · rw [z9]
      exact xV_ext hX hf hn hn6 (zl 19 (by decide) (by decide) (by decide) (by decide) (by decide) (by decide)) (zl 20 (by decide) (by decide) (by decide) (by decide) (by decide) (by decide)) (gu' _ (by decide)) (gu' _ (by decide)) (gu' _ (by decide)) (gu' _ (by decide)) (gr' _ (by decide)) (gr' _ (by decide)) (gr' _ (by decide)) hxv
  have hW := t_pu hA hy hs hb hd hp hdV hx h15
  refine ⟨zPu z y s b, mxw Gc' Gr', t, Or.inr (Or.inl hW), cT_e hct eqc_mx, hcl _ _ hR eqr_mx, kp_mx hk1 hk2, ?_⟩
  have : mu (zPu z y s b) = mu z := mu_eq (by simp [zPu]) (by funext i; simp [zPu])
  omega
