/-! A NODE BEGINS -/
def bs (N B : Nat) (z : Zt) (G0 M : Gt) (sp u k e pc pw : Nat) : Prop := st N B z M (M 31) sp 1 u k e ∧ M 116 u = nI e ∧ M 118 u = 0 ∧ M 124 u = 0 ∧ M 84 15 = 0 ∧ bH G0 M (z 1 u) (z 6 u) ∧ z 19 u = pc ∧ z 20 u = pw ∧ M 67 (z 6 u) = 0 ∧ M 46 55 = nI (z 5 u)
theorem gP_k {N m : Nat} {G : Gt} (hP : gP N G G) (hm : m < N) : ∃ k e, k < 40 ∧ e < 1081 ∧ G 47 m = nI k ∧ G 13 m = nI e := by
  obtain ⟨a1, a2, a3, a4, a5, U, a6, a7, a8, a9⟩ := id hP
  obtain ⟨k, e, s, b1, b2, b3, b4, b5, b6, b7, b8, b9, b10, b11, b12, b13, _⟩ := a9 m hm
  obtain ⟨e2, he2, hlt⟩ := ent_lt hP hm b13
  refine ⟨k, e2, b1, hlt, b6, he2⟩
theorem b_pre {N B : Nat} {z : Zt} {G : Gt} {k e pc pw : Nat} (h : wST N B z G) (hB0 : z 0 0 < B) (hpc : pc ≤ 1) (hpw : pw ≤ 1) (hk : k < 40) (he : e < 1081) (h47 : G 47 (z 1 (z 0 0)) = nI k) (h13 : G 13 (z 1 (z 0 0)) = nI e) :
    bs N B (zBg z pc pw) (gu G 46 58 (nI (z 0 0 + 1))) (oLy (z 0 0) (z 0 1) (G 46 54) (G 46 56) (G 46 55) (oLb (z 0 0) G)) (1 - pc) (z 0 0) k e pc pw ∧ mu (zBg z pc pw) + 10 ≤ mu z ∧ 1 ≤ z 0 0 + 1 := by
  have hT := t_bg h hB0 hpc hpw
  obtain ⟨hS, hm, hcur, h7, h12, h116, h118, h124, hnx, hna1, hna2, hns, hend, hRH, hFr, hDP, h15⟩ := h
  have hA := hS.2.1 (z 0 0) (by omega)
  have hN := hS.1.1
  have hQ := hS.2.2.2.2.2.2.2.2.2.2.2.2.2.2.2.2.2.1
  have hL := hS.2.2.2.2.2.2.2.2.2.2.2.2.2.2.2.2.2.2.1
  have hB6 : B ≤ 600 := hQ.1
  have hFQ := hQ.2.2.2.2.2.2.2.2.2.2.2.2.2.2.2.2.1
  have z1 : (zBg z pc pw) 1 (z 0 0) = z 1 (z 0 0) := by simp [zBg, zu]
  have z6 : (zBg z pc pw) 6 (z 0 0) = z 0 1 := by simp [zBg, zu, hRH]
  have z5 : (zBg z pc pw) 5 (z 0 0) = z 5 (z 0 0) := by simp [zBg, zu]
  have z07 : (zBg z pc pw) 0 7 = z 0 0 := by simp [zBg, zu, hcur]
  have z00 : (zBg z pc pw) 0 0 = z 0 0 + 1 := by simp [zBg, zu]
  have z11 : (zBg z pc pw) 11 (z 0 0) = 0 := by simp [zBg, zu, hDP]
  have z19 : (zBg z pc pw) 19 (z 0 0) = pc := by simp [zBg, zu]
  have z20 : (zBg z pc pw) 20 (z 0 0) = pw := by simp [zBg, zu]
  refine ⟨⟨⟨?_, z07, by omega, z11, hk, he, ?_, ?_⟩, ?_, ?_, ?_, ?_, ?_, z19, z20, ?_, ?_⟩, ?_, by omega⟩
  · exact hT.1
  · rw [z1]; exact h47
  · rw [z1]; exact h13
  · show G 116 (z 0 0) = nI e
    rw [h116, h13]
  · exact h118
  · exact h124
  · exact h15
  · rw [z1, z6]
    refine ⟨by omega, by omega, hnx, hFQ, ?_⟩
    have e0 : (gu G 46 58 (nI (z 0 0 + 1))) 46 56 = G 46 56 := rfl
    have e1 : (gu G 46 58 (nI (z 0 0 + 1))) 46 55 = G 46 55 := rfl
    rw [e0, e1, ← hnx]
    unfold oLa oLy
    refine eqr_cg (eqr_cg (eqr_cg (eqr_cg (eqr_cg (eqr_cg ?_)))))
    unfold oLb
    exact eqr_gu rfl (eqr_gu rfl eqr_rfl)
  · rw [z6]
    unfold oLy
    rw [gu_oo _ (by decide), gu_kk]
  · rw [z5]; exact hns
  · have hsm : sm ((zBg z pc pw) 21) (z 0 0) = sm (z 21) (z 0 0) := sm_eq (fun i hi => by
      have : ¬ i = z 0 0 := by omega
      simp [zBg, zu, this])
    have h21 : (zBg z pc pw) 21 (z 0 0) = 1 := by simp [zBg, zu]
    unfold mu
    rw [z00]
    show 20 * (601 - (z 0 0 + 1)) + 10 * (sm ((zBg z pc pw) 21) (z 0 0) + (zBg z pc pw) 21 (z 0 0)) + 10 ≤ _
    rw [hsm, h21]
    omega
theorem prv {N : Nat} {b x : Int32} (h : okL N (shp (nI 0) (nI 0) b) x) : isnum x := by
  rw [tb_shp (by decide) (by decide) (by omega), show tb 0 0 = 5 by decide] at h
  exact h.2.2.1 rfl
theorem prh {N : Nat} {b x : Int32} (h : okL N (shp (nI 39) (nI 0) b) x) : x = -1 ∨ ∃ s, s < 6 ∧ x = nI s := by
  rw [tb_shp (by decide) (by decide) (by omega), show tb 39 0 = 6 by decide] at h
  exact h.2.2.2.2.2.2.1 rfl
theorem pro {N : Nat} {b x : Int32} (hx : ¬ x = -1) (h : okL N (shp (nI 18) (nI 1) b) x) : ∃ j, j < N ∧ x = nI j := by
  rw [tb_shp (by decide) (by decide) (by omega), show tb 18 1 = 8 by decide] at h
  rcases h.2.1 rfl with q | q
  · exact absurd q hx
  · exact q
/-- its first part -/
theorem b_do {N B : Nat} {z : Zt} {G0 M : Gt} {sp u k e pc pw y : Nat} {d : Int32} (h : bs N B z G0 M sp u k e pc pw) (hc : (codeOf (nI k) (M 48 (z 1 u)) (M 49 (z 1 u)) (M 50 (z 1 u)) (nI e))[0]? = some (41, d)) (hy : y < N) (ed : d = nI y) (hk : kP k 1) (hpl : ∀ co, plo k 1 co = 1) (hla : lao k 1 = 0) (hxv : xV z (mxw M (gu M 67 (z 6 u) 0)) u k 1) (hR : bS G0 (oAk d (nI (z 6 u)) (M 66 (z 6 u)) (gu M 67 (z 6 u) 0))) : eW N B z M (bS G0) := by
  obtain ⟨hs, h116, h118, h124, h15, hb, _⟩ := h
  obtain ⟨f1, f2, f3, f4, f5, f6, f7, f8, f9, f10, f11, f12, f13, f14⟩ := st_f hs
  have hu := hs.2.1
  have c0 := st_code hs hc
  rw [Nat.add_zero] at c0
  rw [ed, f7] at hR
  have t0 := st_fr (Gc := M) (Gr := gu M 67 (z 6 u) 0) (sp' := sp) (fp' := 0) hs agw_rfl (ag2 hu (by decide) agw_rfl) ⟨rfl, rfl, rfl, rfl, rfl⟩ (Nat.le_refl _) (Nat.zero_le _)
  exact f_do (t := 0) (p := e) (y := y) (p' := 1) clo_bS t0 (fun _ _ => rfl) eqc_rfl (by decide) h116 ⟨c0.1, c0.2.1.trans ed, by omega⟩ hy hR kp_rfl (kp_gu (by unfold kpc; omega) kp_rfl) (Or.inl rfl) hk (by omega) (Or.inl (by rw [hpl])) (by rw [if_pos hla]; exact h118) hxv
theorem b_xv {N B : Nat} {z : Zt} {G0 M : Gt} {sp u k e pc pw : Nat} (h : bs N B z G0 M sp u k e pc pw) (h36 : ¬ k = 36) (h26 : ¬ k = 26) (h21 : ¬ k = 21) (hpc : (k = 20 ∨ k = 17 ∨ k = 18 ∨ k = 25 ∨ k = 29) → pc = 1 ∧ (k = 18 → ¬ M 49 (z 1 u) = -1)) : xV z (mxw M (gu M 67 (z 6 u) 0)) u k 1 := by
  refine xV_mk (Or.inl rfl) h36 h26 h21 ?_ (fun q => by omega) (fun q => ?_)
  · rw [mx_R rfl, gu_kk]; rfl
  · have := hpc (by omega)
    exact ⟨h.2.2.2.2.2.2.1.trans this.1, fun q => ⟨this.2 q, fun y => by omega⟩⟩

theorem b_2 {N B : Nat} {z : Zt} {G0 M : Gt} {u e : Nat} (h : bs N B z G0 M 1 u 2 e 0 0) : eW N B z M (bS G0) := by
  have kk := st_k h.1
  obtain ⟨y, hy, ey⟩ := prt (k := 2) (w := 1) (by decide) (by decide) (by decide) (by omega) kk.2.1
  exact b_do h (by rw [cd_2]; rfl) hy ey (by unfold kP; omega) (fun _ => rfl) rfl (b_xv h (by decide) (by decide) (by decide) (fun q => by omega)) (bN_2 h.2.2.2.2.2.1 h.1.2.2.2.2.2.2.1)
theorem b_3 {N B : Nat} {z : Zt} {G0 M : Gt} {u e : Nat} (h : bs N B z G0 M 1 u 3 e 0 0) : eW N B z M (bS G0) := by
  have kk := st_k h.1
  obtain ⟨y, hy, ey⟩ := prt (k := 3) (w := 1) (by decide) (by decide) (by decide) (by omega) kk.2.1
  exact b_do h (by rw [cd_3]; rfl) hy ey (by unfold kP; omega) (fun _ => rfl) rfl (b_xv h (by decide) (by decide) (by decide) (fun q => by omega)) (bN_3 h.2.2.2.2.2.1 h.1.2.2.2.2.2.2.1)
theorem b_14 {N B : Nat} {z : Zt} {G0 M : Gt} {u e : Nat} (h : bs N B z G0 M 1 u 14 e 0 0) : eW N B z M (bS G0) := by
  have kk := st_k h.1
  obtain ⟨y, hy, ey⟩ := prt (k := 14) (w := 1) (by decide) (by decide) (by decide) (by omega) kk.2.1
  exact b_do h (by rw [cd_14]; rfl) hy ey (by unfold kP; omega) (fun _ => rfl) rfl (b_xv h (by decide) (by decide) (by decide) (fun q => by omega)) (bN_14 h.2.2.2.2.2.1 h.1.2.2.2.2.2.2.1)
theorem b_28 {N B : Nat} {z : Zt} {G0 M : Gt} {u e : Nat} (h : bs N B z G0 M 1 u 28 e 0 0) : eW N B z M (bS G0) := by
  have kk := st_k h.1
  obtain ⟨y, hy, ey⟩ := prt (k := 28) (w := 1) (by decide) (by decide) (by decide) (by omega) kk.2.1
  exact b_do h (by rw [cd_28]; rfl) hy ey (by unfold kP; omega) (fun _ => rfl) rfl (b_xv h (by decide) (by decide) (by decide) (fun q => by omega)) (bN_28 h.2.2.2.2.2.1 h.1.2.2.2.2.2.2.1)
theorem b_4 {N B : Nat} {z : Zt} {G0 M : Gt} {u e : Nat} (h : bs N B z G0 M 1 u 4 e 0 0) : eW N B z M (bS G0) := by
  have kk := st_k h.1
  obtain ⟨y, hy, ey⟩ := prt (k := 4) (w := 0) (by decide) (by decide) (by decide) (by omega) kk.1
  exact b_do h (by rw [cd_4]; rfl) hy ey (by unfold kP; omega) (fun _ => rfl) rfl (b_xv h (by decide) (by decide) (by decide) (fun q => by omega)) (bN_4 h.2.2.2.2.2.1 h.1.2.2.2.2.2.2.1)
theorem b_5 {N B : Nat} {z : Zt} {G0 M : Gt} {u e : Nat} (h : bs N B z G0 M 1 u 5 e 0 0) : eW N B z M (bS G0) := by
  have kk := st_k h.1
  obtain ⟨y, hy, ey⟩ := prt (k := 5) (w := 0) (by decide) (by decide) (by decide) (by omega) kk.1
  exact b_do h (by rw [cd_5]; rfl) hy ey (by unfold kP; omega) (fun _ => rfl) rfl (b_xv h (by decide) (by decide) (by decide) (fun q => by omega)) (bN_5 h.2.2.2.2.2.1 h.1.2.2.2.2.2.2.1)
theorem b_6 {N B : Nat} {z : Zt} {G0 M : Gt} {u e : Nat} (h : bs N B z G0 M 1 u 6 e 0 0) : eW N B z M (bS G0) := by
  have kk := st_k h.1
  obtain ⟨y, hy, ey⟩ := prt (k := 6) (w := 0) (by decide) (by decide) (by decide) (by omega) kk.1
  exact b_do h (by rw [cd_6]; rfl) hy ey (by unfold kP; omega) (fun _ => rfl) rfl (b_xv h (by decide) (by decide) (by decide) (fun q => by omega)) (bN_6 h.2.2.2.2.2.1 h.1.2.2.2.2.2.2.1)
theorem b_7 {N B : Nat} {z : Zt} {G0 M : Gt} {u e : Nat} (h : bs N B z G0 M 1 u 7 e 0 0) : eW N B z M (bS G0) := by
  have kk := st_k h.1
  obtain ⟨y, hy, ey⟩ := prt (k := 7) (w := 0) (by decide) (by decide) (by decide) (by omega) kk.1
  exact b_do h (by rw [cd_7]; rfl) hy ey (by unfold kP; omega) (fun _ => rfl) rfl (b_xv h (by decide) (by decide) (by decide) (fun q => by omega)) (bN_7 h.2.2.2.2.2.1 h.1.2.2.2.2.2.2.1)
theorem b_8 {N B : Nat} {z : Zt} {G0 M : Gt} {u e : Nat} (h : bs N B z G0 M 1 u 8 e 0 0) : eW N B z M (bS G0) := by
  have kk := st_k h.1
  obtain ⟨y, hy, ey⟩ := prt (k := 8) (w := 0) (by decide) (by decide) (by decide) (by omega) kk.1
  exact b_do h (by rw [cd_8]; rfl) hy ey (by unfold kP; omega) (fun _ => rfl) rfl (b_xv h (by decide) (by decide) (by decide) (fun q => by omega)) (bN_8 h.2.2.2.2.2.1 h.1.2.2.2.2.2.2.1)
theorem b_9 {N B : Nat} {z : Zt} {G0 M : Gt} {u e : Nat} (h : bs N B z G0 M 1 u 9 e 0 0) : eW N B z M (bS G0) := by
  have kk := st_k h.1
  obtain ⟨y, hy, ey⟩ := prt (k := 9) (w := 0) (by decide) (by decide) (by decide) (by omega) kk.1
  exact b_do h (by rw [cd_9]; rfl) hy ey (by unfold kP; omega) (fun _ => rfl) rfl (b_xv h (by decide) (by decide) (by decide) (fun q => by omega)) (bN_9 h.2.2.2.2.2.1 h.1.2.2.2.2.2.2.1)
theorem b_10 {N B : Nat} {z : Zt} {G0 M : Gt} {u e : Nat} (h : bs N B z G0 M 1 u 10 e 0 0) : eW N B z M (bS G0) := by
  have kk := st_k h.1
  obtain ⟨y, hy, ey⟩ := prt (k := 10) (w := 0) (by decide) (by decide) (by decide) (by omega) kk.1
  exact b_do h (by rw [cd_10]; rfl) hy ey (by unfold kP; omega) (fun _ => rfl) rfl (b_xv h (by decide) (by decide) (by decide) (fun q => by omega)) (bN_10 h.2.2.2.2.2.1 h.1.2.2.2.2.2.2.1)
theorem b_11 {N B : Nat} {z : Zt} {G0 M : Gt} {u e : Nat} (h : bs N B z G0 M 1 u 11 e 0 0) : eW N B z M (bS G0) := by
  have kk := st_k h.1
  obtain ⟨y, hy, ey⟩ := prt (k := 11) (w := 0) (by decide) (by decide) (by decide) (by omega) kk.1
  exact b_do h (by rw [cd_11]; rfl) hy ey (by unfold kP; omega) (fun _ => rfl) rfl (b_xv h (by decide) (by decide) (by decide) (fun q => by omega)) (bN_11 h.2.2.2.2.2.1 h.1.2.2.2.2.2.2.1)
theorem b_19 {N B : Nat} {z : Zt} {G0 M : Gt} {u e : Nat} (h : bs N B z G0 M 1 u 19 e 0 0) : eW N B z M (bS G0) := by
  have kk := st_k h.1
  obtain ⟨y, hy, ey⟩ := prt (k := 19) (w := 0) (by decide) (by decide) (by decide) (by omega) kk.1
  exact b_do h (by rw [cd_19]; rfl) hy ey (by unfold kP; omega) (fun _ => rfl) rfl (b_xv h (by decide) (by decide) (by decide) (fun q => by omega)) (bN_19 h.2.2.2.2.2.1 h.1.2.2.2.2.2.2.1)
theorem b_22 {N B : Nat} {z : Zt} {G0 M : Gt} {u e : Nat} (h : bs N B z G0 M 1 u 22 e 0 0) : eW N B z M (bS G0) := by
  have kk := st_k h.1
  obtain ⟨y, hy, ey⟩ := prt (k := 22) (w := 0) (by decide) (by decide) (by decide) (by omega) kk.1
  exact b_do h (by rw [cd_22]; rfl) hy ey (by unfold kP; omega) (fun _ => rfl) rfl (b_xv h (by decide) (by decide) (by decide) (fun q => by omega)) (bN_22 h.2.2.2.2.2.1 h.1.2.2.2.2.2.2.1)
theorem b_24 {N B : Nat} {z : Zt} {G0 M : Gt} {u e : Nat} (h : bs N B z G0 M 1 u 24 e 0 0) : eW N B z M (bS G0) := by
  have kk := st_k h.1
  obtain ⟨y, hy, ey⟩ := prt (k := 24) (w := 0) (by decide) (by decide) (by decide) (by omega) kk.1
  exact b_do h (by rw [cd_24]; rfl) hy ey (by unfold kP; omega) (fun _ => rfl) rfl (b_xv h (by decide) (by decide) (by decide) (fun q => by omega)) (bN_24 h.2.2.2.2.2.1 h.1.2.2.2.2.2.2.1)
theorem b_31 {N B : Nat} {z : Zt} {G0 M : Gt} {u e : Nat} (h : bs N B z G0 M 1 u 31 e 0 0) : eW N B z M (bS G0) := by
  have kk := st_k h.1
  obtain ⟨y, hy, ey⟩ := prt (k := 31) (w := 0) (by decide) (by decide) (by decide) (by omega) kk.1
  exact b_do h (by rw [cd_31]; rfl) hy ey (by unfold kP; omega) (fun _ => rfl) rfl (b_xv h (by decide) (by decide) (by decide) (fun q => by omega)) (bN_31 h.2.2.2.2.2.1 h.1.2.2.2.2.2.2.1)
theorem b_35 {N B : Nat} {z : Zt} {G0 M : Gt} {u e : Nat} (h : bs N B z G0 M 1 u 35 e 0 0) : eW N B z M (bS G0) := by
  have kk := st_k h.1
  obtain ⟨y, hy, ey⟩ := prt (k := 35) (w := 0) (by decide) (by decide) (by decide) (by omega) kk.1
  exact b_do h (by rw [cd_35]; rfl) hy ey (by unfold kP; omega) (fun _ => rfl) rfl (b_xv h (by decide) (by decide) (by decide) (fun q => by omega)) (bN_35 h.2.2.2.2.2.1 h.1.2.2.2.2.2.2.1)
theorem b_37 {N B : Nat} {z : Zt} {G0 M : Gt} {u e : Nat} (h : bs N B z G0 M 1 u 37 e 0 0) : eW N B z M (bS G0) := by
  have kk := st_k h.1
  obtain ⟨y, hy, ey⟩ := prt (k := 37) (w := 0) (by decide) (by decide) (by decide) (by omega) kk.1
  exact b_do h (by rw [cd_37]; rfl) hy ey (by unfold kP; omega) (fun _ => rfl) rfl (b_xv h (by decide) (by decide) (by decide) (fun q => by omega)) (bN_37 h.2.2.2.2.2.1 h.1.2.2.2.2.2.2.1)
theorem b_17 {N B : Nat} {z : Zt} {G0 M : Gt} {u e : Nat} (h : bs N B z G0 M 0 u 17 e 1 0) : eW N B z M (bS G0) := by
  have kk := st_k h.1
  obtain ⟨y, hy, ey⟩ := prt (k := 17) (w := 0) (by decide) (by decide) (by decide) (by omega) kk.1
  exact b_do h (by rw [cd_17]; rfl) hy ey (by unfold kP; omega) (fun _ => rfl) rfl (b_xv h (by decide) (by decide) (by decide) (fun _ => ⟨rfl, fun q => by omega⟩)) (bN_17 h.2.2.2.2.2.1 h.1.2.2.2.2.2.2.1)
theorem b_25 {N B : Nat} {z : Zt} {G0 M : Gt} {u e : Nat} (h : bs N B z G0 M 0 u 25 e 1 0) : eW N B z M (bS G0) := by
  have kk := st_k h.1
  obtain ⟨y, hy, ey⟩ := prt (k := 25) (w := 0) (by decide) (by decide) (by decide) (by omega) kk.1
  exact b_do h (by rw [cd_25]; rfl) hy ey (by unfold kP; omega) (fun _ => rfl) rfl (b_xv h (by decide) (by decide) (by decide) (fun _ => ⟨rfl, fun q => by omega⟩)) (bN_25 h.2.2.2.2.2.1 h.1.2.2.2.2.2.2.1)
theorem b_29 {N B : Nat} {z : Zt} {G0 M : Gt} {u e : Nat} (h : bs N B z G0 M 0 u 29 e 1 0) : eW N B z M (bS G0) := by
  have kk := st_k h.1
  obtain ⟨y, hy, ey⟩ := prt (k := 29) (w := 0) (by decide) (by decide) (by decide) (by omega) kk.1
  exact b_do h (by rw [cd_29]; rfl) hy ey (by unfold kP; omega) (fun _ => rfl) rfl (b_xv h (by decide) (by decide) (by decide) (fun _ => ⟨rfl, fun q => by omega⟩)) (bN_29 h.2.2.2.2.2.1 h.1.2.2.2.2.2.2.1)
theorem b_26 {N B : Nat} {z : Zt} {G0 M : Gt} {u e : Nat} (h : bs N B z G0 M 1 u 26 e 0 0) : eW N B z M (bS G0) := by
  have kk := st_k h.1
  obtain ⟨y, hy, ey⟩ := prt (k := 26) (w := 1) (by decide) (by decide) (by decide) (by omega) kk.2.1
  refine b_do h (by rw [cd_26]; rfl) hy ey (by unfold kP; omega) (fun _ => rfl) rfl ?_ (bN_26 h.2.2.2.2.2.1 h.1.2.2.2.2.2.2.1)
  refine ⟨⟨fun _ _ => ?_, fun q => by omega⟩, fun q => by omega, fun q => by omega, fun _ => ⟨fun _ => ?_, fun q => by omega⟩, fun q => by omega, fun q => by omega, fun q => by omega, fun q => by omega, fun q => by omega⟩
  · rw [mx_R rfl, gu_kk]
  · rw [mx_C rfl]; exact h.2.2.2.1
theorem b_18_1 {N B : Nat} {z : Zt} {G0 M : Gt} {u e : Nat} (h : bs N B z G0 M 0 u 18 e 1 0) (h49 : ¬ M 49 (z 1 u) = -1) : eW N B z M (bS G0) := by
  have kk := st_k h.1
  obtain ⟨y, hy, ey⟩ := pro h49 kk.2.1
  refine b_do (d := M 49 (z 1 u)) h ?_ hy ey (by unfold kP; omega) (fun _ => rfl) rfl (b_xv h (by decide) (by decide) (by decide) (fun _ => ⟨rfl, fun _ => h49⟩)) (bN_18_1 h.2.2.2.2.2.1 h.1.2.2.2.2.2.2.1 h49)
  rw [cd_18, if_neg h49]
  by_cases c : M 50 (z 1 u) = -1
  · rw [if_pos c]; rfl
  · rw [if_neg c]; rfl
/-! TRY, FINALLY: a landing, then a part -/
theorem b_20 {N B : Nat} {z : Zt} {G0 M : Gt} {u e : Nat} (h : bs N B z G0 M 0 u 20 e 1 0) : eW N B z M (bS G0) := by
  obtain ⟨hs, h116, h118, h124, h15, hb, h19, h20, _⟩ := id h
  obtain ⟨f1, f2, f3, f4, f5, f6, f7, f8, f9, f10, f11, f12, f13, f14⟩ := st_f hs
  have hu := hs.2.1
  have kk := st_k hs
  obtain ⟨y, hy, ey⟩ := prt (k := 20) (w := 1) (by decide) (by decide) (by decide) (by omega) kk.2.1
  have c0 := st_code hs (q := 0) (w := 47) (d := nI e + 3) (by rw [cd_20]; rfl)
  have c1 := st_code hs (q := 1) (w := 41) (d := M 49 (z 1 u)) (by rw [cd_20]; rfl)
  rw [Nat.add_zero] at c0
  have s1 := i_guard (cat f1 h116 (by omega) c0.1)
  rw [c0.2.1, show nI e + 3 = nI (e + 3) from nI_add e 3] at s1
  have hR := bN_20 hb hs.2.2.2.2.2.2.1
  rw [ey, f7] at hR
  have t0 := st_fr (Gc := gu (gu M 116 u (nI (e + 1))) 118 u (nI (e + 3))) (Gr := gu M 67 (z 6 u) 0) (sp' := 0) (fp' := 0) hs (ag1 hu (by decide) (ag1 hu (by decide) agw_rfl)) (ag2 hu (by decide) agw_rfl) ⟨rfl, rfl, rfl, rfl, rfl⟩ (Nat.le_refl _) (Nat.zero_le _)
  exact f_do (t := 1) (p := e + 1) (y := y) (p' := 1) clo_bS t0 (fun _ _ => rfl) (cT_1 s1) (by decide) (by rw [gu_oo _ (by decide), gu_kk]) ⟨c1.1, c1.2.1.trans ey, c1.2.2⟩ hy hR (kp_gu (by unfold kpc; omega) (kp_gu (by unfold kpc; omega) kp_rfl)) (kp_gu (by unfold kpc; omega) kp_rfl) (Or.inl rfl) (by unfold kP; omega) (by omega) (Or.inl rfl) (by rw [gu_kk]; rfl) (xV_mk (Or.inl rfl) (by decide) (by decide) (by decide) (by rw [mx_R rfl, gu_kk]; rfl) (fun q => by omega) (fun _ => ⟨h19, fun q => by omega⟩))
theorem b_21 {N B : Nat} {z : Zt} {G0 M : Gt} {u e : Nat} (h : bs N B z G0 M 1 u 21 e 0 1) : eW N B z M (bS G0) := by
  obtain ⟨hs, h116, h118, h124, h15, hb, h19, h20, _⟩ := id h
  obtain ⟨f1, f2, f3, f4, f5, f6, f7, f8, f9, f10, f11, f12, f13, f14⟩ := st_f hs
  have hu := hs.2.1
  have kk := st_k hs
  obtain ⟨y, hy, ey⟩ := prt (k := 21) (w := 0) (by decide) (by decide) (by decide) (by omega) kk.1
  have c0 := st_code hs (q := 0) (w := 47) (d := nI e + 2) (by rw [cd_21]; rfl)
  have c1 := st_code hs (q := 1) (w := 41) (d := M 48 (z 1 u)) (by rw [cd_21]; rfl)
  rw [Nat.add_zero] at c0
  have s1 := i_guard (cat f1 h116 (by omega) c0.1)
  rw [c0.2.1, show nI e + 2 = nI (e + 2) from nI_add e 2] at s1
  have hR := bN_21 hb hs.2.2.2.2.2.2.1
  rw [ey, f7] at hR
  have t0 := st_fr (Gc := gu (gu M 116 u (nI (e + 1))) 118 u (nI (e + 2))) (Gr := gu M 67 (z 6 u) 0) (sp' := 1) (fp' := 0) hs (ag1 hu (by decide) (ag1 hu (by decide) agw_rfl)) (ag2 hu (by decide) agw_rfl) ⟨rfl, rfl, rfl, rfl, rfl⟩ (Nat.le_refl _) (Nat.zero_le _)
  refine f_do (t := 1) (p := e + 1) (y := y) (p' := 1) clo_bS t0 (fun _ _ => rfl) (cT_1 s1) (by decide) (by rw [gu_oo _ (by decide), gu_kk]) ⟨c1.1, c1.2.1.trans ey, c1.2.2⟩ hy hR (kp_gu (by unfold kpc; omega) (kp_gu (by unfold kpc; omega) kp_rfl)) (kp_gu (by unfold kpc; omega) kp_rfl) (Or.inl rfl) (by unfold kP; omega) (by omega) (Or.inl rfl) (by rw [gu_kk]; rfl) ?_
  refine ⟨⟨fun _ _ => ?_, fun q => by omega⟩, fun q => by omega, fun q => by omega, fun q => by omega, fun _ q => by omega, fun q => by omega, fun _ _ => h20, fun q => by omega, fun q => by omega⟩
  rw [mx_R rfl, gu_kk]
/-! SCOPE, LOOP: a part in a scope of its own -/
theorem b_12 {N B : Nat} {z : Zt} {G0 M : Gt} {u e : Nat} (h : bs N B z G0 M 1 u 12 e 0 0) : eW N B z M (bS G0) := by
  obtain ⟨hs, h116, h118, h124, h15, hb, h19, h20, h67, h55⟩ := id h
  obtain ⟨f1, f2, f3, f4, f5, f6, f7, f8, f9, f10, f11, f12, f13, f14⟩ := st_f hs
  have hu := hs.2.1
  have kk := st_k hs
  have hR1 := hs.1.1.2.2.2.2.2.2.2.2.2.2.2.2.2.2.2.2.2.2.1.1
  have hQ := hs.1.1.2.2.2.2.2.2.2.2.2.2.2.2.2.2.2.2.2.1
  obtain ⟨Q1, Q2, Q3, Q4, Q5, Q6, Q7, Q8, Q9, Q10, Q11, Q12, Q13, Q14, Q15, Q16, Q17, Q18, Q19, Q20, Q21, Q22, Q23, Q24, Q25⟩ := hQ
  obtain ⟨y, hy, ey⟩ := prt (k := 12) (w := 0) (by decide) (by decide) (by decide) (by omega) kk.1
  have c0 := st_code hs (q := 0) (w := 42) (d := M 48 (z 1 u)) (by rw [cd_12]; rfl)
  rw [Nat.add_zero] at c0
  have s1 := i_doi (cat f1 h116 (by omega) c0.1) (n := z 0 0) (m := y) (S := z 0 3) f10 (by omega) Q19 (by omega) (c0.2.1.trans ey) (by omega)
  rw [f9] at s1
  have hR := bN_12 hb hs.2.2.2.2.2.2.1 Q18 (by omega)
  rw [ey, h55] at hR
  have hst := st_sc (oc := nI (z 13 (z 5 u))) (or' := nI (z 5 u)) (sp := 0) (st_u (G' := gu M 116 u (nI (e + 1))) (sp' := 1) (fp' := 0) hs (ag1 hu (by decide) agw_rfl) ⟨rfl, rfl, rfl, rfl, rfl⟩ (Nat.le_refl _) (Nat.zero_le _)) (Or.inr ⟨z 5 u, f8, rfl, rfl⟩)
  have em : oOp (z 0 3) (nI (z 13 (z 5 u))) (oOr (z 0 2) (nI (z 5 u)) (gu M 116 u (nI (e + 1)))) = mxw (oOp (z 0 3) (nI (z 13 (z 5 u))) (gu M 116 u (nI (e + 1)))) (oOr (z 0 2) (nI (z 5 u)) M) := by
    rw [mxw_op, mxw_or, ← mxw_gC rfl, mxw_self]
  rw [em] at hst
  refine eW_z (z' := zSc z) (mu_eq rfl rfl) ?_
  refine f_dog (q := e + 1) (y := y) (s := z 0 2) (p' := 1) (t := 1) clo_bS hst (fun _ _ => rfl) (by show z 0 2 < z 0 2 + 1; omega) ?_ (by decide) ?_ hy hR ?_ ?_ (Or.inl rfl) (by unfold kP; omega) (by omega) (Or.inl rfl) ?_ ?_
  · rw [zSc_n]
    exact cT_1 s1
  · rw [op_n (by decide), gu_kk]
  · exact kp_op (kp_gu (by unfold kpc; omega) kp_rfl)
  · exact kp_or kp_rfl
  · rw [op_n (by decide), gu_oo _ (by decide)]
    exact h118
  · refine xV_mk (Or.inl rfl) (by decide) (by decide) (by decide) ?_ (fun q => by omega) (fun q => by omega)
    show (oOr (z 0 2) (nI (z 5 u)) M) 67 (z 6 u) = 0
    rw [or_n (by omega)]
    exact h67
theorem b_13 {N B : Nat} {z : Zt} {G0 M : Gt} {u e : Nat} (h : bs N B z G0 M 1 u 13 e 0 0) : eW N B z M (bS G0) := by
  obtain ⟨hs, h116, h118, h124, h15, hb, h19, h20, h67, h55⟩ := id h
  obtain ⟨f1, f2, f3, f4, f5, f6, f7, f8, f9, f10, f11, f12, f13, f14⟩ := st_f hs
  have hu := hs.2.1
  have kk := st_k hs
  have hR1 := hs.1.1.2.2.2.2.2.2.2.2.2.2.2.2.2.2.2.2.2.2.1.1
  have hQ := hs.1.1.2.2.2.2.2.2.2.2.2.2.2.2.2.2.2.2.2.1
  obtain ⟨Q1, Q2, Q3, Q4, Q5, Q6, Q7, Q8, Q9, Q10, Q11, Q12, Q13, Q14, Q15, Q16, Q17, Q18, Q19, Q20, Q21, Q22, Q23, Q24, Q25⟩ := hQ
  obtain ⟨y, hy, ey⟩ := prt (k := 13) (w := 1) (by decide) (by decide) (by decide) (by omega) kk.2.1
  have c0 := st_code hs (q := 0) (w := 47) (d := nI e + 3) (by rw [cd_13]; rfl)
  have c1 := st_code hs (q := 1) (w := 42) (d := M 49 (z 1 u)) (by rw [cd_13]; rfl)
  rw [Nat.add_zero] at c0
  have s1 := i_guard (cat f1 h116 (by omega) c0.1)
  rw [c0.2.1, show nI e + 3 = nI (e + 3) from nI_add e 3] at s1
  have s2 := i_doi (G := gu (gu M 116 u (nI (e + 1))) 118 u (nI (e + 3))) (u := u) (p := e + 1) (n := z 0 0) (m := y) (S := z 0 3) ⟨f1.1, f1.2.1, f1.2.2.1, f1.2.2.2, by rw [gu_oo _ (by decide), gu_kk], c1.2.2, c1.1⟩ f10 (by omega) Q19 (by omega) (c1.2.1.trans ey) (by omega)
  rw [show (gu (gu M 116 u (nI (e + 1))) 118 u (nI (e + 3))) 112 u = nI (z 13 (z 5 u)) from f9] at s2
  have hR := bN_13 hb hs.2.2.2.2.2.2.1 Q18 (by omega)
  rw [ey, h55] at hR
  have hst := st_sc (oc := nI (z 13 (z 5 u))) (or' := nI (z 5 u)) (sp := 0) (st_u (G' := gu (gu (gu M 116 u (nI (e + 1))) 118 u (nI (e + 3))) 116 u (nI (e + 1 + 1))) (sp' := 1) (fp' := 0) hs (ag1 hu (by decide) (ag1 hu (by decide) (ag1 hu (by decide) agw_rfl))) ⟨rfl, rfl, rfl, rfl, rfl⟩ (Nat.le_refl _) (Nat.zero_le _)) (Or.inr ⟨z 5 u, f8, rfl, rfl⟩)
  have em : oOp (z 0 3) (nI (z 13 (z 5 u))) (oOr (z 0 2) (nI (z 5 u)) (gu (gu (gu M 116 u (nI (e + 1))) 118 u (nI (e + 3))) 116 u (nI (e + 1 + 1)))) = mxw (oOp (z 0 3) (nI (z 13 (z 5 u))) (gu (gu (gu M 116 u (nI (e + 1))) 118 u (nI (e + 3))) 116 u (nI (e + 1 + 1)))) (oOr (z 0 2) (nI (z 5 u)) M) := by
    rw [mxw_op, mxw_or, ← mxw_gC rfl, ← mxw_gC rfl, ← mxw_gC rfl, mxw_self]
  rw [em] at hst
  refine eW_z (z' := zSc z) (mu_eq rfl rfl) ?_
  refine f_dog (q := e + 2) (y := y) (s := z 0 2) (p' := 1) (t := 2) clo_bS hst (fun _ _ => rfl) (by show z 0 2 < z 0 2 + 1; omega) ?_ (by decide) ?_ hy hR ?_ ?_ (Or.inl rfl) (by unfold kP; omega) (by omega) (Or.inl rfl) ?_ ?_
  · rw [zSc_n]
    exact ⟨_, s1, _, s2, eqc_rfl⟩
  · rw [op_n (by decide), gu_kk]
  · exact kp_op (kp_gu (by unfold kpc; omega) (kp_gu (by unfold kpc; omega) (kp_gu (by unfold kpc; omega) kp_rfl)))
  · exact kp_or kp_rfl
  · rw [op_n (by decide), gu_oo _ (by decide), gu_kk]
    rfl
  · refine xV_mk (Or.inl rfl) (by decide) (by decide) (by decide) ?_ (fun q => by omega) (fun q => by omega)
    show (oOr (z 0 2) (nI (z 5 u)) M) 67 (z 6 u) = 0
    rw [or_n (by omega)]
    exact h67
