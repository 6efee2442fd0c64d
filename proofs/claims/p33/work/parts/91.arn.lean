/-- how a part has ended, as the frame above it sees it (no value) -/
def aU (z : Zt) (G : Gt) (u : Nat) (c15 c16 c18 c17 r41 r42 r43 r44 r45 r46 : Int32) : Prop :=
  (c15 = 1 ∧ r41 = 2 ∧ c16 = r42 ∧ isnum c16 ∧ ((r44 = -100000 ∧ c17 = 50000) ∨ (isnum r44 ∧ c17 = r44)) ∧ ∃ d t, d < z 0 0 ∧ c18 = nI d ∧ r45 = nI (z 1 d) ∧ t ≤ 12 ∧ cH z (G 120 d) r46 t ∧ z 9 d = 0) ∨
  (c15 = 2 ∧ r41 = 3 ∧ c16 = r42 ∧ vV z c16 ∧ ∃ l t, l < 4 ∧ r43 = nI l ∧ c18 = nI t ∧ t < z 0 0 ∧ lW z G l u t) ∨
  (c15 = 3 ∧ r41 = 4 ∧ ∃ l t, l < 4 ∧ r43 = nI l ∧ c18 = nI t ∧ t < z 0 0 ∧ lW z G l u t) ∨
  (c15 = 4 ∧ r41 = 5 ∧ ((z 2 (z 8 u) = 3 ∧ c16 = r42 ∧ vV z c16) ∨ 4 ≤ z 2 (z 8 u)))
theorem lW_step {z : Zt} {G : Gt} {l u t : Nat} (h : lW z G l u t) : (isL z G l u ∧ t = u) ∨ (¬ isL z G l u ∧ z 2 u = 0 ∧ lW z G l (z 3 u) t) := by
  obtain ⟨k, a, b, c⟩ := h
  cases k with
  | zero => exact Or.inl ⟨b, c.symm⟩
  | succ k => exact Or.inr ⟨(a 0 (by omega)).1, (a 0 (by omega)).2, k, fun j hj => a (j + 1) (by omega), b, c⟩
theorem lW_lt {z : Zt} {G : Gt} {n : Nat} (hp : ∀ i, i < n → z 2 i = 0 → z 3 i < i) {l t : Nat} : ∀ (k u : Nat), u ≤ k → u < n → lW z G l u t → t ≤ u := by
  intro k
  induction k with
  | zero =>
    intro u hu hn h
    rcases lW_step h with ⟨_, e⟩ | ⟨_, e, _⟩
    · omega
    · have := hp u hn e; omega
  | succ k ih =>
    intro u hu hn h
    rcases lW_step h with ⟨_, e⟩ | ⟨_, e, h'⟩
    · omega
    · have := hp u hn e
      have := ih (z 3 u) (by omega) (by omega) h'
      omega
/-- passed on -/
theorem aU_pass {z : Zt} {G : Gt} {u c : Nat} {c15 c16 c18 c17 r41 r42 r43 r44 r45 r46 : Int32} (h : aU z G u c15 c16 c18 c17 r41 r42 r43 r44 r45 r46) (hl : ∀ l, l < 4 → r43 = nI l → (r41 = 3 ∨ r41 = 4) → ¬ isL z G l u) : oU z G u c c15 c16 c18 c17 r41 r42 r43 r44 r45 r46 := by
  rcases h with ⟨a1, a2, a3, a4, a5, d, t, a6, a7, a8, a9, a10, a11⟩ | ⟨a1, a2, a3, a4, l, t, a6, a7, a8, a9, a10⟩ | ⟨a1, a2, l, t, a6, a7, a8, a9, a10⟩ | ⟨a1, a2, a3⟩
  · exact Or.inr (Or.inl ⟨a1, a2, a3, a4, a5, d, t, a6, a7, a8, a9, a10, Or.inl a11⟩)
  · have := hl l a6 a7 (Or.inl a2)
    rcases lW_step a10 with ⟨q, _⟩ | ⟨_, q, q'⟩
    · exact absurd q this
    · exact Or.inr (Or.inr (Or.inl ⟨a1, a2, a3, a4, q, l, t, a6, a7, a8, a9, q'⟩))
  · have := hl l a6 a7 (Or.inr a2)
    rcases lW_step a10 with ⟨q, _⟩ | ⟨_, q, q'⟩
    · exact absurd q this
    · exact Or.inr (Or.inr (Or.inr (Or.inl ⟨a1, a2, q, l, t, a6, a7, a8, a9, q'⟩)))
  · exact Or.inr (Or.inr (Or.inr (Or.inr ⟨a1, a2, a3⟩)))
theorem aU_nv {z : Zt} {G : Gt} {u : Nat} {c15 c16 c18 c17 r41 r42 r43 r44 r45 r46 : Int32} (h : aU z G u c15 c16 c18 c17 r41 r42 r43 r44 r45 r46) : ¬ c15 = 0 ∧ ¬ r41 = 0 ∧ ¬ r41 = 1 := by
  rcases h with ⟨a1, a2, _⟩ | ⟨a1, a2, _⟩ | ⟨a1, a2, _⟩ | ⟨a1, a2, _⟩ <;> rw [a1, a2] <;> decide
theorem arr_non {N B : Nat} {z : Zt} {G : Gt} (h : eST N B z G) (hb : z 2 (z 0 7) = 0) (h15 : ¬ G 84 15 = 0) :
    ∃ z1 G1 u k e p sp, cS G G1 ∧ eqr G G1 ∧ kp G G1 ∧ mu z1 + 10 ≤ mu z ∧ arr N B z1 G1 (fun o => if k = 26 ∧ p = 2 ∧ G1 48 (z1 1 u) = nI o then G1 122 u else G1 31 o) sp u k e p ∧
      G1 116 u = (if lao k p = 0 then 0 else nI (e + lao k p)) ∧ G1 118 u = 0 ∧ (sp = 1 ∨ G1 84 15 = 1) ∧
      aU z1 G1 u (G1 84 15) (G1 84 16) (G1 84 18) (G1 84 17) (G1 46 41) (G1 46 42) (G1 46 43) (G1 46 44) (G1 46 45) (G1 46 46) ∧ G1 46 57 = nI (z1 6 u) := by
  obtain ⟨sp, hA, ⟨p, hp, e116, e16⟩, ho, h57, hsp⟩ := h
  obtain ⟨hS, hm, h6, h12, hFr⟩ := id hA
  have hQ := hS.2.2.2.2.2.2.2.2.2.2.2.2.2.2.2.2.2.1
  have hcn : z 0 7 < z 0 0 := by have := hS.2.2.2.2.2.2.2.2.2.2.2.1.2.2.2.1; omega
  have hn6 : z 0 0 ≤ 600 := by have := hQ.1; have := hQ.2.2.2.1; omega
  have hC := hS.2.2.2.1
  have hD := hS.2.2.2.2.1
  have hE := hS.2.2.2.2.2.1
  have f1 := u_fr (G' := gu G 116 (z 0 7) (nI (p + 1))) (sp' := sp) (fp' := 0) hS h6 hcn (agw_gu (by unfold frw; omega) agw_rfl) (Nat.le_refl _) (Nat.le_refl _) (Or.inr (by rw [gu_oo _ (by decide)])) ⟨hQ.2.2.2.2.2.2.2.2.2.2.2.1, hQ.2.2.2.2.2.2.2.2.2.2.2.2.1⟩ hQ.2.2.2.2.2.2.2.2.2.2.2.2.2.1
  obtain ⟨t1, t2, t3, t4, t5, t6, t7, t8, t9, t10⟩ := t_up f1.1 hm hb h6
  obtain ⟨k, e, a1, a1e, a2, a3, a4, a5, a6, a7⟩ := t5
  have hne : ¬ z 3 (z 0 7) = z 0 7 := by omega
  have hun : z 3 (z 0 7) < z 0 0 := by omega
  have hf := fX_of hS.2.1 hC (by omega)
  have hzc : (zUp z) 0 7 = z 3 (z 0 7) := by simp [zUp, zu]
  -- it lands
  have f2 := u_fr (z := zUp z) (G' := gu (gu (gu (gu G 116 (z 0 7) (nI (p + 1))) 84 11 (nI (z 3 (z 0 7)))) 116 (z 3 (z 0 7)) (G 118 (z 3 (z 0 7)))) 118 (z 3 (z 0 7)) 0) (sp' := sp) (fp' := 0) t1 (by rw [hzc, t9, if_pos rfl]) (by rw [hzc]; exact hun) (agw_gu (by unfold frw; rw [hzc]; omega) (agw_gu (by unfold frw; rw [hzc]; omega) agw_rfl)) (Nat.le_refl _) (Nat.le_refl _) (Or.inr (by rw [gu_oo _ (by decide), gu_oo _ (by decide)])) ⟨hQ.2.2.2.2.2.2.2.2.2.2.2.1, hQ.2.2.2.2.2.2.2.2.2.2.2.2.1⟩ hQ.2.2.2.2.2.2.2.2.2.2.2.2.2.1
  have hao : aU (zUp z) (gu (gu (gu (gu G 116 (z 0 7) (nI (p + 1))) 84 11 (nI (z 3 (z 0 7)))) 116 (z 3 (z 0 7)) (G 118 (z 3 (z 0 7)))) 118 (z 3 (z 0 7)) 0) (z 3 (z 0 7)) (G 84 15) (G 84 16) (G 84 18) (G 84 17) (G 46 41) (G 46 42) (G 46 43) (G 46 44) (G 46 45) (G 46 46) := by
    rcases ho with ⟨b, _⟩ | ⟨a1, a2, a3, a4, a5, d, t, a6, a7, a8, a9, a10, a11⟩ | ⟨a1, a2, a3, a4, a5, l, t, a6, a7, a8, a9, a10⟩ | ⟨a1, a2, a5, l, t, a6, a7, a8, a9, a10⟩ | ⟨a1, a2, a3⟩
    · exact absurd b h15
    · refine Or.inl ⟨a1, a2, a3, a4, a5, d, t, a6, a7, a8, a9, a10, ?_⟩
      rw [t9]
      have nd : ¬ d = z 3 (z 0 7) := by
        intro e
        rcases a11 with q | q
        · rw [e] at q; omega
        · omega
      rw [if_neg nd]
      split
      · rfl
      · rcases a11 with q | q
        · exact q
        · rename_i q'; exact absurd q q'
    · exact Or.inr (Or.inl ⟨a1, a2, a3, a4, l, t, a6, a7, a8, a9, a10⟩)
    · exact Or.inr (Or.inr (Or.inl ⟨a1, a2, l, t, a6, a7, a8, a9, a10⟩))
    · refine Or.inr (Or.inr (Or.inr ⟨a1, a2, ?_⟩))
      rw [t7] at a3
      exact a3
  have u118 : (gu (gu (gu (gu G 116 (z 0 7) (nI (p + 1))) 84 11 (nI (z 3 (z 0 7)))) 116 (z 3 (z 0 7)) (G 118 (z 3 (z 0 7)))) 118 (z 3 (z 0 7)) 0) 116 (z 3 (z 0 7)) = G 118 (z 3 (z 0 7)) := by
    rw [gu_oo _ (by decide), gu_kk]
  refine ⟨zUp z, gu (gu (gu (gu G 116 (z 0 7) (nI (p + 1))) 84 11 (nI (z 3 (z 0 7)))) 116 (z 3 (z 0 7)) (G 118 (z 3 (z 0 7)))) 118 (z 3 (z 0 7)) 0, z 3 (z 0 7), k, e, z 9 (z 3 (z 0 7)), sp, ?_, ?_, ?_, ?_, ⟨⟨?_, ?_, ?_, ?_, ?_⟩, ?_, ?_, ?_, ?_, ?_, ?_, ?_, ?_, ?_, ?_, fun o => rfl⟩, ?_, ?_, ?_, ?_, ?_⟩
  · refine i_lv_x ⟨hQ.2.2.2.2.2.2.2.2.2.1, h12, hQ.2.2.2.2.2.2.2.2.1, by omega, e116, hp, e16⟩ ?_ ?_ (by omega) hne h15
    · have := (hC (z 0 7) (by omega)).1; rw [hb] at this; exact this
    · exact (hD (z 0 7) (by omega)).1 hb
  · exact eqr_gu rfl (eqr_gu rfl (eqr_gu rfl (eqr_gu rfl eqr_rfl)))
  · exact kp_gu (by unfold kpc; omega) (kp_gu (by unfold kpc; omega) (kp_gu (by unfold kpc; omega) (kp_gu (by unfold kpc; omega) kp_rfl)))
  · exact mu_up t8 (Nat.le_refl _)
  · have : (oVw z (gu G 116 (z 0 7) (nI (p + 1))) (z 3 (z 0 7)) (G 31)) = (fun o => if k = 26 ∧ z 9 (z 3 (z 0 7)) = 2 ∧ (gu (gu (gu (gu G 116 (z 0 7) (nI (p + 1))) 84 11 (nI (z 3 (z 0 7)))) 116 (z 3 (z 0 7)) (G 118 (z 3 (z 0 7)))) 118 (z 3 (z 0 7)) 0) 48 ((zUp z) 1 (z 3 (z 0 7))) = nI o then (gu (gu (gu (gu G 116 (z 0 7) (nI (p + 1))) 84 11 (nI (z 3 (z 0 7)))) 116 (z 3 (z 0 7)) (G 118 (z 3 (z 0 7)))) 118 (z 3 (z 0 7)) 0) 122 (z 3 (z 0 7)) else (gu (gu (gu (gu G 116 (z 0 7) (nI (p + 1))) 84 11 (nI (z 3 (z 0 7)))) 116 (z 3 (z 0 7)) (G 118 (z 3 (z 0 7)))) 118 (z 3 (z 0 7)) 0) 31 o) := by
      funext o
      unfold oVw
      have q : (gu G 116 (z 0 7) (nI (p + 1))) 47 (z 1 (z 3 (z 0 7))) = 26 ↔ k = 26 := by
        rw [a2]; exact nI_eqL rfl (by omega) (by decide)
      by_cases c : k = 26 ∧ z 9 (z 3 (z 0 7)) = 2 ∧ G 48 (z 1 (z 3 (z 0 7))) = nI o
      · exact (if_pos ⟨q.mpr c.1, c.2⟩).trans (if_pos c).symm
      · exact (if_neg (fun y => c ⟨q.mp y.1, y.2⟩)).trans (if_neg c).symm
    rw [← this]
    exact f2.1
  · exact hm
  · show (zUp z) 9 ((zUp z) 0 7) = 6
    rw [hzc, t9, if_pos rfl]
  · exact h12
  · exact hFr
  · exact hzc
  · exact hun
  · exact t6
  · exact a1
  · exact a1e
  · exact a2
  · exact a3
  · exact a4
  · exact xV_ext t10 hf hun hn6 rfl rfl rfl rfl rfl rfl rfl rfl rfl a7
  · exact t4
  · rw [u118]; exact a6
  · rw [gu_kk]
  · exact hsp
  · exact hao
  · show G 46 57 = nI (z 6 (z 3 (z 0 7)))
    rw [h57]
    exact (hE (z 0 7) hcn).2.2.1 hb
