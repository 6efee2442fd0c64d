/-- cells that the relation does not speak of while the current frame goes on, or that are asked for anew -/
def fr (z : Zt) (k j : Nat) : Prop :=
  ((k = 116 ∨ k = 118 ∨ k = 120 ∨ k = 122 ∨ k = 124 ∨ k = 126 ∨ k = 128) ∧ j = z 0 7) ∨ ((k = 67 ∨ k = 68 ∨ k = 69) ∧ j = z 6 (z 0 7)) ∨
  (k = 84 ∧ (j = 12 ∨ (14 ≤ j ∧ j ≤ 19))) ∨ (k = 46 ∧ (j = 12 ∨ j = 14 ∨ (41 ≤ j ∧ j ≤ 46) ∨ j = 51 ∨ (54 ≤ j ∧ j ≤ 57) ∨ j = 62)) ∨ (k = 80 ∧ 6 * z 0 6 ≤ j) ∨
  (k = 19 ∨ k = 20 ∨ k = 22 ∨ k = 24 ∨ k = 25 ∨ k = 27 ∨ k = 29 ∨ k = 31 ∨ k = 33 ∨ k = 35 ∨ k = 54 ∨ k = 56 ∨ k = 57 ∨ k = 58 ∨ k = 59 ∨ k = 60 ∨ k = 61) ∨ k = 40 ∨ k = 42 ∨ k = 43 ∨ k = 45 ∨ k = 81 ∨ k = 82 ∨ k = 83
def agr (z : Zt) (G G' : Gt) : Prop := ∀ k j, ¬ fr z k j → G' k j = G k j
theorem agr_rfl {z : Zt} {G : Gt} : agr z G G := fun _ _ _ => rfl
theorem agr_gu {z : Zt} {G G' : Gt} {c i : Nat} {v : Int32} (hf : fr z c i) (h : agr z G G') : agr z G (gu G' c i v) := by
  intro k j hk
  rw [gu_at, if_neg (by rintro ⟨rfl, rfl⟩; exact hk hf)]
  exact h k j hk
theorem agr_tr {z : Zt} {G G' G'' : Gt} (h : agr z G G') (h' : agr z G' G'') : agr z G G'' := fun k j hk => (h' k j hk).trans (h k j hk)
theorem t_gen {N B : Nat} {z : Zt} {G G' : Gt} {x x' : Nat → Int32} {sp sp' fp fp' : Nat} (h : sIM N B z G x sp fp) (h6 : z 9 (z 0 7) = 6) (hcn : z 0 7 < z 0 0) (ha : agr z G G') (hsp : sp' ≤ sp) (hfp : fp' ≤ fp)
    (h120 : z 11 (z 0 7) = 0 ∨ G' 120 (z 0 7) = G 120 (z 0 7)) (hk14 : G' 84 14 = G' 46 51 ∧ bz (G' 46 51)) (hk19 : G' 84 19 = G' 46 62) (h54 : ∀ l, l < 6 → ¬ G 54 l = -1 → ¬ G' 54 l = -1)
    (hU' : qU N z G') (hS' : (∀ o, o < 4 → x' o = x o) ∨ qS z G' x') : sIM N B z G' x' sp' fp' ∧ eX N z G z G' := by
  obtain ⟨hP, hA, hB, hC, hD, hE, hF, hG, hH, hI, hJ, hK, hL, hM, hN, hO, hPg, hQ, hR, hS, hT, hU⟩ := h
  have hnm : z 0 0 ≤ z 0 8 := hQ.2.2.2.2.1
  have hf := fX_of hA hC hnm
  obtain ⟨gg1, gg2, gg3⟩ := id hG
  generalize hu : z 0 7 = u at *
  -- cells as a whole
  have gk : ∀ k, (∀ j, ¬ fr z k j) → G' k = G k := fun k hk => funext (fun j => ha k j (hk j))
  have g84 : ∀ j, ¬ j = 12 → ¬ (14 ≤ j ∧ j ≤ 19) → G' 84 j = G 84 j := fun j h1 h2 => ha _ _ (by unfold fr; omega)
  have g46 : ∀ j, ¬ (j = 12 ∨ j = 14 ∨ (41 ≤ j ∧ j ≤ 46) ∨ j = 51 ∨ (54 ≤ j ∧ j ≤ 57) ∨ j = 62) → G' 46 j = G 46 j := fun j h1 => ha _ _ (by unfold fr; omega)
  have gd : ∀ k j, (k = 116 ∨ k = 118 ∨ k = 120 ∨ k = 122 ∨ k = 124 ∨ k = 126 ∨ k = 128) → ¬ j = u → G' k j = G k j := fun k j h1 h2 => ha _ _ (by unfold fr; omega)
  have gr : ∀ k j, (k = 67 ∨ k = 68 ∨ k = 69) → ¬ j = z 6 u → G' k j = G k j := fun k j h1 h2 => ha _ _ (by unfold fr; rw [hu]; omega)
  have c1 := gk 1 (by intro j; unfold fr; omega)
  have c3 := gk 3 (by intro j; unfold fr; omega)
  have c5 := gk 5 (by intro j; unfold fr; omega)
  have c7 := gk 7 (by intro j; unfold fr; omega)
  have c9 := gk 9 (by intro j; unfold fr; omega)
  have c11 := gk 11 (by intro j; unfold fr; omega)
  have c13 := gk 13 (by intro j; unfold fr; omega)
  have c14 := gk 14 (by intro j; unfold fr; omega)
  have c16 := gk 16 (by intro j; unfold fr; omega)
  have c18 := gk 18 (by intro j; unfold fr; omega)
  have c47 := gk 47 (by intro j; unfold fr; omega)
  have c48 := gk 48 (by intro j; unfold fr; omega)
  have c49 := gk 49 (by intro j; unfold fr; omega)
  have c50 := gk 50 (by intro j; unfold fr; omega)
  have c51 := gk 51 (by intro j; unfold fr; omega)
  have c52 := gk 52 (by intro j; unfold fr; omega)
  have c64 := gk 64 (by intro j; unfold fr; omega)
  have c65 := gk 65 (by intro j; unfold fr; omega)
  have c66 := gk 66 (by intro j; unfold fr; omega)
  have c70 := gk 70 (by intro j; unfold fr; omega)
  have c71 := gk 71 (by intro j; unfold fr; omega)
  have c72 := gk 72 (by intro j; unfold fr; omega)
  have c73 := gk 73 (by intro j; unfold fr; omega)
  have c74 := gk 74 (by intro j; unfold fr; omega)
  have c75 := gk 75 (by intro j; unfold fr; omega)
  have c76 := gk 76 (by intro j; unfold fr; omega)
  have c77 := gk 77 (by intro j; unfold fr; omega)
  have c78 := gk 78 (by intro j; unfold fr; omega)
  have c79 := gk 79 (by intro j; unfold fr; omega)
  have c108 := gk 108 (by intro j; unfold fr; omega)
  have c110 := gk 110 (by intro j; unfold fr; omega)
  have c112 := gk 112 (by intro j; unfold fr; omega)
  have c114 := gk 114 (by intro j; unfold fr; omega)
  have c129 := gk 129 (by intro j; unfold fr; omega)
  have c131 := gk 131 (by intro j; unfold fr; omega)
  have c133 := gk 133 (by intro j; unfold fr; omega)
  have c134 := gk 134 (by intro j; unfold fr; omega)
  have c136 := gk 136 (by intro j; unfold fr; omega)
  have c138 := gk 138 (by intro j; unfold fr; omega)
  have c140 := gk 140 (by intro j; unfold fr; omega)
  have c142 := gk 142 (by intro j; unfold fr; omega)
  have c144 := gk 144 (by intro j; unfold fr; omega)
  have hX : eX N z G z G' := by
    refine ⟨⟨Nat.le_refl _, Nat.le_refl _, Nat.le_refl _, Nat.le_refl _, Nat.le_refl _⟩, fun i hi => ⟨rfl, rfl, rfl, rfl, rfl⟩, fun i hi _ => rfl, fun i hi h0 => ⟨h0, ?_⟩, fun i hi => rfl, fun i hi => ⟨by rw [c13], by rw [c47], by rw [c48], by rw [c49], by rw [c50]⟩, fun i hi => ?_, h54⟩
    · exact gd 120 i (by omega) (by intro e; subst e; omega)
    · exact ha _ _ (by unfold fr; omega)
  refine ⟨⟨?_, ?_, ?_, ?_, ?_, ?_, ?_, hG, ?_, hI, hJ, hK, ?_, ?_, ?_, ?_, ?_, ?_, ?_, ?_, ?_, hU'⟩, hX⟩
  · obtain ⟨p1, p2, p3, p4, p5, U, p6, p7, p8, p9⟩ := hP
    refine ⟨p1, by rw [c1]; exact p2, by rw [g46 0 (by omega)]; exact p3, by rw [c16]; exact p4, by rw [c52, c11]; exact p5, U, by rw [c14]; exact p6, p7, p8, fun m hm => ?_⟩
    exact nodeR_keep (p9 m hm) (Nat.le_refl _) (by rw [c3]) (by rw [c5]) (by rw [c7]) (by rw [c9]) (by rw [c11]) (by rw [c13]) (by rw [c47]) (by rw [c48]) (by rw [c49]) (by rw [c50]) (by rw [c51]) (by rw [c52]) (fun j hj => ⟨by rw [c16], by rw [c18]⟩) (Nat.le_refl _)
  · intro i hi; rw [c108]; exact hA i hi
  · intro i hi; rw [c112]; exact hB i hi
  · intro i hi; rw [c114]; exact hC i hi
  · intro i hi; rw [c110]; exact hD i hi
  · intro i hi; rw [c64, c65, c66]; exact hE i hi
  · intro i hi hb
    obtain ⟨f1, f2, f3, f4, f5⟩ := hF i hi hb
    have ne : ¬ z 6 i - 1 = z 6 u := by
      rcases Nat.lt_trichotomy i u with e | e | e
      · have := (gg1 i u e (by omega)).1; omega
      · subst e; omega
      · have := (gg1 u i e hi).2 hb; omega
    rw [c64, c65, gr 67 _ (by omega) ne, gr 68 _ (by omega) ne]
    exact ⟨f1, f2, f3, f4, f5⟩
  · intro j hj h1 h2
    have ne : ¬ j = u := by intro e; subst e; omega
    have nr : ¬ z 6 j = z 6 u := by
      rcases Nat.lt_trichotomy j u with e | e | e
      · have := (gg1 j u e (by omega)).1; omega
      · exact absurd e ne
      · have := (gg1 u j e (by omega)).1; omega
    exact dV_ext hX hf hj (by have := hQ.1; have := hQ.2.2.2.1; omega) rfl rfl rfl (gd _ _ (by omega) ne) (gd _ _ (by omega) ne) (gd _ _ (by omega) ne) (gd _ _ (by omega) ne) (gd _ _ (by omega) ne) (gd _ _ (by omega) ne) (gr _ _ (by omega) nr) (gr _ _ (by omega) nr) (gr _ _ (by omega) nr) (hH j hj h1 h2)
  · refine ⟨hL.1, ?_⟩
    obtain ⟨d, d1, d2, d3, d4, d5⟩ := hL.2
    exact ⟨d, d1, d2, by rw [g84 8 (by omega) (by omega)]; exact d3, by rw [g46 50 (by omega)]; exact d4, by rw [g84 13 (by omega) (by omega), g46 49 (by omega)]; exact d5⟩
  · refine ⟨?_, hM.2⟩
    intro i hi hdp
    obtain ⟨q1, q2⟩ := hM.1 i hi hdp
    refine ⟨q1, ?_⟩
    rw [c70]
    have e : G' 120 i = G 120 i := by
      by_cases e : i = u
      · subst e; exact h120.resolve_left hdp
      · exact gd 120 i (by omega) e
    rw [e]; exact q2
  · unfold qN; rw [c71, c72, c131, c133]; exact hN
  · unfold qO; rw [c136, c73, c74, c47]; exact hO
  · unfold qP; rw [c138, c75, c76, c77, c78, c79, c140, c142, c144, c47]; exact hPg
  · obtain ⟨b1, b2, b3, b4, b5, b6, b7, b8, b9, b10, b11, b12, b13, b14, b15, b16, b17, b18, b19, b20, b21, b22, b23, b24, b25⟩ := hQ
    refine ⟨b1, by rw [g84 9 (by omega) (by omega)]; exact b2, by rw [g46 59 (by omega)]; exact b3, b4, b5, b6, by rw [g84 10 (by omega) (by omega)]; exact b7, by rw [g46 58 (by omega)]; exact b8, by rw [g84 11 (by omega) (by omega)]; exact b9, by rw [g84 7 (by omega) (by omega)]; exact b10, by rw [g46 53 (by omega)]; exact b11, hk14.1, hk14.2, hk19, by rw [g46 63 (by omega)]; exact b15, by rw [g46 64 (by omega)]; exact b16, by rw [g46 21 (by omega)]; exact b17, by rw [g46 29 (by omega)]; exact b18, by rw [c129]; exact b19, by rw [c134]; exact b20, by rw [g46 32 (by omega)]; exact b21, by rw [c134]; exact b22, by rw [g46 35 (by omega)]; exact b23, by rw [g46 47 (by omega)]; exact b24, b25⟩
  · obtain ⟨r1, r2, r3, r4⟩ := hR
    exact ⟨by omega, r2, by omega, r4⟩
  · rcases hS' with hS' | hS'
    · obtain ⟨f', hf'⟩ := hS
      refine ⟨f', fun o ho => ?_⟩
      rw [hS' o ho]
      refine oK_ext (N := N) (z := z) (G := G) (z' := z) (G' := G') (Nat.le_refl _) hf.1 (fun _ _ => rfl) (fun _ _ => ⟨by rw [c47], by rw [c48]⟩) f' ?_ _ _ (hf' o ho)
      intro q q1 q2 q3 q4
      exact ⟨q2, gd _ _ (by omega) (by intro e; subst e; omega), rfl, rfl⟩
    · exact hS'
  · unfold qT; rw [c47]; exact hT
/-- the world stands as it stood -/
theorem qU_eq {N : Nat} {z : Zt} {G G' : Gt} (h : qU N z G) (e : ∀ k j, (k = 19 ∨ k = 20 ∨ k = 22 ∨ k = 24 ∨ k = 25 ∨ k = 27 ∨ k = 29 ∨ k = 31 ∨ k = 33 ∨ k = 35 ∨ k = 37 ∨ k = 39 ∨ (53 ≤ k ∧ k ≤ 61) ∨ (k = 46 ∧ (j = 12 ∨ j = 14))) → G' k j = G k j) : qU N z G' := by
  have gk : ∀ k, (k = 19 ∨ k = 20 ∨ k = 22 ∨ k = 24 ∨ k = 25 ∨ k = 27 ∨ k = 29 ∨ k = 31 ∨ k = 33 ∨ k = 35 ∨ k = 37 ∨ k = 39 ∨ (53 ≤ k ∧ k ≤ 61)) → G' k = G k := fun k hk => funext (fun j => e k j (by omega))
  unfold qU gT gS0 gS1 gRg at *
  simp only [Nat.reduceAdd] at *
  rw [gk 19 (by omega), gk 20 (by omega), gk 22 (by omega), gk 24 (by omega), gk 25 (by omega), gk 27 (by omega), gk 29 (by omega), gk 31 (by omega), gk 33 (by omega), gk 35 (by omega), gk 37 (by omega), gk 39 (by omega), gk 53 (by omega), gk 54 (by omega), gk 55 (by omega), gk 56 (by omega), gk 57 (by omega), gk 58 (by omega), gk 59 (by omega), gk 60 (by omega), gk 61 (by omega), e 46 12 (by omega), e 46 14 (by omega)]
  exact h
/-- cells that say nothing of the world either -/
def frw (z : Zt) (k j : Nat) : Prop :=
  ((k = 116 ∨ k = 118 ∨ k = 120 ∨ k = 122 ∨ k = 124 ∨ k = 126 ∨ k = 128) ∧ j = z 0 7) ∨ ((k = 67 ∨ k = 68 ∨ k = 69) ∧ j = z 6 (z 0 7)) ∨
  (k = 84 ∧ (j = 12 ∨ (14 ≤ j ∧ j ≤ 19))) ∨ (k = 46 ∧ ((41 ≤ j ∧ j ≤ 46) ∨ j = 51 ∨ (54 ≤ j ∧ j ≤ 57))) ∨ (k = 80 ∧ 6 * z 0 6 ≤ j)
def agw (z : Zt) (G G' : Gt) : Prop := ∀ k j, ¬ frw z k j → G' k j = G k j
theorem agw_rfl {z : Zt} {G : Gt} : agw z G G := fun _ _ _ => rfl
theorem agw_gu {z : Zt} {G G' : Gt} {c i : Nat} {v : Int32} (hf : frw z c i) (h : agw z G G') : agw z G (gu G' c i v) := by
  intro k j hk
  rw [gu_at, if_neg (by rintro ⟨rfl, rfl⟩; exact hk hf)]
  exact h k j hk
theorem agr_agw {z : Zt} {G G' : Gt} (h : agw z G G') : agr z G G' := by
  intro k j hk
  exact h k j (by unfold fr at hk; unfold frw; omega)
/-- nothing of the world is touched -/
theorem u_fr {N B : Nat} {z : Zt} {G G' : Gt} {x : Nat → Int32} {sp sp' fp fp' : Nat} (h : sIM N B z G x sp fp) (h6 : z 9 (z 0 7) = 6) (hcn : z 0 7 < z 0 0) (ha : agw z G G') (hsp : sp' ≤ sp) (hfp : fp' ≤ fp)
    (h120 : z 11 (z 0 7) = 0 ∨ G' 120 (z 0 7) = G 120 (z 0 7)) (hk14 : G' 84 14 = G' 46 51 ∧ bz (G' 46 51)) (hk19 : G' 84 19 = G' 46 62) : sIM N B z G' x sp' fp' ∧ eX N z G z G' := by
  refine t_gen h h6 hcn (agr_agw ha) hsp hfp h120 hk14 hk19 ?_ ?_ (Or.inl (fun _ _ => rfl))
  · intro l hl hh
    rw [ha 54 l (by unfold frw; omega)]; exact hh
  · refine qU_eq h.2.2.2.2.2.2.2.2.2.2.2.2.2.2.2.2.2.2.2.2.2 (fun k j hk => ha k j ?_)
    unfold frw; omega
/-- .. what the run comes to may be another -/
def frx (z : Zt) (k j : Nat) : Prop := frw z k j ∨ (k = 46 ∧ j = 62)
def agx (z : Zt) (G G' : Gt) : Prop := ∀ k j, ¬ frx z k j → G' k j = G k j
theorem agr_agx {z : Zt} {G G' : Gt} (h : agx z G G') : agr z G G' := by
  intro k j hk
  exact h k j (by unfold fr at hk; unfold frx frw; omega)
theorem u_frx {N B : Nat} {z : Zt} {G G' : Gt} {x : Nat → Int32} {sp sp' fp fp' : Nat} (h : sIM N B z G x sp fp) (h6 : z 9 (z 0 7) = 6) (hcn : z 0 7 < z 0 0) (ha : agx z G G') (hsp : sp' ≤ sp) (hfp : fp' ≤ fp)
    (h120 : z 11 (z 0 7) = 0 ∨ G' 120 (z 0 7) = G 120 (z 0 7)) (hk14 : G' 84 14 = G' 46 51 ∧ bz (G' 46 51)) (hk19 : G' 84 19 = G' 46 62) : sIM N B z G' x sp' fp' ∧ eX N z G z G' := by
  refine t_gen h h6 hcn (agr_agx ha) hsp hfp h120 hk14 hk19 ?_ ?_ (Or.inl (fun _ _ => rfl))
  · intro l hl hh
    rw [ha 54 l (by unfold frx frw; omega)]; exact hh
  · refine qU_eq h.2.2.2.2.2.2.2.2.2.2.2.2.2.2.2.2.2.2.2.2.2 (fun k j hk => ha k j ?_)
    unfold frx frw; omega
