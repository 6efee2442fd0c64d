theorem oK_ext {N : Nat} {z z' : Zt} {G G' : Gt} {o : Nat} (h1 : z 0 0 ≤ z' 0 0) (hN : ∀ i, i < z 0 0 → z 1 i < N) (h2 : ∀ i, i < z 0 0 → z' 1 i = z 1 i) (h6 : ∀ m, m < N → G' 47 m = G 47 m ∧ G' 48 m = G 48 m) :
    ∀ (f : Nat), (∀ q, q < z 0 0 → z 9 q = 2 → G 47 (z 1 q) = 26 → z 24 q ≤ f → z' 9 q = 2 ∧ G' 122 q = G 122 q ∧ io z' q = io z q ∧ z' 24 q = z 24 q) → ∀ (x : Int32) (p : Nat), oK z G o f x p → oK z' G' o f x p := by
  intro f
  induction f with
  | zero => intro _ x p h; exact h
  | succ f ih =>
    rintro hq x p ⟨a1, a2, a3, a4, a5, a6⟩
    obtain ⟨b1, b2, b3, b4⟩ := hq (p - 1) a2 a3 a4 (by omega)
    refine ⟨a1, by omega, b1, by rw [h2 _ a2, (h6 _ (hN _ a2)).1]; exact a4, by rw [b4]; exact a5, ?_⟩
    rw [h2 _ a2, (h6 _ (hN _ a2)).2, b2, b3]
    exact ih (fun q q1 q2 q3 q4 => hq q q1 q2 q3 (by omega)) _ _ a6
theorem fX_of {N : Nat} {z : Zt} {G : Gt} (hA : qA N z G) (hC : qC z G) (hnm : z 0 0 ≤ z 0 8) : fX N z := ⟨fun i hi => (hA i (by omega)).2, fun i hi e => ((hC i (by omega)).2.1 e).1, fun i hi => (hC i (by omega)).2.2.2.2.1⟩
/-- a part has ended: the frame above goes on -/
def zUp (z : Zt) : Zt := zu (zu (zu (zu z 9 (z 0 7) 0) 21 (z 0 7) 0) 9 (z 3 (z 0 7)) 6) 0 7 (z 3 (z 0 7))
/-- what an OPTION that goes on gives back -/
def oVw (z : Zt) (G : Gt) (u : Nat) (x : Nat → Int32) : Nat → Int32 := fun o => if G 47 (z 1 u) = 26 ∧ z 9 u = 2 ∧ G 48 (z 1 u) = nI o then G 122 u else x o
theorem t_up {N B : Nat} {z : Zt} {G : Gt} {x : Nat → Int32} {sp fp : Nat} (h : sIM N B z G x sp fp) (hm : z 0 8 = z 0 0) (hb : z 2 (z 0 7) = 0) (h6 : z 9 (z 0 7) = 6) :
    sIM N B (zUp z) (gu G 84 11 (nI (z 3 (z 0 7)))) (oVw z G (z 3 (z 0 7)) x) sp fp ∧ z 0 7 < z 0 0 ∧ z 3 (z 0 7) < z 0 7 ∧ (z 9 (z 3 (z 0 7)) = 1 ∨ z 9 (z 3 (z 0 7)) = 2) ∧ dV z G (z 3 (z 0 7)) ∧ z 11 (z 3 (z 0 7)) = 0 ∧ z 8 (z 0 7) = z 8 (z 3 (z 0 7)) ∧ sm ((zUp z) 21) (z 0 0) + 1 = sm (z 21) (z 0 0) ∧
    (∀ j, (zUp z) 9 j = if j = z 3 (z 0 7) then 6 else if j = z 0 7 then 0 else z 9 j) ∧ eX N z G (zUp z) (gu G 84 11 (nI (z 3 (z 0 7)))) := by
  obtain ⟨hP, hA, hB, hC, hD, hE, hF, hG, hH, hI, hJ, hK, hL, hM, hN, hO, hPg, hQ, hR, hS, hT, hU⟩ := h
  obtain ⟨k1, k2, k3, k4, k5⟩ := id hK
  generalize hi : z 0 7 = i at *
  generalize hu : z 3 i = u at *
  have hlt : i < z 0 0 := by omega
  have hC1 := hC i (by omega)
  have hui : u < i := by have := (hC1.2.1 hb).1; omega
  have hrt : z 8 i = z 8 u := by have := (hC1.2.1 hb).2; rw [hu] at this; exact this
  have hIi := (hI i (by omega) (by omega)).1 hb
  rw [hu] at hIi
  obtain ⟨hpu, hch⟩ := hIi
  have p9 : ∀ j, (zUp z) 9 j = if j = u then 6 else if j = i then 0 else z 9 j := by
    intro j; simp only [zUp, zu, hi, hu]; simp
  have p21 : ∀ j, (zUp z) 21 j = if j = i then 0 else z 21 j := by
    intro j; simp only [zUp, zu, hi, hu]; simp
  have pc : (zUp z) 0 7 = u := by simp [zUp, zu, hi, hu]
  have hf := fX_of hA hC (by omega)
  have hX : eX N z G (zUp z) (gu G 84 11 (nI u)) := by
    refine ⟨⟨Nat.le_refl _, Nat.le_refl _, Nat.le_refl _, Nat.le_refl _, Nat.le_refl _⟩, fun _ _ => ⟨rfl, rfl, rfl, rfl, rfl⟩, fun _ _ _ => rfl, fun j hj h0 => ⟨?_, rfl⟩, fun _ _ => rfl, fun _ _ => ⟨rfl, rfl, rfl, rfl, rfl⟩, fun _ _ => rfl, fun _ _ h => h⟩
    rw [p9, if_neg (by intro e; subst e; omega)]
    split
    · rfl
    · exact h0
  -- who lives, and is not the one that goes on, is not above the one that has ended
  have hpar : ∀ j, j < z 0 8 → ¬ z 9 j = 0 → ¬ j = i → z 2 j = 0 → ¬ z 3 j = u ∧ ¬ z 3 j = i := by
    intro j hj hl hji hbj
    obtain ⟨q1, q2⟩ := (hI j hj hl).1 hbj
    refine ⟨fun e => ?_, fun e => ?_⟩
    · rw [e, hch] at q2; exact hji q2.symm
    · rw [e] at q1; omega
  have hL1 : z 21 i = 1 := (hR.2.2.2 i (by omega)).1 (by omega)
  refine ⟨⟨hP, hA, hB, hC, hD, hE, hF, hG, ?_, ?_, ?_, ?_, ?_, ?_, hN, hO, ?_, ?_, ?_, ?_, ?_, hU⟩, by omega, hui, hpu, hH u (by omega) (by omega) (by omega), ?_, hrt, ?_, p9, hX⟩
  · intro j hj h1 h2
    rw [p9] at h1 h2
    by_cases e : j = u
    · rw [if_pos e] at h2; omega
    · rw [if_neg e] at h1 h2
      by_cases e2 : j = i
      · rw [if_pos e2] at h1; omega
      · rw [if_neg e2] at h1 h2
        exact dV_ext hX hf hj (by have := hQ.1; have := hQ.2.2.2.1; omega) (by rw [p9, if_neg e, if_neg e2]) rfl rfl rfl rfl rfl rfl rfl rfl rfl rfl rfl (hH j hj h1 h2)
  · intro j hj hl
    rw [p9] at hl
    have hji : ¬ j = i := by
      intro e
      rw [if_neg (by omega), if_pos e] at hl; exact hl rfl
    have hl0 : ¬ z 9 j = 0 := by
      intro e
      by_cases e2 : j = u
      · subst e2; omega
      · rw [if_neg e2, if_neg hji] at hl; exact hl e
    obtain ⟨q1, q2, q3⟩ := hI j hj hl0
    refine ⟨fun e => ?_, fun e1 e2 e3 => ?_, q3⟩
    · obtain ⟨n1, n2⟩ := hpar j hj hl0 hji e
      show ((zUp z) 9 (z 3 j) = 1 ∨ (zUp z) 9 (z 3 j) = 2) ∧ _
      rw [p9, if_neg n1, if_neg n2]
      exact q1 e
    · have q := q2 e1 e2 e3
      show (zUp z) 9 (z 4 j - 1) = (if z 2 j = 2 then 3 else 4) ∧ _
      have n1 : ¬ z 4 j - 1 = u := by
        intro e; rw [e] at q
        have := q.1
        split at this <;> omega
      have n2 : ¬ z 4 j - 1 = i := by
        intro e; rw [e] at q
        have := q.1
        split at this <;> omega
      rw [p9, if_neg n1, if_neg n2]
      exact q
  · intro v hv h12
    rw [p9] at h12
    have n1 : ¬ v = u := by intro e; rw [if_pos e] at h12; omega
    rw [if_neg n1] at h12
    have n2 : ¬ v = i := by intro e; rw [if_pos e] at h12; omega
    rw [if_neg n2] at h12
    obtain ⟨q1, q2, q3, q4, q5⟩ := hJ v hv h12
    refine ⟨q1, q2, ?_, q4, q5⟩
    show ¬ (zUp z) 9 (z 10 v) = 0
    rw [p9]
    split
    · omega
    · rw [if_neg]
      · exact q3
      · intro e
        rw [e, hu] at q5; exact n1 q5.symm
  · refine ⟨?_, ?_, ?_, ?_, ?_⟩
    · intro a b ha hb' h1 h2 hr
      rw [p9] at h1 h2
      have na : ¬ a = i := by intro e; rw [if_neg (by omega), if_pos e] at h1; omega
      have nb : ¬ b = i := by intro e; rw [if_neg (by omega), if_pos e] at h2; omega
      rw [if_neg na] at h1
      rw [if_neg nb] at h2
      by_cases ea : a = u
      · by_cases eb : b = u
        · omega
        · rw [if_neg eb] at h2
          exact absurd (k1 b i hb' (by omega) h2 (by omega) (by subst ea; exact (hr.symm.trans hrt.symm))) nb
      · rw [if_neg ea] at h1
        by_cases eb : b = u
        · exact absurd (k1 a i ha (by omega) h1 (by omega) (by subst eb; exact (hr.trans hrt.symm))) na
        · rw [if_neg eb] at h2
          exact k1 a b ha hb' h1 h2 hr
    · intro a ha
      rw [p9]
      split
      · omega
      · split
        · omega
        · exact k2 a ha
    · intro a ha h1
      rw [p9] at h1
      rw [pc]
      by_cases ea : a = u
      · exact ea
      · rw [if_neg ea] at h1
        by_cases eb : a = i
        · rw [if_pos eb] at h1; omega
        · rw [if_neg eb] at h1; exact absurd (k3 a ha h1) eb
    · rw [pc]; show u < z 0 8; omega
    · rw [pc, p9, if_pos rfl]; omega
  · refine ⟨?_, ?_⟩
    · intro j hj hl
      rw [p9] at hl
      refine hL.1 j hj ?_
      intro e
      by_cases e1 : j = u
      · subst e1; omega
      · rw [if_neg e1] at hl
        by_cases e2 : j = i
        · rw [if_pos e2] at hl; exact hl rfl
        · rw [if_neg e2] at hl; exact hl e
    · obtain ⟨d, d1, d2, d3⟩ := hL.2
      refine ⟨d, d1, ?_, d3⟩
      rw [pc]
      show z 12 (z 8 u) = d
      rw [← hrt]
      rw [hi] at d2
      exact d2
  · refine ⟨hM.1, ?_⟩
    intro j hj h1 h2
    rw [p9] at h1 h2
    by_cases e1 : j = u
    · rw [if_pos e1] at h2; omega
    · rw [if_neg e1] at h1 h2
      by_cases e2 : j = i
      · rw [if_pos e2] at h1; omega
      · rw [if_neg e2] at h1 h2
        exact hM.2 j hj h1 h2
  · intro j hj
    obtain ⟨q1, q2, q3, q4, q5, q6, q7, q8, q9, q10⟩ := hPg j hj
    refine ⟨q1, q2, q3, q4, q5, q6, q7, q8, ?_, ?_⟩
    · intro e
      obtain ⟨w1, w2, w3, w4, w5⟩ := q9 e
      refine ⟨w1, w2, ?_, w4, w5⟩
      show ¬ (zUp z) 9 (z 17 j) = 0
      rw [p9]
      split
      · omega
      · rw [if_neg]
        · exact w3
        · intro e; rw [e] at w2; omega
    · intro e
      obtain ⟨w1, w2, w3⟩ := q10 e
      refine ⟨w1, ?_, w3⟩
      show (zUp z) 9 (z 18 j) = 5
      rw [p9, if_neg (by intro e; rw [e] at w2; omega), if_neg (by intro e; rw [e] at w2; omega)]
      exact w2
  · obtain ⟨b1, b2, b3, b4, b5, b6, b7, b8, b9, b10⟩ := hQ
    refine ⟨b1, b2, b3, b4, b5, b6, b7, b8, ?_, b10⟩
    rw [pc]; rfl
  · obtain ⟨r1, r2, r3, r4⟩ := hR
    refine ⟨r1, r2, r3, ?_⟩
    intro j hj
    rw [p9, p21]
    have := r4 j hj
    by_cases e1 : j = u
    · rw [if_pos e1, if_neg (by omega)]
      exact ⟨fun _ => this.1 (by subst e1; omega), this.2⟩
    · rw [if_neg e1]
      by_cases e2 : j = i
      · rw [if_pos e2]; exact ⟨fun z => absurd rfl z, by rw [if_pos e2]; omega⟩
      · rw [if_neg e2, if_neg e2]; exact this
  · obtain ⟨f, hf'⟩ := hS
    have hTi := (hT.1 i (by omega) (by omega)).1 hb
    rw [hu] at hTi
    have hio : ∀ q, io (zUp z) q = io z q := fun q => rfl
    rw [hi] at hf'
    by_cases ho : G 47 (z 1 u) = 26 ∧ z 9 u = 2
    · rw [if_pos ho] at hTi
      have hp : io z i = u + 1 := by unfold io; rw [hTi]; simp
      cases f with
      | zero =>
        have := (hf' 0 (by omega)).1
        rw [hp] at this; omega
      | succ f =>
        refine ⟨f, ?_⟩
        intro o ho4
        obtain ⟨a1, a2, a3, a4, a5, a6⟩ := hf' o ho4
        rw [hp] at a5 a6
        simp only [Nat.add_sub_cancel] at a5 a6
        rw [pc, hio]
        refine oK_ext (N := N) (z := z) (G := G) (z' := zUp z) (G' := gu G 84 11 (nI u)) (Nat.le_refl _) hf.1 (fun _ _ => rfl) (fun _ _ => ⟨rfl, rfl⟩) f ?_ _ _ ?_
        · intro q q1 q2 q3 q4
          refine ⟨?_, rfl, rfl, rfl⟩
          have n1 : ¬ q = u := by intro e; rw [e] at q4; omega
          have n2 : ¬ q = i := by intro e; rw [e] at q2; omega
          rw [p9, if_neg n1, if_neg n2]; exact q2
        · have e : oVw z G u x o = (if G 48 (z 1 u) = nI o then G 122 u else x o) := by
            unfold oVw
            by_cases e : G 48 (z 1 u) = nI o
            · rw [if_pos e, if_pos ⟨ho.1, ho.2, e⟩]
            · rw [if_neg e, if_neg (fun z => e z.2.2)]
          rw [e]; exact a6
    · rw [if_neg ho] at hTi
      have hp : io z i = io z u := by unfold io; rw [hTi, hrt]
      refine ⟨f, ?_⟩
      intro o ho4
      have a := hf' o ho4
      rw [hp] at a
      rw [pc, hio]
      have e : oVw z G u x o = x o := by
        unfold oVw
        rw [if_neg (fun z => ho ⟨z.1, z.2.1⟩)]
      rw [e]
      refine oK_ext (N := N) (z := z) (G := G) (z' := zUp z) (G' := gu G 84 11 (nI u)) (Nat.le_refl _) hf.1 (fun _ _ => rfl) (fun _ _ => ⟨rfl, rfl⟩) f ?_ _ _ a
      intro q q1 q2 q3 q4
      refine ⟨?_, rfl, rfl, rfl⟩
      have n1 : ¬ q = u := by intro e; rw [e] at q2 q3; exact ho ⟨q3, q2⟩
      have n2 : ¬ q = i := by intro e; rw [e] at q2; omega
      rw [p9, if_neg n1, if_neg n2]; exact q2
  · refine ⟨?_, ?_⟩
    · intro j hj hl
      rw [p9] at hl
      have hji : ¬ j = i := by
        intro e
        rw [if_neg (by omega), if_pos e] at hl; exact hl rfl
      have hl0 : ¬ z 9 j = 0 := by
        intro e
        by_cases e2 : j = u
        · subst e2; omega
        · rw [if_neg e2, if_neg hji] at hl; exact hl e
      obtain ⟨t1, t2⟩ := hT.1 j hj hl0
      refine ⟨fun e => ?_, t2⟩
      obtain ⟨n1, n2⟩ := hpar j hj hl0 hji e
      show z 22 j = if G 47 (z 1 (z 3 j)) = 26 ∧ (zUp z) 9 (z 3 j) = 2 then z 3 j + 1 else z 22 (z 3 j)
      rw [p9, if_neg n1, if_neg n2]
      exact t1 e
    · intro j hj h2 h3
      rw [p9] at h2
      refine hT.2 j hj ?_ h3
      by_cases e1 : j = u
      · rw [if_pos e1] at h2; omega
      · rw [if_neg e1] at h2
        by_cases e2 : j = i
        · rw [if_pos e2] at h2; omega
        · rw [if_neg e2] at h2; exact h2
  · rcases hpu with e | e
    · exact hM.2 u (by omega) (by omega) (by omega)
    · exact hM.2 u (by omega) (by omega) (by omega)
  · have := sm_up (f := (zUp z) 21) (g := z 21) (j := i) (n := z 0 0) hlt (fun a _ ha => by rw [p21, if_neg ha])
    rw [p21, if_pos rfl, hL1] at this
    omega
