/-! WHAT WAITS STAYS, whatever else is called meanwhile -/
def frz (N k j : Nat) : Prop := k = 83 ∨ k = 0 ∨ (k = 46 ∧ (j = 0 ∨ j = 13 ∨ j = 52 ∨ j = 71)) ∨ k = 1 ∨ k = 3 ∨ k = 5 ∨ k = 7 ∨ k = 9 ∨ k = 11 ∨ k = 14 ∨ k = 16 ∨ k = 18 ∨ k = 51 ∨ k = 52 ∨ ((k = 13 ∨ k = 47 ∨ k = 48 ∨ k = 49 ∨ k = 50) ∧ N ≤ j)
theorem wST_cg {N N' B : Nat} {z : Zt} {G G' : Gt} (h : wST N B z G) (hN : N ≤ N') (hP' : gP N' G' G') (e : ∀ k j, ¬ frz N k j → G' k j = G k j) : wST N' B z G' := by
  obtain ⟨⟨hP, hA, hB, hC, hD, hE, hF, hG, hH, hI, hJ, hK, hL, hM, hNN, hO, hPg, hQ, hR, hS, hT, hU⟩, hm, hcur, h7, h12, h116, h118, h124, hnx, hna1, hna2, hns, hend, hRH, hFr, hDP, h15⟩ := h
  have hf := fX_of hA hC (by omega)
  have w : ∀ k, ¬ (k = 83 ∨ k = 0 ∨ k = 46 ∨ k = 1 ∨ k = 3 ∨ k = 5 ∨ k = 7 ∨ k = 9 ∨ k = 11 ∨ k = 14 ∨ k = 16 ∨ k = 18 ∨ k = 51 ∨ k = 52 ∨ k = 13 ∨ k = 47 ∨ k = 48 ∨ k = 49 ∨ k = 50) → ∀ j, G' k j = G k j := fun k hk j => e k j (by unfold frz; omega)
  have n4 : ∀ k, (k = 13 ∨ k = 47 ∨ k = 48 ∨ k = 49 ∨ k = 50) → ∀ j, j < N → G' k j = G k j := fun k hk j hj => e k j (by unfold frz; omega)
  have r46 : ∀ j, ¬ (j = 0 ∨ j = 13 ∨ j = 52 ∨ j = 71) → G' 46 j = G 46 j := fun j hj => e 46 j (by unfold frz; omega)
  have hX : eX N z G z G' := ⟨⟨Nat.le_refl _, Nat.le_refl _, Nat.le_refl _, Nat.le_refl _, Nat.le_refl _⟩, fun _ _ => ⟨rfl, rfl, rfl, rfl, rfl⟩, fun _ _ _ => rfl, fun i _ h0 => ⟨h0, w 120 (by omega) i⟩, fun _ _ => rfl, fun m hm => ⟨n4 13 (by omega) m hm, n4 47 (by omega) m hm, n4 48 (by omega) m hm, n4 49 (by omega) m hm, n4 50 (by omega) m hm⟩, fun j _ => w 80 (by omega) j, fun l _ q => by rw [w 54 (by omega) l]; exact q⟩
  have z1 : ∀ i, i < z 0 8 → z 1 i < N := fun i hi => (hA i hi).2
  refine ⟨⟨hP', ?_, ?_, ?_, ?_, ?_, ?_, hG, ?_, hI, hJ, hK, ?_, ?_, ?_, ?_, ?_, ?_, hR, ?_, ?_, ?_⟩, hm, hcur, h7, ?_, ?_, ?_, ?_, ?_, ?_, ?_, ?_, ?_, hRH, hFr, hDP, ?_⟩
  · exact fun i hi => ⟨(w 108 (by omega) i).trans (hA i hi).1, by have := (hA i hi).2; omega⟩
  · exact fun i hi => ⟨(w 112 (by omega) i).trans (hB i hi).1, (hB i hi).2⟩
  · intro i hi
    rw [w 114 (by omega) i]; exact hC i hi
  · intro i hi
    rw [w 110 (by omega) i]; exact hD i hi
  · intro i hi
    rw [w 64 (by omega), w 66 (by omega), w 65 (by omega)]; exact hE i hi
  · intro i hi hb
    rw [w 64 (by omega), w 67 (by omega), w 65 (by omega), w 68 (by omega)]; exact hF i hi hb
  · intro i hi h1 h5
    exact dV_ext hX hf hi (by have := hQ.1; have := hQ.2.2.2.1; omega) rfl rfl rfl (w 116 (by omega) i) (w 118 (by omega) i) (w 122 (by omega) i) (w 124 (by omega) i) (w 126 (by omega) i) (w 128 (by omega) i) (w 67 (by omega) _) (w 68 (by omega) _) (w 69 (by omega) _) (hH i hi h1 h5)
  · refine ⟨hL.1, ?_⟩
    rw [w 84 (by omega) 8, w 84 (by omega) 13, r46 50 (by omega), r46 49 (by omega)]; exact hL.2
  · refine ⟨fun i hi h11 => ?_, hM.2⟩
    rw [w 120 (by omega), w 70 (by omega)]; exact hM.1 i hi h11
  · refine ⟨hNN.1, fun s hs => ?_⟩
    obtain ⟨a1, a2, a3, a4⟩ := hNN.2 s hs
    refine ⟨a1, a2, ?_, fun k hk => ?_⟩
    · rw [w 71 (by omega), w 131 (by omega)]; exact a3
    · rw [w 72 (by omega), w 133 (by omega)]; exact a4 k hk
  · intro j hj
    obtain ⟨a1, a2, a3, a4, a5⟩ := hO j hj
    refine ⟨a1, ?_, ?_, ?_, ?_⟩
    · rw [w 136 (by omega)]; exact a2
    · rw [w 73 (by omega)]; exact a3
    · rw [w 74 (by omega)]; exact a4
    · rw [n4 47 (by omega) _ (z1 _ (by omega))]; exact a5
  · intro j hj
    obtain ⟨a1, a2, a3, a4, a5, a6, a7, a8, a9, a10⟩ := hPg j hj
    refine ⟨a1, ?_, ?_, ?_, ?_, a6, ?_, ?_, fun q => ?_, fun q => ?_⟩
    · rw [w 138 (by omega)]; exact a2
    · rw [w 75 (by omega)]; exact a3
    · rw [w 76 (by omega)]; exact a4
    · rw [n4 47 (by omega) _ (z1 _ (by omega))]; exact a5
    · rw [w 140 (by omega)]; exact a7
    · rw [w 77 (by omega)]; exact a8
    · obtain ⟨b1, b2, b3, b4, b5, b6⟩ := a9 q
      refine ⟨b1, b2, b3, ?_, ?_, fun y => ?_⟩
      · rw [w 142 (by omega)]; exact b4
      · rw [w 79 (by omega)]; exact b5
      · obtain ⟨c1, c2⟩ := b6 y
        refine ⟨c1, ?_⟩
        rw [n4 47 (by omega) _ (z1 _ (by omega))]; exact c2
    · rw [w 144 (by omega), w 78 (by omega)]; exact a10 q
  · obtain ⟨Q1, Q2, Q3, Q4, Q5, Q6, Q7, Q8, Q9, Q10, Q11, Q12, Q13, Q14, Q15, Q16, Q17, Q18, Q19, Q20, Q21, Q22, Q23, Q24, Q25⟩ := hQ
    refine ⟨Q1, ?_, ?_, Q4, Q5, Q6, ?_, ?_, ?_, ?_, ?_, ?_, ?_, ?_, ?_, ?_, ?_, ?_, ?_, ?_, ?_, ?_, ?_, ?_, Q25⟩
    · rw [w 84 (by omega)]; exact Q2
    · rw [r46 _ (by omega)]; exact Q3
    · rw [w 84 (by omega)]; exact Q7
    · rw [r46 _ (by omega)]; exact Q8
    · rw [w 84 (by omega)]; exact Q9
    · rw [w 84 (by omega)]; exact Q10
    · rw [r46 _ (by omega)]; exact Q11
    · rw [w 84 (by omega), r46 _ (by omega)]; exact Q12
    · rw [r46 _ (by omega)]; exact Q13
    · rw [w 84 (by omega), r46 _ (by omega)]; exact Q14
    · rw [r46 _ (by omega)]; exact Q15
    · rw [r46 _ (by omega)]; exact Q16
    · rw [r46 _ (by omega)]; exact Q17
    · rw [r46 _ (by omega)]; exact Q18
    · rw [w 129 (by omega)]; exact Q19
    · rw [w 134 (by omega)]; exact Q20
    · rw [r46 _ (by omega)]; exact Q21
    · rw [w 134 (by omega)]; exact Q22
    · rw [r46 _ (by omega)]; exact Q23
    · rw [r46 _ (by omega)]; exact Q24
  · obtain ⟨f, hf'⟩ := hS
    refine ⟨f, fun o ho => ?_⟩
    rw [w 31 (by omega)]
    exact oK_ext (N := N) (z := z) (G := G) (G' := G') (z' := z) (Nat.le_refl _) hf.1 (fun _ _ => rfl) (fun m hm => ⟨n4 47 (by omega) m hm, n4 48 (by omega) m hm⟩) f (fun q _ q2 _ _ => ⟨q2, w 122 (by omega) q, rfl, rfl⟩) _ _ (hf' o ho)
  · refine ⟨fun j hj hl => ?_, fun j hj h2 h26 => ?_⟩
    · obtain ⟨t1, t2⟩ := hT.1 j hj hl
      refine ⟨fun q => ?_, t2⟩
      have h3 := ((hC j hj).2.1 q).1
      rw [n4 47 (by omega) _ (z1 _ (by omega))]; exact t1 q
    · rw [n4 47 (by omega) _ (z1 _ (by omega))] at h26
      exact hT.2 j hj h2 h26
  · obtain ⟨u1, u2, u3, u4, u5, u6⟩ := hU
    refine ⟨gT_eqK (b := 0) u1 (fun k j q => w k (by unfold tK at q; omega) j), gT_eqK (b := 1) u2 (fun k j q => w k (by unfold tK at q; omega) j), ⟨fun s hs => ?_, ?_, ?_, ?_⟩, fun s hs => ?_, fun k hk => ?_, fun k hk => ?_⟩
    · rw [w 35 (by omega), w 54 (by omega)]
      obtain ⟨a, b⟩ := u3.1 s hs
      refine ⟨a, ?_⟩
      rcases b with b | ⟨j, hj, b⟩
      · exact Or.inl b
      · exact Or.inr ⟨j, by omega, b⟩
    · rw [w 19 (by omega), r46 14 (by omega)]; exact u3.2.1
    · rw [w 19 (by omega), r46 12 (by omega)]; exact u3.2.2.1
    · rw [r46 12 (by omega)]; exact u3.2.2.2
    · rw [w 37 (by omega), w 53 (by omega), w 39 (by omega), w 55 (by omega)]
      obtain ⟨a, b, c, d⟩ := u4 s hs
      refine ⟨a, b, c, ?_⟩
      rcases d with d | ⟨j, hj, d⟩
      · exact Or.inl d
      · exact Or.inr ⟨j, by omega, d⟩
    · rw [w 33 (by omega), w 57 (by omega)]; exact u5 k hk
    · rw [w 31 (by omega), w 56 (by omega)]; exact u6 k hk
  · rw [w 84 (by omega)]; exact h12
  · rw [w 116 (by omega), n4 13 (by omega) _ (z1 _ (by omega))]; exact h116
  · rw [w 118 (by omega)]; exact h118
  · rw [w 124 (by omega)]; exact h124
  · rw [r46 _ (by omega)]; exact hnx
  · rw [r46 _ (by omega)]; exact hna1
  · rw [r46 _ (by omega)]; exact hna2
  · rw [r46 _ (by omega)]; exact hns
  · rw [r46 _ (by omega)]; exact hend
  · rw [w 84 (by omega)]; exact h15
