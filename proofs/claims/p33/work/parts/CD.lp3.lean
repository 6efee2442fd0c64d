/-! SOME STEPS of a run -/
theorem step_all {N B S F0 : Nat} (hS1 : 1 ≤ S) (hS : S ≤ 600) : ∀ (M : Nat) (z : Zt) (G : Gt), mu z ≤ M → wST N B z G → F0 ≤ z 0 0 → (z 0 0 = F0 ∨ (z 0 0 - F0 < S ∧ ¬ G 11 (z 1 (z 0 0)) = 1)) →
    ∃ zf Gf n, kq G Gf ∧ rvk G Gf ∧ zf 0 0 = z 0 0 + n ∧ zf 0 0 ≤ F0 + S ∧ (¬ z 0 0 = B → 1 ≤ n) ∧
      ((fST N B zf Gf ∧ ((chn n G Gf ∧ Gf 46 53 = 1) ∨ ∃ Gw, chn n G Gw ∧ Gw 46 53 = 0 ∧ zf 0 0 = B ∧ Gf 84 15 = 1 ∧ Gf 46 62 = 49993) ∧ (∀ (R : Gt) (K : Int32 → Gt → Prop) (c : Nat), c + mu z + 3 ≤ 900000 → w_X2_advance_j249 K (nI F0) (mxw Gf R) → ∃ n, w_X2_advance_h8 K n (nI S) 1 (nI F0) (nI c) (mxw G R))) ∨
       (wST N B zf Gf ∧ 1 ≤ n ∧ chn n G Gf ∧ (∀ (R : Gt) (K : Int32 → Gt → Prop) (c : Nat), c + mu z + 3 ≤ 900000 → K (nI (zf 0 0 - F0)) (mxw Gf R) → ∃ n, w_X2_advance_h8 K n (nI S) 1 (nI F0) (nI c) (mxw G R)))) := by
  intro M
  induction M with
  | zero =>
    intro z G hm h hF hp
    obtain ⟨a1, a2, a3, a4, a5, a6, a7, a8, a9, a10, _⟩ := w_cells h
    unfold mu at hm
    omega
  | succ M ih =>
    intro z G hm h hF hp
    obtain ⟨a1, a2, a3, a4, a5, a6, a7, a8, a9, a10, a11, a12, a13, a14⟩ := w_cells h
    have hmost : nI (z 0 0) - nI F0 < nI S := by
      rw [nI_sub hF]
      exact nI_ltx rfl (by rcases hp with q | q <;> omega) (by omega)
    have hgo : (1 : Int32) = 0 ∨ G 84 10 ≤ nI F0 ∨ ¬ G 11 (z 1 (z 0 0)) = 1 := by
      rcases hp with q | q
      · exact Or.inr (Or.inl (by rw [a4, q]; exact i_ler _))
      · exact Or.inr (Or.inr q.2)
    by_cases hB : z 0 0 = B
    · obtain ⟨Gf, p1, p2, p3, p4, p5, p6⟩ := w_stop h hB
      refine ⟨z, Gf, 0, p4, fun _ => Or.inr ⟨p1.1, p5⟩, rfl, by rcases hp with q | q <;> omega, fun q => absurd hB q, Or.inl ⟨p1, Or.inr ⟨G, fun _ _ => rfl, a14, hB, p5, p6⟩, fun R K c hc hk => ⟨2, ?_⟩⟩⟩
      refine w_turn h (by omega) hgo hmost (p2 R _ ?_)
      rw [nI_1]
      exact f_h8 p1.1 (by omega) hk
    · obtain ⟨z', G', t, p1, p2, p3, p4, p4r, p5, p6⟩ := w_step a10 h (by omega)
      obtain ⟨k1, k2⟩ := w_link h hB
      have cls : ∀ (R : Gt) (K : Int32 → Gt → Prop) (c n : Nat), c + mu z + 3 ≤ 900000 → w_X2_advance_h8 K n (nI S) 1 (nI F0) (nI (c + 1 + t)) (mxw G' R) → ∃ n, w_X2_advance_h8 K n (nI S) 1 (nI F0) (nI c) (mxw G R) := by
        intro R K c n hc hk
        refine ⟨n + t + 1, w_turn h (by omega) hgo hmost (lb_y h (by omega) ?_)⟩
        rw [nI_1]
        exact cT_h t _ _ p2 R K n (nI S) 1 (nI F0) (c + 1) (by omega) hk
      rcases p1 with p1 | p1
      · by_cases hst : S ≤ z 0 0 - F0 + 1 ∨ G' 11 (z' 1 (z' 0 0)) = 1
        · -- it stops here
          obtain ⟨b1, b2, b3, b4, b5, b6, b7, b8, b9, b10, b11, b12, b13, b14⟩ := w_cells p1
          refine ⟨z', G', 1, p4, p4r, p6, by rcases hp with q | q <;> omega, fun _ => Nat.le_refl _, Or.inr ⟨p1, Nat.le_refl _, ⟨k1, k2, G', p3, fun _ _ => rfl⟩, fun R K c hc hk => cls R K c 1 hc (w_hold p1 (by omega) ?_ (by rw [nI_sub (by omega)]; exact hk))⟩⟩
          rcases hst with q | q
          · left
            rw [nI_sub (by omega)]
            exact nI_nltx rfl (by omega) (by omega)
          · exact Or.inr ⟨by decide, nI_ge (by omega) (by omega), q⟩
        · -- it goes on
          have hp' : z' 0 0 = F0 ∨ (z' 0 0 - F0 < S ∧ ¬ G' 11 (z' 1 (z' 0 0)) = 1) := Or.inr ⟨by
            have : ¬ S ≤ z 0 0 - F0 + 1 := fun q => hst (Or.inl q)
            omega, fun q => hst (Or.inr q)⟩
          obtain ⟨zf, Gf, n, q1, q1r, q2, q2b, q2c, q3⟩ := ih z' G' (by omega) p1 (by omega) hp'
          refine ⟨zf, Gf, n + 1, kq_tr p4 q1, rvk_tr p4r (w_cells p1).1 q1r, by omega, q2b, fun _ => by omega, ?_⟩
          rcases q3 with ⟨q3, q4, q5⟩ | ⟨q3, q3n, q4, q5⟩
          · refine Or.inl ⟨q3, ?_, fun R K c hc hk => ?_⟩
            · rcases q4 with ⟨r1, r2⟩ | ⟨Gw, r1, r2⟩
              · exact Or.inl ⟨⟨k1, k2, G', p3, r1⟩, r2⟩
              · exact Or.inr ⟨Gw, ⟨k1, k2, G', p3, r1⟩, r2⟩
            · obtain ⟨n, hn⟩ := q5 R K (c + 1 + t) (by omega) hk
              exact cls R K c n hc hn
          · refine Or.inr ⟨q3, by omega, ⟨k1, k2, G', p3, q4⟩, fun R K c hc hk => ?_⟩
            obtain ⟨n, hn⟩ := q5 R K (c + 1 + t) (by omega) hk
            exact cls R K c n hc hn
      · -- the run ends
        refine ⟨z', G', 1, p4, p4r, p6, by rcases hp with q | q <;> omega, fun _ => Nat.le_refl _, Or.inl ⟨p1, Or.inl ⟨⟨k1, k2, G', p3, fun _ _ => rfl⟩, p1.2.1⟩, fun R K c hc hk => cls R K c 1 hc (f_h8 p1.1 (by omega) hk)⟩⟩
