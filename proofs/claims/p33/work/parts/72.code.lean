def em (G : Gt) (q : Int32 × Int32) : Gt := gu (rput (rput G 16 1081 (G 14 2) q.1) 18 1081 (G 14 2) q.2) 14 2 (G 14 2 + 1)
theorem rput_oo {G : Gt} {a N k j : Nat} {i v : Int32} (h : k ≠ a) : rput G a N i v k j = G k j := by
  unfold rput; split
  · exact gu_oo _ h
  · rfl
theorem s0_emit {K : Gt → Prop} {x y : Int32} {G : Gt} (h : K (em G (x, y))) : w_X0_emit K x y G := by
  refine pt_of (pt_of (pt_of ?_))
  simp only [rput_oo (show (14 : Nat) ≠ 16 by decide), rput_oo (show (14 : Nat) ≠ 18 by decide)]
  exact h
def emL (L : List (Int32 × Int32)) (G : Gt) : Gt := L.foldl em G
/-- the instructions of a node that begin at e -/
def codeOf (k a b c e : Int32) : List (Int32 × Int32) :=
  if k = 2 then [(41, b), (k, a), (40, -1)] else
  if k = 3 then [(41, b), (k, a), (40, -1)] else
  if k = 14 then [(41, b), (k, a), (40, -1)] else
  if k = 18 then (if b = -1 then [(18, 0 * 6 + a), (57, -1), (58, -1), (40, -1)] else if c = -1 then [(41, b), (18, 1 * 6 + a), (57, -1), (58, -1), (40, -1)] else [(41, b), (44, -1), (41, c), (18, 2 * 6 + a), (57, -1), (58, -1), (40, -1)]) else
  if k = 19 then [(41, a), (k, -1), (40, -1)] else
  if k = 22 then [(41, a), (k, -1), (40, -1)] else
  if k = 24 then [(41, a), (24, -1), (0, 0), (40, -1)] else
  if k = 25 then [(41, a), (k, -1), (40, -1)] else
  if k = 28 then [(41, b), (k, a), (40, -1)] else
  if k = 29 then [(41, a), (29, e + 5), (57, -1), (58, -1), (59, -1), (60, -1), (40, -1)] else
  if k = 31 then [(41, a), (k, -1), (40, -1)] else
  if k = 35 then [(41, a), (k, -1), (40, -1)] else
  if k = 37 then [(41, a), (k, -1), (40, -1)] else
  if k = 38 then [(0, b), (38, a), (40, -1)] else
  if k = 4 then [(41, a), (44, -1), (41, b), (k, -1), (40, -1)] else
  if k = 5 then [(41, a), (44, -1), (41, b), (k, -1), (40, -1)] else
  if k = 6 then [(41, a), (44, -1), (41, b), (k, -1), (40, -1)] else
  if k = 7 then [(41, a), (44, -1), (41, b), (k, -1), (40, -1)] else
  if k = 8 then [(41, a), (44, -1), (41, b), (k, -1), (40, -1)] else
  if k = 9 then [(41, a), (44, -1), (41, b), (k, -1), (40, -1)] else
  if k = 10 then [(41, a), (46, e + 4), (41, b), (40, -1), (41, c), (40, -1)] else
  if k = 11 then [(41, a), (41, b), (40, -1)] else
  if k = 12 then [(42, a), (40, -1)] else
  if k = 13 then [(47, e + 3), (42, b), (45, e), (49, e), (40, -1)] else
  if k = 17 then [(41, a), (44, -1), (41, b), (k, -1), (40, -1)] else
  if k = 20 then [(47, e + 3), (41, b), (40, -1), (48, a), (43, c), (40, -1)] else
  if k = 21 then [(47, e + 2), (41, a), (50, -1), (47, e + 7), (41, b), (51, -1), (40, -1), (52, -1), (40, -1)] else
  if k = 26 then [(41, b), (47, e + 4), (26, a), (41, c), (53, a), (40, -1)] else
  if k = 36 then [(47, e + 6), (36, -1), (54, e + 5), (41, a), (45, e + 2), (55, -1), (56, -1), (40, -1)] else
  [(k, a), (40, -1)]
set_option maxHeartbeats 4000000 in
theorem s0_translate {K : Int32 → Gt → Prop} {k a b c : Int32} {G : Gt} (h : K (G 14 2) (emL (codeOf k a b c (G 14 2)) G)) : w_X0_translate K k a b c G := by
  unfold w_X0_translate w_X0_translate_j168 w_X0_translate_j184 w_X0_translate_j267 w_X0_translate_j258
  unfold codeOf at h
  refine ⟨fun h0 => ?_, fun h0 => ?_⟩
  · rw [if_pos h0] at h
    exact (s0_emit (s0_emit (s0_emit h)))
  rw [if_neg h0] at h
  refine ⟨fun h1 => ?_, fun h1 => ?_⟩
  · rw [if_pos h1] at h
    exact (s0_emit (s0_emit (s0_emit h)))
  rw [if_neg h1] at h
  refine ⟨fun h2 => ?_, fun h2 => ?_⟩
  · rw [if_pos h2] at h
    exact (s0_emit (s0_emit (s0_emit h)))
  rw [if_neg h2] at h
  refine ⟨fun h3 => ?_, fun h3 => ?_⟩
  · rw [if_pos h3] at h
    unfold w_X0_translateCall w_X0_translateCall_j19 w_X0_translateCall_j33 w_X0_translateCall_j53
    refine ⟨fun e1 => ?_, fun e1 => ?_⟩
    · rw [if_pos e1] at h
      exact pif_p (by decide) (pif_p (by decide) (s0_emit (s0_emit (s0_emit (s0_emit h)))))
    · rw [if_neg e1] at h
      refine ⟨fun e2 => ?_, fun e2 => ?_⟩
      · rw [if_pos e2] at h
        exact pif_n (by decide) (s0_emit (pif_p (by decide) (s0_emit (s0_emit (s0_emit (s0_emit h))))))
      · rw [if_neg e2] at h
        exact pif_n (by decide) (s0_emit (pif_n (by decide) (s0_emit (s0_emit (s0_emit (s0_emit (s0_emit (s0_emit h))))))))
  rw [if_neg h3] at h
  refine ⟨fun h4 => ?_, fun h4 => ?_⟩
  · rw [if_pos h4] at h
    exact (s0_emit (s0_emit (s0_emit h)))
  rw [if_neg h4] at h
  refine ⟨fun h5 => ?_, fun h5 => ?_⟩
  · rw [if_pos h5] at h
    exact (s0_emit (s0_emit (s0_emit h)))
  rw [if_neg h5] at h
  refine ⟨fun h6 => ?_, fun h6 => ?_⟩
  · rw [if_pos h6] at h
    exact (s0_emit (s0_emit (s0_emit (s0_emit h))))
  rw [if_neg h6] at h
  refine ⟨fun h7 => ?_, fun h7 => ?_⟩
  · rw [if_pos h7] at h
    exact (s0_emit (s0_emit (s0_emit h)))
  rw [if_neg h7] at h
  refine ⟨fun h8 => ?_, fun h8 => ?_⟩
  · rw [if_pos h8] at h
    exact (s0_emit (s0_emit (s0_emit h)))
  rw [if_neg h8] at h
  refine ⟨fun h9 => ?_, fun h9 => ?_⟩
  · rw [if_pos h9] at h
    unfold w_X0_translateInsert
    exact (s0_emit (s0_emit (s0_emit (s0_emit (s0_emit (s0_emit (s0_emit h)))))))
  rw [if_neg h9] at h
  refine ⟨fun h10 => ?_, fun h10 => ?_⟩
  · rw [if_pos h10] at h
    exact (s0_emit (s0_emit (s0_emit h)))
  rw [if_neg h10] at h
  refine ⟨fun h11 => ?_, fun h11 => ?_⟩
  · rw [if_pos h11] at h
    exact (s0_emit (s0_emit (s0_emit h)))
  rw [if_neg h11] at h
  refine ⟨fun h12 => ?_, fun h12 => ?_⟩
  · rw [if_pos h12] at h
    exact (s0_emit (s0_emit (s0_emit h)))
  rw [if_neg h12] at h
  refine ⟨fun h13 => ?_, fun h13 => ?_⟩
  · rw [if_pos h13] at h
    exact (s0_emit (s0_emit (s0_emit h)))
  rw [if_neg h13] at h
  unfold w_X0_translateParts w_X0_translateParts_j148 w_X0_translateParts_j263 w_X0_translateParts_j269 w_X0_translateIf w_X0_translateLoop w_X0_translateTry w_X0_translateFinally w_X0_translateOption w_X0_translateEach
  refine ⟨fun h14 => ?_, fun h14 => ?_⟩
  · rw [if_pos h14] at h
    exact (s0_emit (s0_emit (s0_emit (s0_emit (s0_emit h)))))
  rw [if_neg h14] at h
  refine ⟨fun h15 => ?_, fun h15 => ?_⟩
  · rw [if_pos h15] at h
    exact (s0_emit (s0_emit (s0_emit (s0_emit (s0_emit h)))))
  rw [if_neg h15] at h
  refine ⟨fun h16 => ?_, fun h16 => ?_⟩
  · rw [if_pos h16] at h
    exact (s0_emit (s0_emit (s0_emit (s0_emit (s0_emit h)))))
  rw [if_neg h16] at h
  refine ⟨fun h17 => ?_, fun h17 => ?_⟩
  · rw [if_pos h17] at h
    exact (s0_emit (s0_emit (s0_emit (s0_emit (s0_emit h)))))
  rw [if_neg h17] at h
  refine ⟨fun h18 => ?_, fun h18 => ?_⟩
  · rw [if_pos h18] at h
    exact (s0_emit (s0_emit (s0_emit (s0_emit (s0_emit h)))))
  rw [if_neg h18] at h
  refine ⟨fun h19 => ?_, fun h19 => ?_⟩
  · rw [if_pos h19] at h
    exact (s0_emit (s0_emit (s0_emit (s0_emit (s0_emit h)))))
  rw [if_neg h19] at h
  refine ⟨fun h20 => ?_, fun h20 => ?_⟩
  · rw [if_pos h20] at h
    exact (s0_emit (s0_emit (s0_emit (s0_emit (s0_emit (s0_emit h))))))
  rw [if_neg h20] at h
  refine ⟨fun h21 => ?_, fun h21 => ?_⟩
  · rw [if_pos h21] at h
    exact (s0_emit (s0_emit (s0_emit h)))
  rw [if_neg h21] at h
  refine ⟨fun h22 => ?_, fun h22 => ?_⟩
  · rw [if_pos h22] at h
    exact (s0_emit (s0_emit h))
  rw [if_neg h22] at h
  refine ⟨fun h23 => ?_, fun h23 => ?_⟩
  · rw [if_pos h23] at h
    exact (s0_emit (s0_emit (s0_emit (s0_emit (s0_emit h)))))
  rw [if_neg h23] at h
  refine ⟨fun h24 => ?_, fun h24 => ?_⟩
  · rw [if_pos h24] at h
    exact (s0_emit (s0_emit (s0_emit (s0_emit (s0_emit h)))))
  rw [if_neg h24] at h
  refine ⟨fun h25 => ?_, fun h25 => ?_⟩
  · rw [if_pos h25] at h
    exact (s0_emit (s0_emit (s0_emit (s0_emit (s0_emit (s0_emit h))))))
  rw [if_neg h25] at h
  refine ⟨fun h26 => ?_, fun h26 => ?_⟩
  · rw [if_pos h26] at h
    exact (s0_emit (s0_emit (s0_emit (s0_emit (s0_emit (s0_emit (s0_emit (s0_emit (s0_emit h)))))))))
  rw [if_neg h26] at h
  refine ⟨fun h27 => ?_, fun h27 => ?_⟩
  · rw [if_pos h27] at h
    exact (s0_emit (s0_emit (s0_emit (s0_emit (s0_emit (s0_emit h))))))
  rw [if_neg h27] at h
  refine ⟨fun h28 => ?_, fun h28 => ?_⟩
  · rw [if_pos h28] at h
    exact (s0_emit (s0_emit (s0_emit (s0_emit (s0_emit (s0_emit (s0_emit (s0_emit h))))))))
  rw [if_neg h28] at h
  exact (s0_emit (s0_emit h))
theorem s4_add {K : Int32 → Gt → Prop} {k a b c : Int32} {G : Gt}
    (h : ∀ G3 G6 : Gt, G3 = rput (rput (rput G 3 120 (G 1 7) k) 5 120 (G 1 7) a) 7 120 (G 1 7) b → G6 = rput G3 9 120 (G 1 7) (szA G3 k a b c) → K (G 1 7) (gu (rput (emL (codeOf k a b c (G6 14 2)) G6) 13 120 (G 1 7) (G6 14 2)) 1 7 (G 1 7 + 1))) : w_X4_add K k a b c G := by
  unfold w_X4_add
  exact pt_of (pt_of (pt_of (s4_sizeWith (pt_of (s0_translate (pt_of (pt_of (h _ _ rfl rfl))))))))
