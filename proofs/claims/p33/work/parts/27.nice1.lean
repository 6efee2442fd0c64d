theorem t_isBelow {l : Launch} {sh : Sh} (x b : Int32) (G0 : Gt) : CT0 l yX10_isBelow cX10_isBelow 2 (some .boolean) 0 0 [.int x, .int b] sh G0 (fun q G' => q = some (.int (ibl x b)) ∧ G0 = G') := by
  refine (t_X10_isBelow x b G0 (fun v G' => v = ibl x b ∧ G0 = G') ?_).mono ?_
  · unfold w_X10_isBelow
    simp only [pif_iff, w_X10_isBelow_j13, w_X10_isBelow_j14, bz]
    by_cases h1 : x < 0
    · simp [h1, ibl, le_not_lt, lt_not_le h1]
    · by_cases h2 : b ≤ x
      · simp [h1, h2, ibl, le_not_lt h2]
      · simp [h1, h2, ibl, not_lt_le h1, not_le_lt h2]
  · rintro q G' ⟨v, rfl, rfl, rfl⟩
    exact ⟨rfl, rfl⟩
theorem t_isNumber {l : Launch} {sh : Sh} (x : Int32) (G0 : Gt) : CT0 l yX10_isNumber cX10_isNumber 1 (some .boolean) 0 0 [.int x] sh G0 (fun q G' => q = some (.int (inm x)) ∧ G0 = G') := by
  refine (t_X10_isNumber x G0 (fun v G' => v = inm x ∧ G0 = G') ?_).mono ?_
  · unfold w_X10_isNumber
    simp only [pif_iff, w_X10_isNumber_j18, w_X10_isNumber_j19, bz]
    by_cases h1 : x < -9999
    · simp [h1, inm, lt_not_le h1]
    · by_cases h2 : 9999 < x
      · simp [h1, h2, inm, lt_not_le h2]
      · simp [h1, h2, inm, not_lt_le h1, not_lt_le h2]
  · rintro q G' ⟨v, rfl, rfl, rfl⟩
    exact ⟨rfl, rfl⟩
theorem t_isAmount {l : Launch} {sh : Sh} (x : Int32) (G0 : Gt) : CT0 l yX10_isAmount cX10_isAmount 1 (some .boolean) 0 0 [.int x] sh G0 (fun q G' => q = some (.int (iam x)) ∧ G0 = G') := by
  refine (t_X10_isAmount x G0 (fun v G' => v = iam x ∧ G0 = G') ?_).mono ?_
  · unfold w_X10_isAmount
    simp only [pif_iff, w_X10_isAmount_j16, w_X10_isAmount_j17, bz]
    by_cases h1 : x < 1
    · simp [h1, iam, lt_not_le h1]
    · by_cases h2 : 600 < x
      · simp [h1, h2, iam, lt_not_le h2]
      · simp [h1, h2, iam, not_lt_le h1, not_lt_le h2]
  · rintro q G' ⟨v, rfl, rfl, rfl⟩
    exact ⟨rfl, rfl⟩
