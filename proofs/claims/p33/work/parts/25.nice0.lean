theorem int32_0 : (0 : Int32).toInt = 0 := rfl
/-- Row.at, Row.put: their small forms -/
theorem t_at {l : Launch} {sh : Sh} {a N r : Nat} (hR : isRow sh r a N) (hN : N < 2 ^ 31) (i : Int32) (G0 : Gt) : CT0 l yX6_at cX6_at 2 (some .int) 0 0 [.ref r, .int i] sh G0 (fun q G' => q = some (.int (rat G0 a N i)) ∧ G0 = G') := by
  refine (t_X6_at hR i G0 (fun v G' => v = rat G0 a N i ∧ G0 = G') ?_).mono ?_
  · unfold w_X6_at w_X6_at_j22 w_X6_at_j23
    refine ⟨fun h1 => ⟨by rw [rat, if_neg (fun z => le_not_lt z.1 h1)], rfl⟩, fun h1 => ⟨fun h2 => ⟨by rw [rat, if_neg (fun z => lt_not_le z.2 h2)], rfl⟩, fun h2 => ⟨vin_of h1 h2 hN, by rw [rat, if_pos ⟨not_lt_le h1, not_le_lt h2⟩], rfl⟩⟩⟩
  · rintro q G' ⟨v, rfl, rfl, rfl⟩
    exact ⟨rfl, rfl⟩
theorem t_put {l : Launch} {sh : Sh} {a N r : Nat} (hR : isRow sh r a N) (hN : N < 2 ^ 31) (i v : Int32) (G0 : Gt) : CT0 l yX6_put cX6_put 3 none 0 0 [.ref r, .int i, .int v] sh G0 (fun q G' => q = none ∧ G' = rput G0 a N i v) := by
  refine (t_X6_put hR i v G0 (fun G' => G' = rput G0 a N i v) ?_).mono ?_
  · unfold w_X6_put w_X6_put_j20
    refine ⟨fun h1 => ?_, fun h1 => ⟨fun h2 => ?_, fun h2 => ⟨vin_of h1 h2 hN, pt_iff.mpr ?_⟩⟩⟩
    · rw [rput, if_neg (fun z => le_not_lt z.1 h1)]
    · rw [rput, if_neg (fun z => lt_not_le z.2 h2)]
    · rw [rput, if_pos ⟨not_lt_le h1, not_le_lt h2⟩]
  · rintro q G' ⟨rfl, rfl⟩
    exact ⟨rfl, rfl⟩
