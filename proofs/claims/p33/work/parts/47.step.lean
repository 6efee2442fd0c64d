set_option maxHeartbeats 4000000 in
set_option maxRecDepth 100000 in
theorem t_stepped_A {l : Launch} (G0 : Gt) : CT0 l yX10_steppedMachine cX10_steppedMachine 1 (some (.object "Macroloom$Machine")) 0 0 [.ref 0] shA G0 (fun q G' => q = some .null ∧ G0 = G') := by
  refine CT0_of (by decide) (Nat.le_of_ble_eq_true rfl) rfl ?_
  intro p e s m args below meth c D tA ad A C hr _
  show aw p l e { frames := 0, cells := 0, slots := 0, locals := 0 } s m args below meth c 1 D tA A (MQ below (QC0 D tA ad A shA (fun q G' => q = some .null ∧ G0 = G')) args s 0 0 A) 0 0 ad 0 [some (.ref 0)] [] shA G0
  refine aw_aloadn C dX10_steppedMachine_0 rfl ?_
  refine aw_getN C dX10_steppedMachine_1 kcX10 shA_0 5 (by decide) rfl mF_X10_225 ?_
  refine aw_ifnullN C 24 dX10_steppedMachine_4 (by decide) ?_
  refine aw_null C dX10_steppedMachine_24 ?_
  exact aw_areturn C hr dX10_steppedMachine_25 (Or.inl rfl) ⟨rfl, rfl⟩
set_option maxHeartbeats 4000000 in
set_option maxRecDepth 100000 in
theorem t_stepped_B {l : Launch} (G0 : Gt) : CT0 l yX10_steppedMachine cX10_steppedMachine 1 (some (.object "Macroloom$Machine")) 0 0 [.ref 0] shB G0 (fun q G' => q = some (if G0 84 7 = 0 then .null else .ref 84) ∧ G0 = G') := by
  refine CT0_of (by decide) (Nat.le_of_ble_eq_true rfl) rfl ?_
  intro p e s m args below meth c D tA ad A C hr _
  show aw p l e { frames := 0, cells := 0, slots := 0, locals := 0 } s m args below meth c 1 D tA A (MQ below (QC0 D tA ad A shB (fun q G' => q = some (if G0 84 7 = 0 then .null else .ref 84) ∧ G0 = G')) args s 0 0 A) 0 0 ad 0 [some (.ref 0)] [] shB G0
  refine aw_aloadn C dX10_steppedMachine_0 rfl ?_
  refine aw_getR (r := 84) C dX10_steppedMachine_1 kcX10 shB_0 5 (by decide) rfl mF_X10_225 ?_
  refine aw_ifnull C dX10_steppedMachine_4 ?_
  refine aw_aloadn C dX10_steppedMachine_7 rfl ?_
  refine aw_getR (r := 84) C dX10_steppedMachine_8 kcX10 shB_0 5 (by decide) rfl mF_X10_225 ?_
  refine aw_getI C dX10_steppedMachine_11 kcX2 shB_84 7 (by decide) rfl mF_X10_229 ?_
  refine aw_if_eq (X := True) (Y := True) C dX10_steppedMachine_14 24 (by decide) ⟨fun _ => trivial, fun _ => trivial⟩ (fun hx _ => ?_) (fun hx _ => ?_)
  · refine aw_null C dX10_steppedMachine_24 ?_
    exact aw_areturn C hr dX10_steppedMachine_25 (Or.inl rfl) ⟨by rw [if_pos hx], rfl⟩
  · refine aw_aloadn C dX10_steppedMachine_17 rfl ?_
    refine aw_getR (r := 84) C dX10_steppedMachine_18 kcX10 shB_0 5 (by decide) rfl mF_X10_225 ?_
    refine aw_goto (tgt := 25) C dX10_steppedMachine_21 (by decide) ?_
    exact aw_areturn C hr dX10_steppedMachine_25 (Or.inr ⟨_, rfl⟩) ⟨by rw [if_neg hx], rfl⟩
