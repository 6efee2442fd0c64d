def gM (G : Gt) : Gt := gu (g_X2 84 85 (gz G 84 0)) 0 5 1
def shA2 : Sh := shA ++ [.inr (2, [some none, some none, some none, some none, some none, some none, some none, none, none, none, none, none, none, none, none, none, none, none, none, none])]
theorem len_shA : shA.length = 84 := by decide +kernel
theorem len_shA2 : shA2.length = 85 := by decide +kernel
set_option maxHeartbeats 4000000 in
set_option maxRecDepth 100000 in
theorem t_X10_readyMachine_A {l : Launch} (G0 : Gt) : CN l yX10_readyMachine cX10_readyMachine 1 (some (.object "Macroloom$Machine")) 5 160 61 20705 [.ref 0] shA shB G0 (fun q G' => q = some (.ref 84) ∧ G' = gM G0) := by
  refine CN_of (by decide) (Nat.le_of_ble_eq_true rfl) rfl ?_
  intro p e s m args below meth c D tA ad A C hr _
  show aw p l e { frames := 5, cells := 61, slots := 20705, locals := 160 } s m args below meth c 1 D tA A (MQ below (QN D tA ad A shA shB (fun q G' => q = some (.ref 84) ∧ G' = gM G0)) args s 61 20705 A) 0 0 ad 0 [some (.ref 0)] [] shA G0
  refine aw_aloadn C dX10_readyMachine_0 rfl ?_
  refine aw_getN C dX10_readyMachine_1 kcX10 shA_0 5 (by decide) rfl mF_X10_225 ?_
  refine aw_ifnonnullN C dX10_readyMachine_4 ?_
  refine aw_aloadn C dX10_readyMachine_7 rfl ?_
  refine aw_newN (fs := [some none, some none, some none, some none, some none, some none, some none, none, none, none, none, none, none, none, none, none, none, none, none, none]) (fs0 := [.null, .null, .null, .null, .null, .null, .null, .int 0, .int 0, .int 0, .int 0, .int 0, .int 0, .int 0, .int 0, .int 0, .int 0, .int 0, .int 0, .int 0]) C dX10_readyMachine_8 kcX2 mC_X10_148 mN_X2 mI_X2 (by decide +kernel) rfl (by decide) wf_shA ⟨by decide, trivial⟩ ⟨by decide, trivial⟩ (Nat.le_of_ble_eq_true rfl) (Nat.le_of_ble_eq_true rfl) (fun ad1 hE1 hw1 => ?_)
  rw [len_shA] at hE1 ⊢
  change wfL shA2 at hw1
  show aw p l e { frames := 5, cells := 61, slots := 20705, locals := 160 } s m args below meth c 1 D tA A (MQ below (QN D tA ad A shA shB (fun q G' => q = some (.ref 84) ∧ G' = gM G0)) args s 61 20705 A) 1 20 ad1 11 [some (.ref 0)] [.ref 84, .ref 0] shA2 (gz G0 84 0)
  refine aw_dup C dX10_readyMachine_11 rfl ?_
  refine aw_aloadn C dX10_readyMachine_12 rfl ?_
  refine aw_getR (r := 1) C dX10_readyMachine_13 kcX10 (sh := shA2) rfl 0 (by decide) rfl mF_X10_12 ?_
  refine aw_aloadn C dX10_readyMachine_16 rfl ?_
  refine aw_getR (r := 19) C dX10_readyMachine_17 kcX10 (sh := shA2) rfl 1 (by decide) rfl mF_X10_19 ?_
  refine aw_aloadn C dX10_readyMachine_20 rfl ?_
  refine aw_getR (r := 43) C dX10_readyMachine_21 kcX10 (sh := shA2) rfl 3 (by decide) rfl mF_X10_30 ?_
  refine aw_callI C dX10_readyMachine_24 (t_X2_init (sh := shA2) (b := 84) (L := 85) (qr := 40) rfl len_shA2 hw1 (by decide) (by decide) (by decide) (by decide) _) mM_X10_233 bX2_init rfl ⟨Nat.le_of_ble_eq_true rfl, Nat.le_of_ble_eq_true rfl, Nat.le_of_ble_eq_true rfl, Nat.le_of_ble_eq_true rfl⟩ [.ref 84, .ref 0] rfl (Nat.le_of_ble_eq_true rfl) ⟨by decide, trivial⟩ ⟨by decide, by decide, trivial⟩ rfl (fun r24 ad2 G24x hE2 hq => ?_)
  obtain ⟨rfl, rfl⟩ := hq
  rw [len_shA2] at hE2
  refine aw_putRN (r := 84) (q := 84) C dX10_readyMachine_27 kcX10 (fs := [some (some (1, 1)), some (some (19, 19)), some (some (40, 40)), some (some (43, 43)), none, some none]) rfl 5 (by decide) (by decide) mF_X10_225 (Or.inl rfl) ⟨rfl, rfl⟩ (wfL_B (by decide +kernel)) (by decide) (by decide) (fun hw3 => ?_)
  refine aw_sh (sh1 := shB) rfl ?_
  refine aw_aloadn C dX10_readyMachine_30 rfl ?_
  refine aw_getR (r := 84) C dX10_readyMachine_31 kcX10 shB_0 5 (by decide) rfl mF_X10_225 ?_
  exact aw_nareturn C hr dX10_readyMachine_34 (fun j hj => (hE2 j (by rw [len_shA] at hj; omega)).trans (hE1 j (by rw [len_shA] at hj; exact hj))) ⟨rfl, rfl⟩
