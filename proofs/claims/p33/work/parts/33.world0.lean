def w_X8_become (t : Nat) (t0 : Nat) (K : Gt → Prop) (G0 : Gt) : Prop :=
  pt (rcp G0 (t + 2) (t0 + 2) 40) fun G1 =>
  pt (rcp G1 (t + 4) (t0 + 4) 4) fun G2 =>
  pt (gu G2 t 2 (G2 t0 2)) fun G3 =>
  pt (gu G3 t 3 (G3 t0 3)) fun G4 =>
  K G4
set_option maxHeartbeats 4000000 in
set_option maxRecDepth 100000 in
theorem t_X8_become {l : Launch} {sh : Sh} {t : Nat} {t0 : Nat} (hT : isText sh t) (hT0 : isText sh t0) (G0 : Gt) (K : Gt → Prop) (hw : w_X8_become t t0 K G0) : CT0 l yX8_become cX8_become 2 none 2 61 [.ref t, .ref t0] sh G0 (fun r G' => r = none ∧ K G') := by
  refine CT0_of (by decide) (Nat.le_of_ble_eq_true rfl) rfl ?_
  intro p e s m args below meth c D tA ad A C hr _
  unfold w_X8_become at hw
  show aw p l e { frames := 2, cells := 0, slots := 0, locals := 61 } s m args below meth c 2 D tA A (MQ below (QC0 D tA ad A sh (fun r G' => r = none ∧ K G')) args s 0 0 A) 0 0 ad 0 [some (.ref t), some (.ref t0)] [] sh G0
  refine aw_aloadn C dX8_become_0 rfl ?_
  refine aw_getR (r := (t + 1)) C dX8_become_1 kcX8 hT.1 0 (by decide) rfl mF_X8_14 ?_
  refine aw_aloadn C dX8_become_4 rfl ?_
  refine aw_getR (r := (t0 + 1)) C dX8_become_5 kcX8 hT0.1 0 (by decide) rfl mF_X8_14 ?_
  refine aw_callV C dX8_become_8 (t_become hT.2.1 hT0.2.1 (Nat.le_of_ble_eq_true rfl) _) mM_X8_26 bX6_become hT.2.1.1 rfl rfl ⟨Nat.le_of_ble_eq_true rfl, Nat.le_of_ble_eq_true rfl, Nat.zero_le _, Nat.zero_le _⟩ _ rfl (Nat.le_of_ble_eq_true rfl) (fun r8 G1 hq => ?_)
  obtain ⟨rfl, hq⟩ := hq
  replace hw := pt_eq hw hq
  refine aw_aloadn C dX8_become_11 rfl ?_
  refine aw_getR (r := (t + 3)) C dX8_become_12 kcX8 hT.1 1 (by decide) rfl mF_X8_20 ?_
  refine aw_aloadn C dX8_become_15 rfl ?_
  refine aw_getR (r := (t0 + 3)) C dX8_become_16 kcX8 hT0.1 1 (by decide) rfl mF_X8_20 ?_
  refine aw_callV C dX8_become_19 (t_become hT.2.2 hT0.2.2 (Nat.le_of_ble_eq_true rfl) _) mM_X8_26 bX6_become hT.2.2.1 rfl rfl ⟨Nat.le_of_ble_eq_true rfl, Nat.le_of_ble_eq_true rfl, Nat.zero_le _, Nat.zero_le _⟩ _ rfl (Nat.le_of_ble_eq_true rfl) (fun r19 G2 hq => ?_)
  obtain ⟨rfl, hq⟩ := hq
  replace hw := pt_eq hw hq
  refine aw_aloadn C dX8_become_22 rfl ?_
  refine aw_aloadn C dX8_become_23 rfl ?_
  refine aw_getI C dX8_become_24 kcX8 hT0.1 2 (by decide) rfl mF_X8_30 ?_
  refine aw_putI C dX8_become_27 kcX8 hT.1 2 (by decide) rfl mF_X8_30 rfl rfl rfl hw (fun G3 hw => ?_)
  refine aw_aloadn C dX8_become_30 rfl ?_
  refine aw_aloadn C dX8_become_31 rfl ?_
  refine aw_getI C dX8_become_32 kcX8 hT0.1 3 (by decide) rfl mF_X8_34 ?_
  refine aw_putI C dX8_become_35 kcX8 hT.1 3 (by decide) rfl mF_X8_34 rfl rfl rfl hw (fun G4 hw => ?_)
  exact aw_return C hr dX8_become_38 ⟨rfl, hw⟩
def w_X9_becomeButRegisters (w : Nat) (w0 : Nat) (K : Gt → Prop) (G0 : Gt) : Prop :=
  w_X8_become (w + 1) (w0 + 1) (fun G1 =>
    w_X8_become (w + 6) (w0 + 6) (fun G2 =>
      pt (rcp G2 (w + 12) (w0 + 12) 4) fun G3 =>
      pt (rcp G3 (w + 16) (w0 + 16) 6) fun G4 =>
      pt (gu G4 w 7 (G4 w0 7)) fun G5 =>
      pt (gu G5 w 8 (G5 w0 8)) fun G6 =>
      K G6) G1) G0
set_option maxHeartbeats 4000000 in
set_option maxRecDepth 100000 in
theorem t_X9_becomeButRegisters {l : Launch} {sh : Sh} {w : Nat} {w0 : Nat} (hWd : isWorld sh w) (hW0 : isWorld sh w0) (G0 : Gt) (K : Gt → Prop) (hw : w_X9_becomeButRegisters w w0 K G0) : CT0 l yX9_becomeButRegisters cX9_becomeButRegisters 2 none 3 82 [.ref w, .ref w0] sh G0 (fun r G' => r = none ∧ K G') := by
  refine CT0_of (by decide) (Nat.le_of_ble_eq_true rfl) rfl ?_
  intro p e s m args below meth c D tA ad A C hr _
  unfold w_X9_becomeButRegisters at hw
  show aw p l e { frames := 3, cells := 0, slots := 0, locals := 82 } s m args below meth c 2 D tA A (MQ below (QC0 D tA ad A sh (fun r G' => r = none ∧ K G')) args s 0 0 A) 0 0 ad 0 [some (.ref w), some (.ref w0)] [] sh G0
  refine aw_aloadn C dX9_becomeButRegisters_0 rfl ?_
  refine aw_getR (r := (w + 1)) C dX9_becomeButRegisters_1 kcX9 hWd.1 0 (by decide) rfl mF_X9_12 ?_
  refine aw_aloadn C dX9_becomeButRegisters_4 rfl ?_
  refine aw_getR (r := (w0 + 1)) C dX9_becomeButRegisters_5 kcX9 hW0.1 0 (by decide) rfl mF_X9_12 ?_
  refine aw_callV C dX9_becomeButRegisters_8 (t_X8_become hWd.2.1 hW0.2.1 _ _ hw) mM_X9_54 bX8_become hWd.2.1.1 rfl rfl ⟨Nat.le_of_ble_eq_true rfl, Nat.le_of_ble_eq_true rfl, Nat.zero_le _, Nat.zero_le _⟩ _ rfl (Nat.le_of_ble_eq_true rfl) (fun r8 G1 hq => ?_)
  obtain ⟨rfl, hw⟩ := hq
  refine aw_aloadn C dX9_becomeButRegisters_11 rfl ?_
  refine aw_getR (r := (w + 6)) C dX9_becomeButRegisters_12 kcX9 hWd.1 1 (by decide) rfl mF_X9_18 ?_
  refine aw_aloadn C dX9_becomeButRegisters_15 rfl ?_
  refine aw_getR (r := (w0 + 6)) C dX9_becomeButRegisters_16 kcX9 hW0.1 1 (by decide) rfl mF_X9_18 ?_
  refine aw_callV C dX9_becomeButRegisters_19 (t_X8_become hWd.2.2.1 hW0.2.2.1 _ _ hw) mM_X9_54 bX8_become hWd.2.2.1.1 rfl rfl ⟨Nat.le_of_ble_eq_true rfl, Nat.le_of_ble_eq_true rfl, Nat.zero_le _, Nat.zero_le _⟩ _ rfl (Nat.le_of_ble_eq_true rfl) (fun r19 G2 hq => ?_)
  obtain ⟨rfl, hw⟩ := hq
  refine aw_aloadn C dX9_becomeButRegisters_22 rfl ?_
  refine aw_getR (r := (w + 11)) C dX9_becomeButRegisters_23 kcX9 hWd.1 2 (by decide) rfl mF_X9_26 ?_
  refine aw_aloadn C dX9_becomeButRegisters_26 rfl ?_
  refine aw_getR (r := (w0 + 11)) C dX9_becomeButRegisters_27 kcX9 hW0.1 2 (by decide) rfl mF_X9_26 ?_
  refine aw_callV C dX9_becomeButRegisters_30 (t_become hWd.2.2.2.1 hW0.2.2.2.1 (Nat.le_of_ble_eq_true rfl) _) mM_X9_50 bX6_become hWd.2.2.2.1.1 rfl rfl ⟨Nat.le_of_ble_eq_true rfl, Nat.le_of_ble_eq_true rfl, Nat.zero_le _, Nat.zero_le _⟩ _ rfl (Nat.le_of_ble_eq_true rfl) (fun r30 G3 hq => ?_)
  obtain ⟨rfl, hq⟩ := hq
  replace hw := pt_eq hw hq
  refine aw_aloadn C dX9_becomeButRegisters_33 rfl ?_
  refine aw_getR (r := (w + 15)) C dX9_becomeButRegisters_34 kcX9 hWd.1 4 (by decide) rfl mF_X9_33 ?_
  refine aw_aloadn C dX9_becomeButRegisters_37 rfl ?_
  refine aw_getR (r := (w0 + 15)) C dX9_becomeButRegisters_38 kcX9 hW0.1 4 (by decide) rfl mF_X9_33 ?_
  refine aw_callV C dX9_becomeButRegisters_41 (t_become hWd.2.2.2.2.2.1 hW0.2.2.2.2.2.1 (Nat.le_of_ble_eq_true rfl) _) mM_X9_50 bX6_become hWd.2.2.2.2.2.1.1 rfl rfl ⟨Nat.le_of_ble_eq_true rfl, Nat.le_of_ble_eq_true rfl, Nat.zero_le _, Nat.zero_le _⟩ _ rfl (Nat.le_of_ble_eq_true rfl) (fun r41 G4 hq => ?_)
  obtain ⟨rfl, hq⟩ := hq
  replace hw := pt_eq hw hq
  refine aw_aloadn C dX9_becomeButRegisters_44 rfl ?_
  refine aw_aloadn C dX9_becomeButRegisters_45 rfl ?_
  refine aw_getI C dX9_becomeButRegisters_46 kcX9 hW0.1 7 (by decide) rfl mF_X9_57 ?_
  refine aw_putI C dX9_becomeButRegisters_49 kcX9 hWd.1 7 (by decide) rfl mF_X9_57 rfl rfl rfl hw (fun G5 hw => ?_)
  refine aw_aloadn C dX9_becomeButRegisters_52 rfl ?_
  refine aw_aloadn C dX9_becomeButRegisters_53 rfl ?_
  refine aw_getI C dX9_becomeButRegisters_54 kcX9 hW0.1 8 (by decide) rfl mF_X9_42 ?_
  refine aw_putI C dX9_becomeButRegisters_57 kcX9 hWd.1 8 (by decide) rfl mF_X9_42 rfl rfl rfl hw (fun G6 hw => ?_)
  exact aw_return C hr dX9_becomeButRegisters_60 ⟨rfl, hw⟩
def w_X9_become (w : Nat) (w0 : Nat) (K : Gt → Prop) (G0 : Gt) : Prop :=
  w_X9_becomeButRegisters w w0 (fun G1 =>
    pt (rcp G1 (w + 14) (w0 + 14) 4) fun G2 =>
    K G2) G0
set_option maxHeartbeats 4000000 in
set_option maxRecDepth 100000 in
theorem t_X9_become {l : Launch} {sh : Sh} {w : Nat} {w0 : Nat} (hWd : isWorld sh w) (hW0 : isWorld sh w0) (G0 : Gt) (K : Gt → Prop) (hw : w_X9_become w w0 K G0) : CT0 l yX9_become cX9_become 2 none 4 103 [.ref w, .ref w0] sh G0 (fun r G' => r = none ∧ K G') := by
  refine CT0_of (by decide) (Nat.le_of_ble_eq_true rfl) rfl ?_
  intro p e s m args below meth c D tA ad A C hr _
  unfold w_X9_become at hw
  show aw p l e { frames := 4, cells := 0, slots := 0, locals := 103 } s m args below meth c 2 D tA A (MQ below (QC0 D tA ad A sh (fun r G' => r = none ∧ K G')) args s 0 0 A) 0 0 ad 0 [some (.ref w), some (.ref w0)] [] sh G0
  refine aw_aloadn C dX9_become_0 rfl ?_
  refine aw_aloadn C dX9_become_1 rfl ?_
  refine aw_callV C dX9_become_2 (t_X9_becomeButRegisters hWd hW0 _ _ hw) mM_X9_46 bX9_becomeButRegisters hWd.1 rfl rfl ⟨Nat.le_of_ble_eq_true rfl, Nat.le_of_ble_eq_true rfl, Nat.zero_le _, Nat.zero_le _⟩ _ rfl (Nat.le_of_ble_eq_true rfl) (fun r2 G1 hq => ?_)
  obtain ⟨rfl, hw⟩ := hq
  refine aw_aloadn C dX9_become_5 rfl ?_
  refine aw_getR (r := (w + 13)) C dX9_become_6 kcX9 hWd.1 3 (by decide) rfl mF_X9_30 ?_
  refine aw_aloadn C dX9_become_9 rfl ?_
  refine aw_getR (r := (w0 + 13)) C dX9_become_10 kcX9 hW0.1 3 (by decide) rfl mF_X9_30 ?_
  refine aw_callV C dX9_become_13 (t_become hWd.2.2.2.2.1 hW0.2.2.2.2.1 (Nat.le_of_ble_eq_true rfl) _) mM_X9_50 bX6_become hWd.2.2.2.2.1.1 rfl rfl ⟨Nat.le_of_ble_eq_true rfl, Nat.le_of_ble_eq_true rfl, Nat.zero_le _, Nat.zero_le _⟩ _ rfl (Nat.le_of_ble_eq_true rfl) (fun r13 G2 hq => ?_)
  obtain ⟨rfl, hq⟩ := hq
  replace hw := pt_eq hw hq
  exact aw_return C hr dX9_become_16 ⟨rfl, hw⟩
