def w_X10_tryOut_A (K : Gt → Prop) (p0 : Int32) (G0 : Gt) : Prop :=
  pt (gM G0) fun G1 =>
  w_X2_open 43 (fun G2 =>
    w_X2_advance (fun v4 G3 =>
      w_X9_become 19 85 (fun G5 =>
        K G5) G3) 601 0 G2) p0 (G1 0 4) G1
set_option maxHeartbeats 4000000 in
set_option maxRecDepth 100000 in
theorem t_X10_tryOut_A {l : Launch}  (p0 : Int32) (G0 : Gt) (K : Gt → Prop) (hw : w_X10_tryOut_A K p0 G0) : CN l yX10_tryOut cX10_tryOut 3 (some (.object "Macroloom$Report")) 6 180 61 20705 [.ref 0, .int p0] shA shB G0 (fun r G' => r = some (.ref 43) ∧ K G') := by
  refine CN_of (by decide) (Nat.le_of_ble_eq_true rfl) rfl ?_
  intro p e s m args below meth c D tA ad A C hr _
  unfold w_X10_tryOut_A at hw
  show aw p l e { frames := 6, cells := 61, slots := 20705, locals := 180 } s m args below meth c 3 D tA A (MQ below (QN D tA ad A shA shB (fun r G' => r = some (.ref 43) ∧ K G')) args s 61 20705 A) 0 0 ad 0 [some (.ref 0), some (.int p0), none] [] shA G0
  refine aw_aloadn C dX10_tryOut_0 rfl ?_
  refine aw_callVN C dX10_tryOut_1 (t_X10_readyMachine_A _) mM_X10_143 bX10_readyMachine shA_0 rfl rfl ⟨Nat.le_of_ble_eq_true rfl, Nat.le_of_ble_eq_true rfl, Nat.le_refl _, Nat.le_refl _⟩ _ rfl (Nat.le_of_ble_eq_true rfl) ⟨by decide, trivial⟩ trivial rfl (fun r1 ad1 G1x hE1 hq => ?_)
  obtain ⟨rfl, hq⟩ := hq
  replace hw := pt_eq hw hq
  generalize G1x = G1 at *
  show aw p l e { frames := 6, cells := 61, slots := 20705, locals := 180 } s m args below meth c 3 D tA A (MQ below (QN D tA ad A shA shB (fun r G' => r = some (.ref 43) ∧ K G')) args s 61 20705 A) 61 20705 ad1 4 [some (.ref 0), some (.int p0), none] [.ref 84] shB G1
  refine aw_astoren C dX10_tryOut_4 (by decide) rfl ?_
  refine aw_aloadn C dX10_tryOut_5 rfl ?_
  refine aw_iloadn C dX10_tryOut_6 rfl ?_
  refine aw_aloadn C dX10_tryOut_7 rfl ?_
  refine aw_getI C dX10_tryOut_8 kcX10 shB_0 4 (by decide) rfl mF_X10_33 ?_
  refine aw_aloadn C dX10_tryOut_11 rfl ?_
  refine aw_getR (r := 43) C dX10_tryOut_12 kcX10 shB_0 3 (by decide) rfl mF_X10_30 ?_
  refine aw_callV C dX10_tryOut_15 (t_X2_open (Or.inr rfl) p0 (G1 0 4) _ _ hw) mM_X10_147 bX2_open shB_84 rfl rfl ⟨Nat.le_of_ble_eq_true rfl, Nat.le_of_ble_eq_true rfl, Nat.le_of_ble_eq_true rfl, Nat.le_of_ble_eq_true rfl⟩ _ rfl (Nat.le_of_ble_eq_true rfl) (fun r15 G2 hq => ?_)
  obtain ⟨rfl, hw⟩ := hq
  refine aw_aloadn C dX10_tryOut_18 rfl ?_
  refine aw_sipush (v := 601) C dX10_tryOut_19 (by decide) ?_
  refine aw_iconst (v := 0) C dX10_tryOut_22 (by decide) ?_
  refine aw_callV C dX10_tryOut_23 (t_X2_advance 601 0 _ _ hw) mM_X10_153 bX2_advance shB_84 rfl rfl ⟨Nat.le_of_ble_eq_true rfl, Nat.le_of_ble_eq_true rfl, Nat.le_of_ble_eq_true rfl, Nat.le_of_ble_eq_true rfl⟩ _ rfl (Nat.le_of_ble_eq_true rfl) (fun r23 G3 hq => ?_)
  obtain ⟨v4, rfl, hw⟩ := hq
  refine aw_pop C dX10_tryOut_26 rfl ?_
  refine aw_aloadn C dX10_tryOut_27 rfl ?_
  refine aw_getR (r := 19) C dX10_tryOut_28 kcX10 shB_0 1 (by decide) rfl mF_X10_19 ?_
  refine aw_aloadn C dX10_tryOut_31 rfl ?_
  refine aw_getR (r := 85) C dX10_tryOut_32 kcX2 shB_84 2 (by decide) rfl mF_X10_236 ?_
  refine aw_callV C dX10_tryOut_35 (t_X9_become (worldS_19 shOK_B) worldB_85 _ _ hw) mM_X10_239 bX9_become (worldS_19 shOK_B).1 rfl rfl ⟨Nat.le_of_ble_eq_true rfl, Nat.le_of_ble_eq_true rfl, Nat.le_of_ble_eq_true rfl, Nat.le_of_ble_eq_true rfl⟩ _ rfl (Nat.le_of_ble_eq_true rfl) (fun r35 G5 hq => ?_)
  obtain ⟨rfl, hw⟩ := hq
  refine aw_aloadn C dX10_tryOut_38 rfl ?_
  refine aw_getR (r := 43) C dX10_tryOut_39 kcX10 shB_0 3 (by decide) rfl mF_X10_30 ?_
  exact aw_nareturn C hr dX10_tryOut_42 hE1 ⟨rfl, hw⟩
def w_X10_run_A (K : Int32 → Gt → Prop) (KX : Nat → Gt → Prop) (p0 : Int32) (G0 : Gt) : Prop :=
  w_X4_has (fun v2 G1 =>
    pif (v2 = 0) (
      KX 0 G1) (
      w_X10_isStepped_A (fun v4 G3 =>
        pif (v4 = 0) (
          pt (gM G3) fun G5 =>
          w_X2_open 40 (fun G6 =>
            w_X2_advance (fun v8 G7 =>
              K (G7 40 0) G7) 601 0 G6) p0 (G5 0 4) G5) (
          KX 2 G3)) G1)) p0 G0
set_option maxHeartbeats 4000000 in
set_option maxRecDepth 100000 in
theorem t_X10_run_A {l : Launch} (hlf : l.stackTraces = false)  (p0 : Int32) (G0 : Gt) (K : Int32 → Gt → Prop) (KX : Nat → Gt → Prop) (hw : w_X10_run_A K KX p0 G0) : CL l yX10_run cX10_run 3 (some .int) 6 180 61 20705 [.ref 0, .int p0] shA G0 (fun r s' G' => s' = shB ∧ ∃ v, r = some (.int v) ∧ K v G') (fun k s' G' => s' = shA ∧ KX k G') := by
  refine CL_of (by decide) (Nat.le_of_ble_eq_true rfl) rfl ?_
  intro p e s m args below meth c D tA ad A C hr hnt
  unfold w_X10_run_A at hw
  show aw p l e { frames := 6, cells := 61, slots := 20705, locals := 180 } s m args below meth c 3 D tA A (vx_MQ below (QL D tA ad A shA (fun r s' G' => s' = shB ∧ ∃ v, r = some (.int v) ∧ K v G')) (XL D tA ad A shA (fun k s' G' => s' = shA ∧ KX k G')) args s 61 20705 A) 0 0 ad 0 [some (.ref 0), some (.int p0), none] [] shA G0
  refine aw_aloadn C dX10_run_0 rfl ?_
  refine aw_getR (r := 1) C dX10_run_1 kcX10 shA_0 0 (by decide) rfl mF_X10_12 ?_
  refine aw_iloadn C dX10_run_4 rfl ?_
  refine aw_callV C dX10_run_5 (t_X4_has shOK_A p0 _ _ hw) mM_X10_72 bX4_has (sA_1 shOK_A) rfl rfl ⟨Nat.le_of_ble_eq_true rfl, Nat.le_of_ble_eq_true rfl, Nat.le_of_ble_eq_true rfl, Nat.le_of_ble_eq_true rfl⟩ _ rfl (Nat.le_of_ble_eq_true rfl) (fun r5 G1 hq => ?_)
  obtain ⟨v2, rfl, hw⟩ := hq
  refine aw_if_ne C dX10_run_8 21 (by decide) hw (fun hc8 hw => ?_) (fun hc8 hw => ?_)
  · refine aw_aloadn C dX10_run_21 rfl ?_
    refine aw_callV C dX10_run_22 (t_X10_isStepped_A _ _ hw) mM_X10_80 bX10_isStepped shA_0 rfl rfl ⟨Nat.le_of_ble_eq_true rfl, Nat.le_of_ble_eq_true rfl, Nat.le_of_ble_eq_true rfl, Nat.le_of_ble_eq_true rfl⟩ _ rfl (Nat.le_of_ble_eq_true rfl) (fun r22 G3 hq => ?_)
    obtain ⟨v4, rfl, hw⟩ := hq
    refine aw_if_eq C dX10_run_25 38 (by decide) hw (fun hc25 hw => ?_) (fun hc25 hw => ?_)
    · refine aw_aloadn C dX10_run_38 rfl ?_
      refine aw_callVN C dX10_run_39 (t_X10_readyMachine_A _) mM_X10_143 bX10_readyMachine shA_0 rfl rfl ⟨Nat.le_of_ble_eq_true rfl, Nat.le_of_ble_eq_true rfl, Nat.le_refl _, Nat.le_refl _⟩ _ rfl (Nat.le_of_ble_eq_true rfl) ⟨by decide, trivial⟩ trivial rfl (fun r39 ad1 G39x hE1 hq => ?_)
      obtain ⟨rfl, hq⟩ := hq
      replace hw := pt_eq hw hq
      generalize G39x = G5 at *
      show aw p l e { frames := 6, cells := 61, slots := 20705, locals := 180 } s m args below meth c 3 D tA A (vx_MQ below (QL D tA ad A shA (fun r s' G' => s' = shB ∧ ∃ v, r = some (.int v) ∧ K v G')) (XL D tA ad A shA (fun k s' G' => s' = shA ∧ KX k G')) args s 61 20705 A) 61 20705 ad1 42 [some (.ref 0), some (.int p0), none] [.ref 84] shB G5
      refine aw_astoren C dX10_run_42 (by decide) rfl ?_
      refine aw_aloadn C dX10_run_43 rfl ?_
      refine aw_iloadn C dX10_run_44 rfl ?_
      refine aw_aloadn C dX10_run_45 rfl ?_
      refine aw_getI C dX10_run_46 kcX10 shB_0 4 (by decide) rfl mF_X10_33 ?_
      refine aw_aloadn C dX10_run_49 rfl ?_
      refine aw_getR (r := 40) C dX10_run_50 kcX10 shB_0 2 (by decide) rfl mF_X10_26 ?_
      refine aw_callV C dX10_run_53 (t_X2_open (Or.inl rfl) p0 (G5 0 4) _ _ hw) mM_X10_147 bX2_open shB_84 rfl rfl ⟨Nat.le_of_ble_eq_true rfl, Nat.le_of_ble_eq_true rfl, Nat.le_of_ble_eq_true rfl, Nat.le_of_ble_eq_true rfl⟩ _ rfl (Nat.le_of_ble_eq_true rfl) (fun r53 G6 hq => ?_)
      obtain ⟨rfl, hw⟩ := hq
      refine aw_aloadn C dX10_run_56 rfl ?_
      refine aw_sipush (v := 601) C dX10_run_57 (by decide) ?_
      refine aw_iconst (v := 0) C dX10_run_60 (by decide) ?_
      refine aw_callV C dX10_run_61 (t_X2_advance 601 0 _ _ hw) mM_X10_153 bX2_advance shB_84 rfl rfl ⟨Nat.le_of_ble_eq_true rfl, Nat.le_of_ble_eq_true rfl, Nat.le_of_ble_eq_true rfl, Nat.le_of_ble_eq_true rfl⟩ _ rfl (Nat.le_of_ble_eq_true rfl) (fun r61 G7 hq => ?_)
      obtain ⟨v8, rfl, hw⟩ := hq
      refine aw_pop C dX10_run_64 rfl ?_
      refine aw_aloadn C dX10_run_65 rfl ?_
      refine aw_getR (r := 40) C dX10_run_66 kcX10 shB_0 2 (by decide) rfl mF_X10_26 ?_
      refine aw_getI C dX10_run_69 kcX5 (reportS_40 shOK_B).1 0 (by decide) rfl mF_X10_157 ?_
      exact aw_vx (Nat.le_refl _) (Nat.le_refl _) (aw_lireturn C hr dX10_run_72 hE1 ⟨rfl, _, rfl, hw⟩)
    · exact aw_lthrow (kE := 2) hlf C (by decide) (by decide +kernel) mC_X10_59 mI_java_lang_IllegalStateException mS_X10_84 xt_g2 xt_b2 xt_o2 dX10_run_28 dX10_run_31 dX10_run_32 dX10_run_34 dX10_run_37 hnt ⟨Nat.le_of_ble_eq_true rfl, Nat.le_of_ble_eq_true rfl, Nat.le_of_ble_eq_true rfl, Nat.le_of_ble_eq_true rfl⟩ (Nat.le_of_ble_eq_true rfl) (Nat.le_of_ble_eq_true rfl) (fun _ _ => rfl) ⟨rfl, hw⟩
  · exact aw_lthrow (kE := 0) hlf C (by decide) (by decide +kernel) mC_X10_41 mI_java_lang_IndexOutOfBoundsException mS_X10_43 xt_g0 xt_b0 xt_o0 dX10_run_11 dX10_run_14 dX10_run_15 dX10_run_17 dX10_run_20 hnt ⟨Nat.le_of_ble_eq_true rfl, Nat.le_of_ble_eq_true rfl, Nat.le_of_ble_eq_true rfl, Nat.le_of_ble_eq_true rfl⟩ (Nat.le_of_ble_eq_true rfl) (Nat.le_of_ble_eq_true rfl) (fun _ _ => rfl) ⟨rfl, hw⟩
def w_X10_tried_A (K : Int32 → Gt → Prop) (KX : Nat → Gt → Prop) (p0 : Int32) (G0 : Gt) : Prop :=
  w_X4_has (fun v2 G1 =>
    pif (v2 = 0) (
      KX 0 G1) (
      w_X10_isStepped_A (fun v4 G3 =>
        pif (v4 = 0) (
          w_X10_tryOut_A (fun G5 =>
            K (G5 43 0) G5) p0 G3) (
          KX 2 G3)) G1)) p0 G0
set_option maxHeartbeats 4000000 in
set_option maxRecDepth 100000 in
theorem t_X10_tried_A {l : Launch} (hlf : l.stackTraces = false)  (p0 : Int32) (G0 : Gt) (K : Int32 → Gt → Prop) (KX : Nat → Gt → Prop) (hw : w_X10_tried_A K KX p0 G0) : CL l yX10_tried cX10_tried 2 (some .int) 7 202 61 20705 [.ref 0, .int p0] shA G0 (fun r s' G' => s' = shB ∧ ∃ v, r = some (.int v) ∧ K v G') (fun k s' G' => s' = shA ∧ KX k G') := by
  refine CL_of (by decide) (Nat.le_of_ble_eq_true rfl) rfl ?_
  intro p e s m args below meth c D tA ad A C hr hnt
  unfold w_X10_tried_A at hw
  show aw p l e { frames := 7, cells := 61, slots := 20705, locals := 202 } s m args below meth c 2 D tA A (vx_MQ below (QL D tA ad A shA (fun r s' G' => s' = shB ∧ ∃ v, r = some (.int v) ∧ K v G')) (XL D tA ad A shA (fun k s' G' => s' = shA ∧ KX k G')) args s 61 20705 A) 0 0 ad 0 [some (.ref 0), some (.int p0)] [] shA G0
  refine aw_aloadn C dX10_tried_0 rfl ?_
  refine aw_getR (r := 1) C dX10_tried_1 kcX10 shA_0 0 (by decide) rfl mF_X10_12 ?_
  refine aw_iloadn C dX10_tried_4 rfl ?_
  refine aw_callV C dX10_tried_5 (t_X4_has shOK_A p0 _ _ hw) mM_X10_72 bX4_has (sA_1 shOK_A) rfl rfl ⟨Nat.le_of_ble_eq_true rfl, Nat.le_of_ble_eq_true rfl, Nat.le_of_ble_eq_true rfl, Nat.le_of_ble_eq_true rfl⟩ _ rfl (Nat.le_of_ble_eq_true rfl) (fun r5 G1 hq => ?_)
  obtain ⟨v2, rfl, hw⟩ := hq
  refine aw_if_ne C dX10_tried_8 21 (by decide) hw (fun hc8 hw => ?_) (fun hc8 hw => ?_)
  · refine aw_aloadn C dX10_tried_21 rfl ?_
    refine aw_callV C dX10_tried_22 (t_X10_isStepped_A _ _ hw) mM_X10_80 bX10_isStepped shA_0 rfl rfl ⟨Nat.le_of_ble_eq_true rfl, Nat.le_of_ble_eq_true rfl, Nat.le_of_ble_eq_true rfl, Nat.le_of_ble_eq_true rfl⟩ _ rfl (Nat.le_of_ble_eq_true rfl) (fun r22 G3 hq => ?_)
    obtain ⟨v4, rfl, hw⟩ := hq
    refine aw_if_eq C dX10_tried_25 38 (by decide) hw (fun hc25 hw => ?_) (fun hc25 hw => ?_)
    · refine aw_aloadn C dX10_tried_38 rfl ?_
      refine aw_iloadn C dX10_tried_39 rfl ?_
      refine aw_callVN C dX10_tried_40 (t_X10_tryOut_A p0 _ _ hw) mM_X10_160 bX10_tryOut shA_0 rfl rfl ⟨Nat.le_of_ble_eq_true rfl, Nat.le_of_ble_eq_true rfl, Nat.le_refl _, Nat.le_refl _⟩ _ rfl (Nat.le_of_ble_eq_true rfl) ⟨by decide, trivial⟩ trivial rfl (fun r40 ad1 G40x hE1 hq => ?_)
      obtain ⟨rfl, hw⟩ := hq
      generalize G40x = G5 at *
      show aw p l e { frames := 7, cells := 61, slots := 20705, locals := 202 } s m args below meth c 2 D tA A (vx_MQ below (QL D tA ad A shA (fun r s' G' => s' = shB ∧ ∃ v, r = some (.int v) ∧ K v G')) (XL D tA ad A shA (fun k s' G' => s' = shA ∧ KX k G')) args s 61 20705 A) 61 20705 ad1 43 [some (.ref 0), some (.int p0)] [.ref 43] shB G5
      refine aw_getI C dX10_tried_43 kcX5 (reportS_43 shOK_B).1 0 (by decide) rfl mF_X10_157 ?_
      exact aw_vx (Nat.le_refl _) (Nat.le_refl _) (aw_lireturn C hr dX10_tried_46 hE1 ⟨rfl, _, rfl, hw⟩)
    · exact aw_lthrow (kE := 2) hlf C (by decide) (by decide +kernel) mC_X10_59 mI_java_lang_IllegalStateException mS_X10_84 xt_g2 xt_b2 xt_o2 dX10_tried_28 dX10_tried_31 dX10_tried_32 dX10_tried_34 dX10_tried_37 hnt ⟨Nat.le_of_ble_eq_true rfl, Nat.le_of_ble_eq_true rfl, Nat.le_of_ble_eq_true rfl, Nat.le_of_ble_eq_true rfl⟩ (Nat.le_of_ble_eq_true rfl) (Nat.le_of_ble_eq_true rfl) (fun _ _ => rfl) ⟨rfl, hw⟩
  · exact aw_lthrow (kE := 0) hlf C (by decide) (by decide +kernel) mC_X10_41 mI_java_lang_IndexOutOfBoundsException mS_X10_43 xt_g0 xt_b0 xt_o0 dX10_tried_11 dX10_tried_14 dX10_tried_15 dX10_tried_17 dX10_tried_20 hnt ⟨Nat.le_of_ble_eq_true rfl, Nat.le_of_ble_eq_true rfl, Nat.le_of_ble_eq_true rfl, Nat.le_of_ble_eq_true rfl⟩ (Nat.le_of_ble_eq_true rfl) (Nat.le_of_ble_eq_true rfl) (fun _ _ => rfl) ⟨rfl, hw⟩
def w_X10_triedSteps_A (K : Int32 → Gt → Prop) (KX : Nat → Gt → Prop) (p0 : Int32) (G0 : Gt) : Prop :=
  w_X4_has (fun v2 G1 =>
    pif (v2 = 0) (
      KX 0 G1) (
      w_X10_isStepped_A (fun v4 G3 =>
        pif (v4 = 0) (
          w_X10_tryOut_A (fun G5 =>
            K (G5 43 1) G5) p0 G3) (
          KX 2 G3)) G1)) p0 G0
set_option maxHeartbeats 4000000 in
set_option maxRecDepth 100000 in
theorem t_X10_triedSteps_A {l : Launch} (hlf : l.stackTraces = false)  (p0 : Int32) (G0 : Gt) (K : Int32 → Gt → Prop) (KX : Nat → Gt → Prop) (hw : w_X10_triedSteps_A K KX p0 G0) : CL l yX10_triedSteps cX10_triedSteps 2 (some .int) 7 202 61 20705 [.ref 0, .int p0] shA G0 (fun r s' G' => s' = shB ∧ ∃ v, r = some (.int v) ∧ K v G') (fun k s' G' => s' = shA ∧ KX k G') := by
  refine CL_of (by decide) (Nat.le_of_ble_eq_true rfl) rfl ?_
  intro p e s m args below meth c D tA ad A C hr hnt
  unfold w_X10_triedSteps_A at hw
  show aw p l e { frames := 7, cells := 61, slots := 20705, locals := 202 } s m args below meth c 2 D tA A (vx_MQ below (QL D tA ad A shA (fun r s' G' => s' = shB ∧ ∃ v, r = some (.int v) ∧ K v G')) (XL D tA ad A shA (fun k s' G' => s' = shA ∧ KX k G')) args s 61 20705 A) 0 0 ad 0 [some (.ref 0), some (.int p0)] [] shA G0
  refine aw_aloadn C dX10_triedSteps_0 rfl ?_
  refine aw_getR (r := 1) C dX10_triedSteps_1 kcX10 shA_0 0 (by decide) rfl mF_X10_12 ?_
  refine aw_iloadn C dX10_triedSteps_4 rfl ?_
  refine aw_callV C dX10_triedSteps_5 (t_X4_has shOK_A p0 _ _ hw) mM_X10_72 bX4_has (sA_1 shOK_A) rfl rfl ⟨Nat.le_of_ble_eq_true rfl, Nat.le_of_ble_eq_true rfl, Nat.le_of_ble_eq_true rfl, Nat.le_of_ble_eq_true rfl⟩ _ rfl (Nat.le_of_ble_eq_true rfl) (fun r5 G1 hq => ?_)
  obtain ⟨v2, rfl, hw⟩ := hq
  refine aw_if_ne C dX10_triedSteps_8 21 (by decide) hw (fun hc8 hw => ?_) (fun hc8 hw => ?_)
  · refine aw_aloadn C dX10_triedSteps_21 rfl ?_
    refine aw_callV C dX10_triedSteps_22 (t_X10_isStepped_A _ _ hw) mM_X10_80 bX10_isStepped shA_0 rfl rfl ⟨Nat.le_of_ble_eq_true rfl, Nat.le_of_ble_eq_true rfl, Nat.le_of_ble_eq_true rfl, Nat.le_of_ble_eq_true rfl⟩ _ rfl (Nat.le_of_ble_eq_true rfl) (fun r22 G3 hq => ?_)
    obtain ⟨v4, rfl, hw⟩ := hq
    refine aw_if_eq C dX10_triedSteps_25 38 (by decide) hw (fun hc25 hw => ?_) (fun hc25 hw => ?_)
    · refine aw_aloadn C dX10_triedSteps_38 rfl ?_
      refine aw_iloadn C dX10_triedSteps_39 rfl ?_
      refine aw_callVN C dX10_triedSteps_40 (t_X10_tryOut_A p0 _ _ hw) mM_X10_160 bX10_tryOut shA_0 rfl rfl ⟨Nat.le_of_ble_eq_true rfl, Nat.le_of_ble_eq_true rfl, Nat.le_refl _, Nat.le_refl _⟩ _ rfl (Nat.le_of_ble_eq_true rfl) ⟨by decide, trivial⟩ trivial rfl (fun r40 ad1 G40x hE1 hq => ?_)
      obtain ⟨rfl, hw⟩ := hq
      generalize G40x = G5 at *
      show aw p l e { frames := 7, cells := 61, slots := 20705, locals := 202 } s m args below meth c 2 D tA A (vx_MQ below (QL D tA ad A shA (fun r s' G' => s' = shB ∧ ∃ v, r = some (.int v) ∧ K v G')) (XL D tA ad A shA (fun k s' G' => s' = shA ∧ KX k G')) args s 61 20705 A) 61 20705 ad1 43 [some (.ref 0), some (.int p0)] [.ref 43] shB G5
      refine aw_getI C dX10_triedSteps_43 kcX5 (reportS_43 shOK_B).1 1 (by decide) rfl mF_X10_164 ?_
      exact aw_vx (Nat.le_refl _) (Nat.le_refl _) (aw_lireturn C hr dX10_triedSteps_46 hE1 ⟨rfl, _, rfl, hw⟩)
    · exact aw_lthrow (kE := 2) hlf C (by decide) (by decide +kernel) mC_X10_59 mI_java_lang_IllegalStateException mS_X10_84 xt_g2 xt_b2 xt_o2 dX10_triedSteps_28 dX10_triedSteps_31 dX10_triedSteps_32 dX10_triedSteps_34 dX10_triedSteps_37 hnt ⟨Nat.le_of_ble_eq_true rfl, Nat.le_of_ble_eq_true rfl, Nat.le_of_ble_eq_true rfl, Nat.le_of_ble_eq_true rfl⟩ (Nat.le_of_ble_eq_true rfl) (Nat.le_of_ble_eq_true rfl) (fun _ _ => rfl) ⟨rfl, hw⟩
  · exact aw_lthrow (kE := 0) hlf C (by decide) (by decide +kernel) mC_X10_41 mI_java_lang_IndexOutOfBoundsException mS_X10_43 xt_g0 xt_b0 xt_o0 dX10_triedSteps_11 dX10_triedSteps_14 dX10_triedSteps_15 dX10_triedSteps_17 dX10_triedSteps_20 hnt ⟨Nat.le_of_ble_eq_true rfl, Nat.le_of_ble_eq_true rfl, Nat.le_of_ble_eq_true rfl, Nat.le_of_ble_eq_true rfl⟩ (Nat.le_of_ble_eq_true rfl) (Nat.le_of_ble_eq_true rfl) (fun _ _ => rfl) ⟨rfl, hw⟩
def w_X10_start_A (K : Gt → Prop) (KX : Nat → Gt → Prop) (p0 : Int32) (G0 : Gt) : Prop :=
  w_X4_has (fun v2 G1 =>
    pif (v2 = 0) (
      KX 0 G1) (
      w_X10_isStepped_A (fun v4 G3 =>
        pif (v4 = 0) (
          pt (gM G3) fun G5 =>
          w_X2_open 40 (fun G6 =>
            K G6) p0 (G5 0 4) G5) (
          KX 2 G3)) G1)) p0 G0
set_option maxHeartbeats 4000000 in
set_option maxRecDepth 100000 in
theorem t_X10_start_A {l : Launch} (hlf : l.stackTraces = false)  (p0 : Int32) (G0 : Gt) (K : Gt → Prop) (KX : Nat → Gt → Prop) (hw : w_X10_start_A K KX p0 G0) : CL l yX10_start cX10_start 2 none 6 180 61 20705 [.ref 0, .int p0] shA G0 (fun r s' G' => s' = shB ∧ r = none ∧ K G') (fun k s' G' => s' = shA ∧ KX k G') := by
  refine CL_of (by decide) (Nat.le_of_ble_eq_true rfl) rfl ?_
  intro p e s m args below meth c D tA ad A C hr hnt
  unfold w_X10_start_A at hw
  show aw p l e { frames := 6, cells := 61, slots := 20705, locals := 180 } s m args below meth c 2 D tA A (vx_MQ below (QL D tA ad A shA (fun r s' G' => s' = shB ∧ r = none ∧ K G')) (XL D tA ad A shA (fun k s' G' => s' = shA ∧ KX k G')) args s 61 20705 A) 0 0 ad 0 [some (.ref 0), some (.int p0)] [] shA G0
  refine aw_aloadn C dX10_start_0 rfl ?_
  refine aw_getR (r := 1) C dX10_start_1 kcX10 shA_0 0 (by decide) rfl mF_X10_12 ?_
  refine aw_iloadn C dX10_start_4 rfl ?_
  refine aw_callV C dX10_start_5 (t_X4_has shOK_A p0 _ _ hw) mM_X10_72 bX4_has (sA_1 shOK_A) rfl rfl ⟨Nat.le_of_ble_eq_true rfl, Nat.le_of_ble_eq_true rfl, Nat.le_of_ble_eq_true rfl, Nat.le_of_ble_eq_true rfl⟩ _ rfl (Nat.le_of_ble_eq_true rfl) (fun r5 G1 hq => ?_)
  obtain ⟨v2, rfl, hw⟩ := hq
  refine aw_if_ne C dX10_start_8 21 (by decide) hw (fun hc8 hw => ?_) (fun hc8 hw => ?_)
  · refine aw_aloadn C dX10_start_21 rfl ?_
    refine aw_callV C dX10_start_22 (t_X10_isStepped_A _ _ hw) mM_X10_80 bX10_isStepped shA_0 rfl rfl ⟨Nat.le_of_ble_eq_true rfl, Nat.le_of_ble_eq_true rfl, Nat.le_of_ble_eq_true rfl, Nat.le_of_ble_eq_true rfl⟩ _ rfl (Nat.le_of_ble_eq_true rfl) (fun r22 G3 hq => ?_)
    obtain ⟨v4, rfl, hw⟩ := hq
    refine aw_if_eq C dX10_start_25 38 (by decide) hw (fun hc25 hw => ?_) (fun hc25 hw => ?_)
    · refine aw_aloadn C dX10_start_38 rfl ?_
      refine aw_callVN C dX10_start_39 (t_X10_readyMachine_A _) mM_X10_143 bX10_readyMachine shA_0 rfl rfl ⟨Nat.le_of_ble_eq_true rfl, Nat.le_of_ble_eq_true rfl, Nat.le_refl _, Nat.le_refl _⟩ _ rfl (Nat.le_of_ble_eq_true rfl) ⟨by decide, trivial⟩ trivial rfl (fun r39 ad1 G39x hE1 hq => ?_)
      obtain ⟨rfl, hq⟩ := hq
      replace hw := pt_eq hw hq
      generalize G39x = G5 at *
      show aw p l e { frames := 6, cells := 61, slots := 20705, locals := 180 } s m args below meth c 2 D tA A (vx_MQ below (QL D tA ad A shA (fun r s' G' => s' = shB ∧ r = none ∧ K G')) (XL D tA ad A shA (fun k s' G' => s' = shA ∧ KX k G')) args s 61 20705 A) 61 20705 ad1 42 [some (.ref 0), some (.int p0)] [.ref 84] shB G5
      refine aw_iloadn C dX10_start_42 rfl ?_
      refine aw_aloadn C dX10_start_43 rfl ?_
      refine aw_getI C dX10_start_44 kcX10 shB_0 4 (by decide) rfl mF_X10_33 ?_
      refine aw_aloadn C dX10_start_47 rfl ?_
      refine aw_getR (r := 40) C dX10_start_48 kcX10 shB_0 2 (by decide) rfl mF_X10_26 ?_
      refine aw_callV C dX10_start_51 (t_X2_open (Or.inl rfl) p0 (G5 0 4) _ _ hw) mM_X10_147 bX2_open shB_84 rfl rfl ⟨Nat.le_of_ble_eq_true rfl, Nat.le_of_ble_eq_true rfl, Nat.le_of_ble_eq_true rfl, Nat.le_of_ble_eq_true rfl⟩ _ rfl (Nat.le_of_ble_eq_true rfl) (fun r51 G6 hq => ?_)
      obtain ⟨rfl, hw⟩ := hq
      exact aw_vx (Nat.le_refl _) (Nat.le_refl _) (aw_lreturn C hr dX10_start_54 hE1 ⟨rfl, rfl, hw⟩)
    · exact aw_lthrow (kE := 2) hlf C (by decide) (by decide +kernel) mC_X10_59 mI_java_lang_IllegalStateException mS_X10_84 xt_g2 xt_b2 xt_o2 dX10_start_28 dX10_start_31 dX10_start_32 dX10_start_34 dX10_start_37 hnt ⟨Nat.le_of_ble_eq_true rfl, Nat.le_of_ble_eq_true rfl, Nat.le_of_ble_eq_true rfl, Nat.le_of_ble_eq_true rfl⟩ (Nat.le_of_ble_eq_true rfl) (Nat.le_of_ble_eq_true rfl) (fun _ _ => rfl) ⟨rfl, hw⟩
  · exact aw_lthrow (kE := 0) hlf C (by decide) (by decide +kernel) mC_X10_41 mI_java_lang_IndexOutOfBoundsException mS_X10_43 xt_g0 xt_b0 xt_o0 dX10_start_11 dX10_start_14 dX10_start_15 dX10_start_17 dX10_start_20 hnt ⟨Nat.le_of_ble_eq_true rfl, Nat.le_of_ble_eq_true rfl, Nat.le_of_ble_eq_true rfl, Nat.le_of_ble_eq_true rfl⟩ (Nat.le_of_ble_eq_true rfl) (Nat.le_of_ble_eq_true rfl) (fun _ _ => rfl) ⟨rfl, hw⟩
def w_X10_runx_A (K : Int32 → Gt → Prop) (KX : Nat → Gt → Prop) (p0 : Int32) (G0 : Gt) : Prop :=
  w_X4_has (fun v2 G1 =>
    pif (v2 = 0) (
      KX 0 G1) (
      w_X10_isStepped_A (fun v4 G3 =>
        pif (v4 = 0) (
          False) (
          KX 2 G3)) G1)) p0 G0
set_option maxHeartbeats 4000000 in
set_option maxRecDepth 100000 in
theorem t_X10_runx_A {l : Launch} (hlf : l.stackTraces = false)  (p0 : Int32) (G0 : Gt) (K : Int32 → Gt → Prop) (KX : Nat → Gt → Prop) (hw : w_X10_runx_A K KX p0 G0) : CTX l yX10_run cX10_run 3 (some .int) 6 180 [.ref 0, .int p0] shA G0 (fun r G' => ∃ v, r = some (.int v) ∧ K v G') KX := by
  refine CTX_of (by decide) (Nat.le_of_ble_eq_true rfl) rfl ?_
  intro p e s m args below meth c D tA ad A C hr hnt
  unfold w_X10_runx_A at hw
  show aw p l e { frames := 6, cells := 1, slots := 6, locals := 180 } s m args below meth c 3 D tA A (vx_MQ below (QC0 D tA ad A shA (fun r G' => ∃ v, r = some (.int v) ∧ K v G')) (XQ D tA ad A shA KX) args s 1 6 A) 0 0 ad 0 [some (.ref 0), some (.int p0), none] [] shA G0
  refine aw_aloadn C dX10_run_0 rfl ?_
  refine aw_getR (r := 1) C dX10_run_1 kcX10 shA_0 0 (by decide) rfl mF_X10_12 ?_
  refine aw_iloadn C dX10_run_4 rfl ?_
  refine aw_callV C dX10_run_5 (t_X4_has shOK_A p0 _ _ hw) mM_X10_72 bX4_has (sA_1 shOK_A) rfl rfl ⟨Nat.le_of_ble_eq_true rfl, Nat.le_of_ble_eq_true rfl, Nat.zero_le _, Nat.zero_le _⟩ _ rfl (Nat.le_of_ble_eq_true rfl) (fun r5 G1 hq => ?_)
  obtain ⟨v2, rfl, hw⟩ := hq
  refine aw_if_ne C dX10_run_8 21 (by decide) hw (fun hc8 hw => ?_) (fun hc8 hw => ?_)
  · refine aw_aloadn C dX10_run_21 rfl ?_
    refine aw_callV C dX10_run_22 (t_X10_isStepped_A _ _ hw) mM_X10_80 bX10_isStepped shA_0 rfl rfl ⟨Nat.le_of_ble_eq_true rfl, Nat.le_of_ble_eq_true rfl, Nat.zero_le _, Nat.zero_le _⟩ _ rfl (Nat.le_of_ble_eq_true rfl) (fun r22 G3 hq => ?_)
    obtain ⟨v4, rfl, hw⟩ := hq
    refine aw_if_eq C dX10_run_25 38 (by decide) hw (fun hc25 hw => ?_) (fun hc25 hw => ?_)
    · refine aw_aloadn C dX10_run_38 rfl ?_
      exact hw.elim
    · exact aw_throw (kE := 2) hlf C (by decide) (by decide +kernel) mC_X10_59 mI_java_lang_IllegalStateException mS_X10_84 xt_g2 xt_b2 xt_o2 dX10_run_28 dX10_run_31 dX10_run_32 dX10_run_34 dX10_run_37 hnt ⟨Nat.le_of_ble_eq_true rfl, Nat.le_of_ble_eq_true rfl, Nat.le_of_ble_eq_true rfl, Nat.le_of_ble_eq_true rfl⟩ (Nat.le_of_ble_eq_true rfl) (Nat.le_of_ble_eq_true rfl) hw
  · exact aw_throw (kE := 0) hlf C (by decide) (by decide +kernel) mC_X10_41 mI_java_lang_IndexOutOfBoundsException mS_X10_43 xt_g0 xt_b0 xt_o0 dX10_run_11 dX10_run_14 dX10_run_15 dX10_run_17 dX10_run_20 hnt ⟨Nat.le_of_ble_eq_true rfl, Nat.le_of_ble_eq_true rfl, Nat.le_of_ble_eq_true rfl, Nat.le_of_ble_eq_true rfl⟩ (Nat.le_of_ble_eq_true rfl) (Nat.le_of_ble_eq_true rfl) hw
def w_X10_triedx_A (K : Int32 → Gt → Prop) (KX : Nat → Gt → Prop) (p0 : Int32) (G0 : Gt) : Prop :=
  w_X4_has (fun v2 G1 =>
    pif (v2 = 0) (
      KX 0 G1) (
      w_X10_isStepped_A (fun v4 G3 =>
        pif (v4 = 0) (
          False) (
          KX 2 G3)) G1)) p0 G0
set_option maxHeartbeats 4000000 in
set_option maxRecDepth 100000 in
theorem t_X10_triedx_A {l : Launch} (hlf : l.stackTraces = false)  (p0 : Int32) (G0 : Gt) (K : Int32 → Gt → Prop) (KX : Nat → Gt → Prop) (hw : w_X10_triedx_A K KX p0 G0) : CTX l yX10_tried cX10_tried 2 (some .int) 7 202 [.ref 0, .int p0] shA G0 (fun r G' => ∃ v, r = some (.int v) ∧ K v G') KX := by
  refine CTX_of (by decide) (Nat.le_of_ble_eq_true rfl) rfl ?_
  intro p e s m args below meth c D tA ad A C hr hnt
  unfold w_X10_triedx_A at hw
  show aw p l e { frames := 7, cells := 1, slots := 6, locals := 202 } s m args below meth c 2 D tA A (vx_MQ below (QC0 D tA ad A shA (fun r G' => ∃ v, r = some (.int v) ∧ K v G')) (XQ D tA ad A shA KX) args s 1 6 A) 0 0 ad 0 [some (.ref 0), some (.int p0)] [] shA G0
  refine aw_aloadn C dX10_tried_0 rfl ?_
  refine aw_getR (r := 1) C dX10_tried_1 kcX10 shA_0 0 (by decide) rfl mF_X10_12 ?_
  refine aw_iloadn C dX10_tried_4 rfl ?_
  refine aw_callV C dX10_tried_5 (t_X4_has shOK_A p0 _ _ hw) mM_X10_72 bX4_has (sA_1 shOK_A) rfl rfl ⟨Nat.le_of_ble_eq_true rfl, Nat.le_of_ble_eq_true rfl, Nat.zero_le _, Nat.zero_le _⟩ _ rfl (Nat.le_of_ble_eq_true rfl) (fun r5 G1 hq => ?_)
  obtain ⟨v2, rfl, hw⟩ := hq
  refine aw_if_ne C dX10_tried_8 21 (by decide) hw (fun hc8 hw => ?_) (fun hc8 hw => ?_)
  · refine aw_aloadn C dX10_tried_21 rfl ?_
    refine aw_callV C dX10_tried_22 (t_X10_isStepped_A _ _ hw) mM_X10_80 bX10_isStepped shA_0 rfl rfl ⟨Nat.le_of_ble_eq_true rfl, Nat.le_of_ble_eq_true rfl, Nat.zero_le _, Nat.zero_le _⟩ _ rfl (Nat.le_of_ble_eq_true rfl) (fun r22 G3 hq => ?_)
    obtain ⟨v4, rfl, hw⟩ := hq
    refine aw_if_eq C dX10_tried_25 38 (by decide) hw (fun hc25 hw => ?_) (fun hc25 hw => ?_)
    · refine aw_aloadn C dX10_tried_38 rfl ?_
      refine aw_iloadn C dX10_tried_39 rfl ?_
      exact hw.elim
    · exact aw_throw (kE := 2) hlf C (by decide) (by decide +kernel) mC_X10_59 mI_java_lang_IllegalStateException mS_X10_84 xt_g2 xt_b2 xt_o2 dX10_tried_28 dX10_tried_31 dX10_tried_32 dX10_tried_34 dX10_tried_37 hnt ⟨Nat.le_of_ble_eq_true rfl, Nat.le_of_ble_eq_true rfl, Nat.le_of_ble_eq_true rfl, Nat.le_of_ble_eq_true rfl⟩ (Nat.le_of_ble_eq_true rfl) (Nat.le_of_ble_eq_true rfl) hw
  · exact aw_throw (kE := 0) hlf C (by decide) (by decide +kernel) mC_X10_41 mI_java_lang_IndexOutOfBoundsException mS_X10_43 xt_g0 xt_b0 xt_o0 dX10_tried_11 dX10_tried_14 dX10_tried_15 dX10_tried_17 dX10_tried_20 hnt ⟨Nat.le_of_ble_eq_true rfl, Nat.le_of_ble_eq_true rfl, Nat.le_of_ble_eq_true rfl, Nat.le_of_ble_eq_true rfl⟩ (Nat.le_of_ble_eq_true rfl) (Nat.le_of_ble_eq_true rfl) hw
def w_X10_triedStepsx_A (K : Int32 → Gt → Prop) (KX : Nat → Gt → Prop) (p0 : Int32) (G0 : Gt) : Prop :=
  w_X4_has (fun v2 G1 =>
    pif (v2 = 0) (
      KX 0 G1) (
      w_X10_isStepped_A (fun v4 G3 =>
        pif (v4 = 0) (
          False) (
          KX 2 G3)) G1)) p0 G0
set_option maxHeartbeats 4000000 in
set_option maxRecDepth 100000 in
theorem t_X10_triedStepsx_A {l : Launch} (hlf : l.stackTraces = false)  (p0 : Int32) (G0 : Gt) (K : Int32 → Gt → Prop) (KX : Nat → Gt → Prop) (hw : w_X10_triedStepsx_A K KX p0 G0) : CTX l yX10_triedSteps cX10_triedSteps 2 (some .int) 7 202 [.ref 0, .int p0] shA G0 (fun r G' => ∃ v, r = some (.int v) ∧ K v G') KX := by
  refine CTX_of (by decide) (Nat.le_of_ble_eq_true rfl) rfl ?_
  intro p e s m args below meth c D tA ad A C hr hnt
  unfold w_X10_triedStepsx_A at hw
  show aw p l e { frames := 7, cells := 1, slots := 6, locals := 202 } s m args below meth c 2 D tA A (vx_MQ below (QC0 D tA ad A shA (fun r G' => ∃ v, r = some (.int v) ∧ K v G')) (XQ D tA ad A shA KX) args s 1 6 A) 0 0 ad 0 [some (.ref 0), some (.int p0)] [] shA G0
  refine aw_aloadn C dX10_triedSteps_0 rfl ?_
  refine aw_getR (r := 1) C dX10_triedSteps_1 kcX10 shA_0 0 (by decide) rfl mF_X10_12 ?_
  refine aw_iloadn C dX10_triedSteps_4 rfl ?_
  refine aw_callV C dX10_triedSteps_5 (t_X4_has shOK_A p0 _ _ hw) mM_X10_72 bX4_has (sA_1 shOK_A) rfl rfl ⟨Nat.le_of_ble_eq_true rfl, Nat.le_of_ble_eq_true rfl, Nat.zero_le _, Nat.zero_le _⟩ _ rfl (Nat.le_of_ble_eq_true rfl) (fun r5 G1 hq => ?_)
  obtain ⟨v2, rfl, hw⟩ := hq
  refine aw_if_ne C dX10_triedSteps_8 21 (by decide) hw (fun hc8 hw => ?_) (fun hc8 hw => ?_)
  · refine aw_aloadn C dX10_triedSteps_21 rfl ?_
    refine aw_callV C dX10_triedSteps_22 (t_X10_isStepped_A _ _ hw) mM_X10_80 bX10_isStepped shA_0 rfl rfl ⟨Nat.le_of_ble_eq_true rfl, Nat.le_of_ble_eq_true rfl, Nat.zero_le _, Nat.zero_le _⟩ _ rfl (Nat.le_of_ble_eq_true rfl) (fun r22 G3 hq => ?_)
    obtain ⟨v4, rfl, hw⟩ := hq
    refine aw_if_eq C dX10_triedSteps_25 38 (by decide) hw (fun hc25 hw => ?_) (fun hc25 hw => ?_)
    · refine aw_aloadn C dX10_triedSteps_38 rfl ?_
      refine aw_iloadn C dX10_triedSteps_39 rfl ?_
      exact hw.elim
    · exact aw_throw (kE := 2) hlf C (by decide) (by decide +kernel) mC_X10_59 mI_java_lang_IllegalStateException mS_X10_84 xt_g2 xt_b2 xt_o2 dX10_triedSteps_28 dX10_triedSteps_31 dX10_triedSteps_32 dX10_triedSteps_34 dX10_triedSteps_37 hnt ⟨Nat.le_of_ble_eq_true rfl, Nat.le_of_ble_eq_true rfl, Nat.le_of_ble_eq_true rfl, Nat.le_of_ble_eq_true rfl⟩ (Nat.le_of_ble_eq_true rfl) (Nat.le_of_ble_eq_true rfl) hw
  · exact aw_throw (kE := 0) hlf C (by decide) (by decide +kernel) mC_X10_41 mI_java_lang_IndexOutOfBoundsException mS_X10_43 xt_g0 xt_b0 xt_o0 dX10_triedSteps_11 dX10_triedSteps_14 dX10_triedSteps_15 dX10_triedSteps_17 dX10_triedSteps_20 hnt ⟨Nat.le_of_ble_eq_true rfl, Nat.le_of_ble_eq_true rfl, Nat.le_of_ble_eq_true rfl, Nat.le_of_ble_eq_true rfl⟩ (Nat.le_of_ble_eq_true rfl) (Nat.le_of_ble_eq_true rfl) hw
def w_X10_startx_A (K : Gt → Prop) (KX : Nat → Gt → Prop) (p0 : Int32) (G0 : Gt) : Prop :=
  w_X4_has (fun v2 G1 =>
    pif (v2 = 0) (
      KX 0 G1) (
      w_X10_isStepped_A (fun v4 G3 =>
        pif (v4 = 0) (
          False) (
          KX 2 G3)) G1)) p0 G0
set_option maxHeartbeats 4000000 in
set_option maxRecDepth 100000 in
theorem t_X10_startx_A {l : Launch} (hlf : l.stackTraces = false)  (p0 : Int32) (G0 : Gt) (K : Gt → Prop) (KX : Nat → Gt → Prop) (hw : w_X10_startx_A K KX p0 G0) : CTX l yX10_start cX10_start 2 none 6 180 [.ref 0, .int p0] shA G0 (fun r G' => r = none ∧ K G') KX := by
  refine CTX_of (by decide) (Nat.le_of_ble_eq_true rfl) rfl ?_
  intro p e s m args below meth c D tA ad A C hr hnt
  unfold w_X10_startx_A at hw
  show aw p l e { frames := 6, cells := 1, slots := 6, locals := 180 } s m args below meth c 2 D tA A (vx_MQ below (QC0 D tA ad A shA (fun r G' => r = none ∧ K G')) (XQ D tA ad A shA KX) args s 1 6 A) 0 0 ad 0 [some (.ref 0), some (.int p0)] [] shA G0
  refine aw_aloadn C dX10_start_0 rfl ?_
  refine aw_getR (r := 1) C dX10_start_1 kcX10 shA_0 0 (by decide) rfl mF_X10_12 ?_
  refine aw_iloadn C dX10_start_4 rfl ?_
  refine aw_callV C dX10_start_5 (t_X4_has shOK_A p0 _ _ hw) mM_X10_72 bX4_has (sA_1 shOK_A) rfl rfl ⟨Nat.le_of_ble_eq_true rfl, Nat.le_of_ble_eq_true rfl, Nat.zero_le _, Nat.zero_le _⟩ _ rfl (Nat.le_of_ble_eq_true rfl) (fun r5 G1 hq => ?_)
  obtain ⟨v2, rfl, hw⟩ := hq
  refine aw_if_ne C dX10_start_8 21 (by decide) hw (fun hc8 hw => ?_) (fun hc8 hw => ?_)
  · refine aw_aloadn C dX10_start_21 rfl ?_
    refine aw_callV C dX10_start_22 (t_X10_isStepped_A _ _ hw) mM_X10_80 bX10_isStepped shA_0 rfl rfl ⟨Nat.le_of_ble_eq_true rfl, Nat.le_of_ble_eq_true rfl, Nat.zero_le _, Nat.zero_le _⟩ _ rfl (Nat.le_of_ble_eq_true rfl) (fun r22 G3 hq => ?_)
    obtain ⟨v4, rfl, hw⟩ := hq
    refine aw_if_eq C dX10_start_25 38 (by decide) hw (fun hc25 hw => ?_) (fun hc25 hw => ?_)
    · refine aw_aloadn C dX10_start_38 rfl ?_
      exact hw.elim
    · exact aw_throw (kE := 2) hlf C (by decide) (by decide +kernel) mC_X10_59 mI_java_lang_IllegalStateException mS_X10_84 xt_g2 xt_b2 xt_o2 dX10_start_28 dX10_start_31 dX10_start_32 dX10_start_34 dX10_start_37 hnt ⟨Nat.le_of_ble_eq_true rfl, Nat.le_of_ble_eq_true rfl, Nat.le_of_ble_eq_true rfl, Nat.le_of_ble_eq_true rfl⟩ (Nat.le_of_ble_eq_true rfl) (Nat.le_of_ble_eq_true rfl) hw
  · exact aw_throw (kE := 0) hlf C (by decide) (by decide +kernel) mC_X10_41 mI_java_lang_IndexOutOfBoundsException mS_X10_43 xt_g0 xt_b0 xt_o0 dX10_start_11 dX10_start_14 dX10_start_15 dX10_start_17 dX10_start_20 hnt ⟨Nat.le_of_ble_eq_true rfl, Nat.le_of_ble_eq_true rfl, Nat.le_of_ble_eq_true rfl, Nat.le_of_ble_eq_true rfl⟩ (Nat.le_of_ble_eq_true rfl) (Nat.le_of_ble_eq_true rfl) hw
