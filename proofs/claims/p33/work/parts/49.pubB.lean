def w_X10_next_B_j17 (K : Int32 → Gt → Prop) (y0 : Int32) (G0 : Gt) : Prop :=
  K y0 G0
def w_X10_next_B (K : Int32 → Gt → Prop) (G0 : Gt) : Prop :=
  pif (G0 84 7 = 0) (
    w_X10_next_B_j17 K (-1) G0) (
    w_X2_waitingNode (fun v2 G1 =>
      w_X10_next_B_j17 K v2 G1) G0)
set_option maxHeartbeats 4000000 in
set_option maxRecDepth 100000 in
theorem t_X10_next_B {l : Launch}  (G0 : Gt) (K : Int32 → Gt → Prop) (hw : w_X10_next_B K G0) : CT0 l yX10_next cX10_next 2 (some .int) 2 41 [.ref 0] shB G0 (fun r G' => ∃ v, r = some (.int v) ∧ K v G') := by
  refine CT0_of (by decide) (Nat.le_of_ble_eq_true rfl) rfl ?_
  intro p e s m args below meth c D tA ad A C hr _
  have h17 : ∀ (y0 : Int32) (G0 : Gt), w_X10_next_B_j17 K y0 G0 → aw p l e { frames := 2, cells := 0, slots := 0, locals := 41 } s m args below meth c 2 D tA A (MQ below (QC0 D tA ad A shB (fun r G' => ∃ v, r = some (.int v) ∧ K v G')) args s 0 0 A) 0 0 ad 17 [none, none] [.int y0] shB G0 := by
    intro  y0 G0 hw
    unfold w_X10_next_B_j17 at hw
    exact aw_ireturn C hr dX10_next_17 ⟨_, rfl, hw⟩
  unfold w_X10_next_B at hw
  show aw p l e { frames := 2, cells := 0, slots := 0, locals := 41 } s m args below meth c 2 D tA A (MQ below (QC0 D tA ad A shB (fun r G' => ∃ v, r = some (.int v) ∧ K v G')) args s 0 0 A) 0 0 ad 0 [some (.ref 0), none] [] shB G0
  refine aw_aloadn C dX10_next_0 rfl ?_
  refine aw_callV C dX10_next_1 (t_stepped_B _) mM_X10_167 bX10_steppedMachine shB_0 rfl rfl ⟨Nat.le_of_ble_eq_true rfl, Nat.le_of_ble_eq_true rfl, Nat.zero_le _, Nat.zero_le _⟩ _ rfl (Nat.le_of_ble_eq_true rfl) (fun r1 G1x hq => ?_)
  obtain ⟨rfl, rfl⟩ := hq
  refine sw_if hw (fun hs1 hw => ?_) (fun hs1 hw => ?_)
  · rw [if_pos hs1]
    refine aw_astorenN C dX10_next_4 (by decide) rfl ?_
    refine aw_aloadnN C dX10_next_5 rfl ?_
    refine aw_ifnonnullN C dX10_next_6 ?_
    refine aw_iconst (v := (-1)) C dX10_next_9 (by decide) ?_
    refine aw_goto (tgt := 17) C dX10_next_10 (by decide) ?_
    exact aw_msk [false, false] (h17 (-1) _ hw)
  · rw [if_neg hs1]
    refine aw_astoren C dX10_next_4 (by decide) rfl ?_
    refine aw_aloadn C dX10_next_5 rfl ?_
    refine aw_ifnonnull C 13 dX10_next_6 (by decide) ?_
    refine aw_aloadn C dX10_next_13 rfl ?_
    refine aw_callV C dX10_next_14 (t_X2_waitingNode _ _ hw) mM_X10_179 bX2_waitingNode shB_84 rfl rfl ⟨Nat.le_of_ble_eq_true rfl, Nat.le_of_ble_eq_true rfl, Nat.zero_le _, Nat.zero_le _⟩ _ rfl (Nat.le_of_ble_eq_true rfl) (fun r14 G1 hq => ?_)
    obtain ⟨v2, rfl, hw⟩ := hq
    exact aw_msk [false, false] (h17 v2 _ hw)
def w_X10_active_B_j17 (K : Int32 → Gt → Prop) (y0 : Int32) (G0 : Gt) : Prop :=
  K y0 G0
def w_X10_active_B (K : Int32 → Gt → Prop) (G0 : Gt) : Prop :=
  pif (G0 84 7 = 0) (
    w_X10_active_B_j17 K 0 G0) (
    w_X10_active_B_j17 K (G0 84 8) G0)
set_option maxHeartbeats 4000000 in
set_option maxRecDepth 100000 in
theorem t_X10_active_B {l : Launch}  (G0 : Gt) (K : Int32 → Gt → Prop) (hw : w_X10_active_B K G0) : CT0 l yX10_active cX10_active 2 (some .int) 1 20 [.ref 0] shB G0 (fun r G' => ∃ v, r = some (.int v) ∧ K v G') := by
  refine CT0_of (by decide) (Nat.le_of_ble_eq_true rfl) rfl ?_
  intro p e s m args below meth c D tA ad A C hr _
  have h17 : ∀ (y0 : Int32) (G0 : Gt), w_X10_active_B_j17 K y0 G0 → aw p l e { frames := 1, cells := 0, slots := 0, locals := 20 } s m args below meth c 2 D tA A (MQ below (QC0 D tA ad A shB (fun r G' => ∃ v, r = some (.int v) ∧ K v G')) args s 0 0 A) 0 0 ad 17 [none, none] [.int y0] shB G0 := by
    intro  y0 G0 hw
    unfold w_X10_active_B_j17 at hw
    exact aw_ireturn C hr dX10_active_17 ⟨_, rfl, hw⟩
  unfold w_X10_active_B at hw
  show aw p l e { frames := 1, cells := 0, slots := 0, locals := 20 } s m args below meth c 2 D tA A (MQ below (QC0 D tA ad A shB (fun r G' => ∃ v, r = some (.int v) ∧ K v G')) args s 0 0 A) 0 0 ad 0 [some (.ref 0), none] [] shB G0
  refine aw_aloadn C dX10_active_0 rfl ?_
  refine aw_callV C dX10_active_1 (t_stepped_B _) mM_X10_167 bX10_steppedMachine shB_0 rfl rfl ⟨Nat.le_of_ble_eq_true rfl, Nat.le_of_ble_eq_true rfl, Nat.zero_le _, Nat.zero_le _⟩ _ rfl (Nat.le_of_ble_eq_true rfl) (fun r1 G1x hq => ?_)
  obtain ⟨rfl, rfl⟩ := hq
  refine sw_if hw (fun hs1 hw => ?_) (fun hs1 hw => ?_)
  · rw [if_pos hs1]
    refine aw_astorenN C dX10_active_4 (by decide) rfl ?_
    refine aw_aloadnN C dX10_active_5 rfl ?_
    refine aw_ifnonnullN C dX10_active_6 ?_
    refine aw_iconst (v := 0) C dX10_active_9 (by decide) ?_
    refine aw_goto (tgt := 17) C dX10_active_10 (by decide) ?_
    exact aw_msk [false, false] (h17 0 _ hw)
  · rw [if_neg hs1]
    refine aw_astoren C dX10_active_4 (by decide) rfl ?_
    refine aw_aloadn C dX10_active_5 rfl ?_
    refine aw_ifnonnull C 13 dX10_active_6 (by decide) ?_
    refine aw_aloadn C dX10_active_13 rfl ?_
    refine aw_getI C dX10_active_14 kcX2 shB_84 8 (by decide) rfl mF_X10_187 ?_
    exact aw_msk [false, false] (h17 (G0 84 8) _ hw)
def w_X10_outcome_B (K : Int32 → Gt → Prop) (G0 : Gt) : Prop :=
  K (G0 40 0) G0
set_option maxHeartbeats 4000000 in
set_option maxRecDepth 100000 in
theorem t_X10_outcome_B {l : Launch}  (G0 : Gt) (K : Int32 → Gt → Prop) (hw : w_X10_outcome_B K G0) : CT0 l yX10_outcome cX10_outcome 1 (some .int) 0 0 [.ref 0] shB G0 (fun r G' => ∃ v, r = some (.int v) ∧ K v G') := by
  refine CT0_of (by decide) (Nat.le_of_ble_eq_true rfl) rfl ?_
  intro p e s m args below meth c D tA ad A C hr _
  unfold w_X10_outcome_B at hw
  show aw p l e { frames := 0, cells := 0, slots := 0, locals := 0 } s m args below meth c 1 D tA A (MQ below (QC0 D tA ad A shB (fun r G' => ∃ v, r = some (.int v) ∧ K v G')) args s 0 0 A) 0 0 ad 0 [some (.ref 0)] [] shB G0
  refine aw_aloadn C dX10_outcome_0 rfl ?_
  refine aw_getR (r := 40) C dX10_outcome_1 kcX10 shB_0 2 (by decide) rfl mF_X10_26 ?_
  refine aw_getI C dX10_outcome_4 kcX5 (reportS_40 shOK_B).1 0 (by decide) rfl mF_X10_157 ?_
  exact aw_ireturn C hr dX10_outcome_7 ⟨_, rfl, hw⟩
def w_X10_steps_B (K : Int32 → Gt → Prop) (G0 : Gt) : Prop :=
  K (G0 40 1) G0
set_option maxHeartbeats 4000000 in
set_option maxRecDepth 100000 in
theorem t_X10_steps_B {l : Launch}  (G0 : Gt) (K : Int32 → Gt → Prop) (hw : w_X10_steps_B K G0) : CT0 l yX10_steps cX10_steps 1 (some .int) 0 0 [.ref 0] shB G0 (fun r G' => ∃ v, r = some (.int v) ∧ K v G') := by
  refine CT0_of (by decide) (Nat.le_of_ble_eq_true rfl) rfl ?_
  intro p e s m args below meth c D tA ad A C hr _
  unfold w_X10_steps_B at hw
  show aw p l e { frames := 0, cells := 0, slots := 0, locals := 0 } s m args below meth c 1 D tA A (MQ below (QC0 D tA ad A shB (fun r G' => ∃ v, r = some (.int v) ∧ K v G')) args s 0 0 A) 0 0 ad 0 [some (.ref 0)] [] shB G0
  refine aw_aloadn C dX10_steps_0 rfl ?_
  refine aw_getR (r := 40) C dX10_steps_1 kcX10 shB_0 2 (by decide) rfl mF_X10_26 ?_
  refine aw_getI C dX10_steps_4 kcX5 (reportS_40 shOK_B).1 1 (by decide) rfl mF_X10_164 ?_
  exact aw_ireturn C hr dX10_steps_7 ⟨_, rfl, hw⟩
def w_X10_cause_B (K : Int32 → Gt → Prop) (G0 : Gt) : Prop :=
  K (G0 40 2) G0
set_option maxHeartbeats 4000000 in
set_option maxRecDepth 100000 in
theorem t_X10_cause_B {l : Launch}  (G0 : Gt) (K : Int32 → Gt → Prop) (hw : w_X10_cause_B K G0) : CT0 l yX10_cause cX10_cause 1 (some .int) 0 0 [.ref 0] shB G0 (fun r G' => ∃ v, r = some (.int v) ∧ K v G') := by
  refine CT0_of (by decide) (Nat.le_of_ble_eq_true rfl) rfl ?_
  intro p e s m args below meth c D tA ad A C hr _
  unfold w_X10_cause_B at hw
  show aw p l e { frames := 0, cells := 0, slots := 0, locals := 0 } s m args below meth c 1 D tA A (MQ below (QC0 D tA ad A shB (fun r G' => ∃ v, r = some (.int v) ∧ K v G')) args s 0 0 A) 0 0 ad 0 [some (.ref 0)] [] shB G0
  refine aw_aloadn C dX10_cause_0 rfl ?_
  refine aw_getR (r := 40) C dX10_cause_1 kcX10 shB_0 2 (by decide) rfl mF_X10_26 ?_
  refine aw_getI C dX10_cause_4 kcX5 (reportS_40 shOK_B).1 2 (by decide) rfl mF_X10_190 ?_
  exact aw_ireturn C hr dX10_cause_7 ⟨_, rfl, hw⟩
def w_X10_traced_B (K : Int32 → Gt → Prop) (G0 : Gt) : Prop :=
  K (G0 40 3) G0
set_option maxHeartbeats 4000000 in
set_option maxRecDepth 100000 in
theorem t_X10_traced_B {l : Launch}  (G0 : Gt) (K : Int32 → Gt → Prop) (hw : w_X10_traced_B K G0) : CT0 l yX10_traced cX10_traced 1 (some .int) 0 0 [.ref 0] shB G0 (fun r G' => ∃ v, r = some (.int v) ∧ K v G') := by
  refine CT0_of (by decide) (Nat.le_of_ble_eq_true rfl) rfl ?_
  intro p e s m args below meth c D tA ad A C hr _
  unfold w_X10_traced_B at hw
  show aw p l e { frames := 0, cells := 0, slots := 0, locals := 0 } s m args below meth c 1 D tA A (MQ below (QC0 D tA ad A shB (fun r G' => ∃ v, r = some (.int v) ∧ K v G')) args s 0 0 A) 0 0 ad 0 [some (.ref 0)] [] shB G0
  refine aw_aloadn C dX10_traced_0 rfl ?_
  refine aw_getR (r := 40) C dX10_traced_1 kcX10 shB_0 2 (by decide) rfl mF_X10_26 ?_
  refine aw_getI C dX10_traced_4 kcX5 (reportS_40 shOK_B).1 3 (by decide) rfl mF_X10_193 ?_
  exact aw_ireturn C hr dX10_traced_7 ⟨_, rfl, hw⟩
def w_X10_buffer_B (K : Int32 → Gt → Prop) (G0 : Gt) : Prop :=
  K (G0 19 7) G0
set_option maxHeartbeats 4000000 in
set_option maxRecDepth 100000 in
theorem t_X10_buffer_B {l : Launch}  (G0 : Gt) (K : Int32 → Gt → Prop) (hw : w_X10_buffer_B K G0) : CT0 l yX10_buffer cX10_buffer 1 (some .int) 0 0 [.ref 0] shB G0 (fun r G' => ∃ v, r = some (.int v) ∧ K v G') := by
  refine CT0_of (by decide) (Nat.le_of_ble_eq_true rfl) rfl ?_
  intro p e s m args below meth c D tA ad A C hr _
  unfold w_X10_buffer_B at hw
  show aw p l e { frames := 0, cells := 0, slots := 0, locals := 0 } s m args below meth c 1 D tA A (MQ below (QC0 D tA ad A shB (fun r G' => ∃ v, r = some (.int v) ∧ K v G')) args s 0 0 A) 0 0 ad 0 [some (.ref 0)] [] shB G0
  refine aw_aloadn C dX10_buffer_0 rfl ?_
  refine aw_getR (r := 19) C dX10_buffer_1 kcX10 shB_0 1 (by decide) rfl mF_X10_19 ?_
  refine aw_getI C dX10_buffer_4 kcX9 (worldS_19 shOK_B).1 7 (by decide) rfl mF_X10_199 ?_
  exact aw_ireturn C hr dX10_buffer_7 ⟨_, rfl, hw⟩
def w_X10_hook_B (K : Int32 → Gt → Prop) (G0 : Gt) : Prop :=
  K (G0 19 8) G0
set_option maxHeartbeats 4000000 in
set_option maxRecDepth 100000 in
theorem t_X10_hook_B {l : Launch}  (G0 : Gt) (K : Int32 → Gt → Prop) (hw : w_X10_hook_B K G0) : CT0 l yX10_hook cX10_hook 1 (some .int) 0 0 [.ref 0] shB G0 (fun r G' => ∃ v, r = some (.int v) ∧ K v G') := by
  refine CT0_of (by decide) (Nat.le_of_ble_eq_true rfl) rfl ?_
  intro p e s m args below meth c D tA ad A C hr _
  unfold w_X10_hook_B at hw
  show aw p l e { frames := 0, cells := 0, slots := 0, locals := 0 } s m args below meth c 1 D tA A (MQ below (QC0 D tA ad A shB (fun r G' => ∃ v, r = some (.int v) ∧ K v G')) args s 0 0 A) 0 0 ad 0 [some (.ref 0)] [] shB G0
  refine aw_aloadn C dX10_hook_0 rfl ?_
  refine aw_getR (r := 19) C dX10_hook_1 kcX10 shB_0 1 (by decide) rfl mF_X10_19 ?_
  refine aw_getI C dX10_hook_4 kcX9 (worldS_19 shOK_B).1 8 (by decide) rfl mF_X10_222 ?_
  exact aw_ireturn C hr dX10_hook_7 ⟨_, rfl, hw⟩
def w_X10_node_B (K : Int32 → Gt → Prop) (KX : Nat → Gt → Prop) (p0 : Int32) (p1 : Int32) (p2 : Int32) (p3 : Int32) (G0 : Gt) : Prop :=
  w_X4_lacksPart (fun v2 G1 =>
    pif (v2 = 0) (
      w_X4_isShaped (fun v4 G3 =>
        pif (v4 = 0) (
          KX 1 G3) (
          w_X4_hasRoom (fun v6 G5 =>
            pif (v6 = 0) (
              KX 2 G5) (
              w_X4_add (fun v8 G7 =>
                K v8 G7) p0 p1 p2 p3 G5)) p0 p1 p2 p3 G3)) p0 p1 p2 p3 G1) (
      KX 0 G1)) p0 p1 p2 p3 G0
set_option maxHeartbeats 4000000 in
set_option maxRecDepth 100000 in
theorem t_X10_node_B {l : Launch} (hlf : l.stackTraces = false)  (p0 : Int32) (p1 : Int32) (p2 : Int32) (p3 : Int32) (G0 : Gt) (K : Int32 → Gt → Prop) (KX : Nat → Gt → Prop) (hw : w_X10_node_B K KX p0 p1 p2 p3 G0) : CTX l yX10_node cX10_node 5 (some .int) 7 162 [.ref 0, .int p0, .int p1, .int p2, .int p3] shB G0 (fun r G' => ∃ v, r = some (.int v) ∧ K v G') KX := by
  refine CTX_of (by decide) (Nat.le_of_ble_eq_true rfl) rfl ?_
  intro p e s m args below meth c D tA ad A C hr hnt
  unfold w_X10_node_B at hw
  show aw p l e { frames := 7, cells := 1, slots := 6, locals := 162 } s m args below meth c 5 D tA A (vx_MQ below (QC0 D tA ad A shB (fun r G' => ∃ v, r = some (.int v) ∧ K v G')) (XQ D tA ad A shB KX) args s 1 6 A) 0 0 ad 0 [some (.ref 0), some (.int p0), some (.int p1), some (.int p2), some (.int p3)] [] shB G0
  refine aw_aloadn C dX10_node_0 rfl ?_
  refine aw_getR (r := 1) C dX10_node_1 kcX10 shB_0 0 (by decide) rfl mF_X10_12 ?_
  refine aw_iloadn C dX10_node_4 rfl ?_
  refine aw_iloadn C dX10_node_5 rfl ?_
  refine aw_iloadn C dX10_node_6 rfl ?_
  refine aw_iload C dX10_node_7 rfl ?_
  refine aw_callV C dX10_node_9 (t_X4_lacksPart shOK_B p0 p1 p2 p3 _ _ hw) mM_X10_37 bX4_lacksPart shB_1 rfl rfl ⟨Nat.le_of_ble_eq_true rfl, Nat.le_of_ble_eq_true rfl, Nat.zero_le _, Nat.zero_le _⟩ _ rfl (Nat.le_of_ble_eq_true rfl) (fun r9 G1 hq => ?_)
  obtain ⟨v2, rfl, hw⟩ := hq
  refine aw_if_eq C dX10_node_12 25 (by decide) hw (fun hc12 hw => ?_) (fun hc12 hw => ?_)
  · refine aw_aloadn C dX10_node_25 rfl ?_
    refine aw_getR (r := 1) C dX10_node_26 kcX10 shB_0 0 (by decide) rfl mF_X10_12 ?_
    refine aw_iloadn C dX10_node_29 rfl ?_
    refine aw_iloadn C dX10_node_30 rfl ?_
    refine aw_iloadn C dX10_node_31 rfl ?_
    refine aw_iload C dX10_node_32 rfl ?_
    refine aw_callV C dX10_node_34 (t_X4_isShaped shOK_B p0 p1 p2 p3 _ _ hw) mM_X10_48 bX4_isShaped shB_1 rfl rfl ⟨Nat.le_of_ble_eq_true rfl, Nat.le_of_ble_eq_true rfl, Nat.zero_le _, Nat.zero_le _⟩ _ rfl (Nat.le_of_ble_eq_true rfl) (fun r34 G3 hq => ?_)
    obtain ⟨v4, rfl, hw⟩ := hq
    refine aw_if_ne C dX10_node_37 50 (by decide) hw (fun hc37 hw => ?_) (fun hc37 hw => ?_)
    · refine aw_aloadn C dX10_node_50 rfl ?_
      refine aw_getR (r := 1) C dX10_node_51 kcX10 shB_0 0 (by decide) rfl mF_X10_12 ?_
      refine aw_iloadn C dX10_node_54 rfl ?_
      refine aw_iloadn C dX10_node_55 rfl ?_
      refine aw_iloadn C dX10_node_56 rfl ?_
      refine aw_iload C dX10_node_57 rfl ?_
      refine aw_callV C dX10_node_59 (t_X4_hasRoom shOK_B p0 p1 p2 p3 _ _ hw) mM_X10_56 bX4_hasRoom shB_1 rfl rfl ⟨Nat.le_of_ble_eq_true rfl, Nat.le_of_ble_eq_true rfl, Nat.zero_le _, Nat.zero_le _⟩ _ rfl (Nat.le_of_ble_eq_true rfl) (fun r59 G5 hq => ?_)
      obtain ⟨v6, rfl, hw⟩ := hq
      refine aw_if_ne C dX10_node_62 75 (by decide) hw (fun hc62 hw => ?_) (fun hc62 hw => ?_)
      · refine aw_aloadn C dX10_node_75 rfl ?_
        refine aw_getR (r := 1) C dX10_node_76 kcX10 shB_0 0 (by decide) rfl mF_X10_12 ?_
        refine aw_iloadn C dX10_node_79 rfl ?_
        refine aw_iloadn C dX10_node_80 rfl ?_
        refine aw_iloadn C dX10_node_81 rfl ?_
        refine aw_iload C dX10_node_82 rfl ?_
        refine aw_callV C dX10_node_84 (t_X4_add shOK_B p0 p1 p2 p3 _ _ hw) mM_X10_64 bX4_add shB_1 rfl rfl ⟨Nat.le_of_ble_eq_true rfl, Nat.le_of_ble_eq_true rfl, Nat.zero_le _, Nat.zero_le _⟩ _ rfl (Nat.le_of_ble_eq_true rfl) (fun r84 G7 hq => ?_)
        obtain ⟨v8, rfl, hw⟩ := hq
        exact aw_vx (Nat.zero_le _) (Nat.zero_le _) (aw_ireturn C hr dX10_node_87 ⟨_, rfl, hw⟩)
      · exact aw_throw (kE := 2) hlf C (by decide) (by decide +kernel) mC_X10_59 mI_java_lang_IllegalStateException mS_X10_61 xt_g2 xt_b2 xt_o2 dX10_node_65 dX10_node_68 dX10_node_69 dX10_node_71 dX10_node_74 hnt ⟨Nat.le_of_ble_eq_true rfl, Nat.le_of_ble_eq_true rfl, Nat.le_of_ble_eq_true rfl, Nat.le_of_ble_eq_true rfl⟩ (Nat.le_of_ble_eq_true rfl) (Nat.le_of_ble_eq_true rfl) hw
    · exact aw_throw (kE := 1) hlf C (by decide) (by decide +kernel) mC_X10_51 mI_java_lang_IllegalArgumentException mS_X10_53 xt_g1 xt_b1 xt_o1 dX10_node_40 dX10_node_43 dX10_node_44 dX10_node_46 dX10_node_49 hnt ⟨Nat.le_of_ble_eq_true rfl, Nat.le_of_ble_eq_true rfl, Nat.le_of_ble_eq_true rfl, Nat.le_of_ble_eq_true rfl⟩ (Nat.le_of_ble_eq_true rfl) (Nat.le_of_ble_eq_true rfl) hw
  · exact aw_throw (kE := 0) hlf C (by decide) (by decide +kernel) mC_X10_41 mI_java_lang_IndexOutOfBoundsException mS_X10_43 xt_g0 xt_b0 xt_o0 dX10_node_15 dX10_node_18 dX10_node_19 dX10_node_21 dX10_node_24 hnt ⟨Nat.le_of_ble_eq_true rfl, Nat.le_of_ble_eq_true rfl, Nat.le_of_ble_eq_true rfl, Nat.le_of_ble_eq_true rfl⟩ (Nat.le_of_ble_eq_true rfl) (Nat.le_of_ble_eq_true rfl) hw
def w_X10_isStepped_B_j12 (K : Int32 → Gt → Prop) (y0 : Int32) (G0 : Gt) : Prop :=
  bz y0 ∧ K y0 G0
def w_X10_isStepped_B (K : Int32 → Gt → Prop) (G0 : Gt) : Prop :=
  pif (G0 84 7 = 0) (
    w_X10_isStepped_B_j12 K 0 G0) (
    w_X10_isStepped_B_j12 K 1 G0)
set_option maxHeartbeats 4000000 in
set_option maxRecDepth 100000 in
theorem t_X10_isStepped_B {l : Launch}  (G0 : Gt) (K : Int32 → Gt → Prop) (hw : w_X10_isStepped_B K G0) : CT0 l yX10_isStepped cX10_isStepped 1 (some .boolean) 1 20 [.ref 0] shB G0 (fun r G' => ∃ v, r = some (.int v) ∧ K v G') := by
  refine CT0_of (by decide) (Nat.le_of_ble_eq_true rfl) rfl ?_
  intro p e s m args below meth c D tA ad A C hr _
  have h12 : ∀ (y0 : Int32) (G0 : Gt), w_X10_isStepped_B_j12 K y0 G0 → aw p l e { frames := 1, cells := 0, slots := 0, locals := 20 } s m args below meth c 1 D tA A (MQ below (QC0 D tA ad A shB (fun r G' => ∃ v, r = some (.int v) ∧ K v G')) args s 0 0 A) 0 0 ad 12 [none] [.int y0] shB G0 := by
    intro  y0 G0 hw
    unfold w_X10_isStepped_B_j12 at hw
    exact aw_zreturn C hr dX10_isStepped_12 (bz_n hw.1) ⟨_, rfl, hw.2⟩
  unfold w_X10_isStepped_B at hw
  show aw p l e { frames := 1, cells := 0, slots := 0, locals := 20 } s m args below meth c 1 D tA A (MQ below (QC0 D tA ad A shB (fun r G' => ∃ v, r = some (.int v) ∧ K v G')) args s 0 0 A) 0 0 ad 0 [some (.ref 0)] [] shB G0
  refine aw_aloadn C dX10_isStepped_0 rfl ?_
  refine aw_callV C dX10_isStepped_1 (t_stepped_B _) mM_X10_167 bX10_steppedMachine shB_0 rfl rfl ⟨Nat.le_of_ble_eq_true rfl, Nat.le_of_ble_eq_true rfl, Nat.zero_le _, Nat.zero_le _⟩ _ rfl (Nat.le_of_ble_eq_true rfl) (fun r1 G1x hq => ?_)
  obtain ⟨rfl, rfl⟩ := hq
  refine sw_if hw (fun hs1 hw => ?_) (fun hs1 hw => ?_)
  · rw [if_pos hs1]
    refine aw_ifnullN C 11 dX10_isStepped_4 (by decide) ?_
    refine aw_iconst (v := 0) C dX10_isStepped_11 (by decide) ?_
    exact aw_msk [false] (h12 0 _ hw)
  · rw [if_neg hs1]
    refine aw_ifnull C dX10_isStepped_4 ?_
    refine aw_iconst (v := 1) C dX10_isStepped_7 (by decide) ?_
    refine aw_goto (tgt := 12) C dX10_isStepped_8 (by decide) ?_
    exact aw_msk [false] (h12 1 _ hw)
def w_X10_size_B (K : Int32 → Gt → Prop) (KX : Nat → Gt → Prop) (p0 : Int32) (G0 : Gt) : Prop :=
  w_X4_has (fun v2 G1 =>
    pif (v2 = 0) (
      KX 0 G1) (
      K (rat G1 9 120 p0) G1)) p0 G0
set_option maxHeartbeats 4000000 in
set_option maxRecDepth 100000 in
theorem t_X10_size_B {l : Launch} (hlf : l.stackTraces = false)  (p0 : Int32) (G0 : Gt) (K : Int32 → Gt → Prop) (KX : Nat → Gt → Prop) (hw : w_X10_size_B K KX p0 G0) : CTX l yX10_size cX10_size 2 (some .int) 6 90 [.ref 0, .int p0] shB G0 (fun r G' => ∃ v, r = some (.int v) ∧ K v G') KX := by
  refine CTX_of (by decide) (Nat.le_of_ble_eq_true rfl) rfl ?_
  intro p e s m args below meth c D tA ad A C hr hnt
  unfold w_X10_size_B at hw
  show aw p l e { frames := 6, cells := 1, slots := 6, locals := 90 } s m args below meth c 2 D tA A (vx_MQ below (QC0 D tA ad A shB (fun r G' => ∃ v, r = some (.int v) ∧ K v G')) (XQ D tA ad A shB KX) args s 1 6 A) 0 0 ad 0 [some (.ref 0), some (.int p0)] [] shB G0
  refine aw_aloadn C dX10_size_0 rfl ?_
  refine aw_getR (r := 1) C dX10_size_1 kcX10 shB_0 0 (by decide) rfl mF_X10_12 ?_
  refine aw_iloadn C dX10_size_4 rfl ?_
  refine aw_callV C dX10_size_5 (t_X4_has shOK_B p0 _ _ hw) mM_X10_72 bX4_has shB_1 rfl rfl ⟨Nat.le_of_ble_eq_true rfl, Nat.le_of_ble_eq_true rfl, Nat.zero_le _, Nat.zero_le _⟩ _ rfl (Nat.le_of_ble_eq_true rfl) (fun r5 G1 hq => ?_)
  obtain ⟨v2, rfl, hw⟩ := hq
  refine aw_if_ne C dX10_size_8 21 (by decide) hw (fun hc8 hw => ?_) (fun hc8 hw => ?_)
  · refine aw_aloadn C dX10_size_21 rfl ?_
    refine aw_getR (r := 1) C dX10_size_22 kcX10 shB_0 0 (by decide) rfl mF_X10_12 ?_
    refine aw_getR (r := 8) C dX10_size_25 kcX4 shB_1 3 (by decide) rfl mF_X10_106 ?_
    refine aw_iloadn C dX10_size_28 rfl ?_
    refine aw_callV C dX10_size_29 (t_at (rowS_8 shOK_B) (Nat.le_of_ble_eq_true rfl) p0 _) mM_X10_90 bX6_at (rowS_8 shOK_B).1 rfl rfl ⟨Nat.le_of_ble_eq_true rfl, Nat.le_of_ble_eq_true rfl, Nat.zero_le _, Nat.zero_le _⟩ _ rfl (Nat.le_of_ble_eq_true rfl) (fun r29 G29x hq => ?_)
    obtain ⟨rfl, rfl⟩ := hq
    exact aw_vx (Nat.zero_le _) (Nat.zero_le _) (aw_ireturn C hr dX10_size_32 ⟨_, rfl, hw⟩)
  · exact aw_throw (kE := 0) hlf C (by decide) (by decide +kernel) mC_X10_41 mI_java_lang_IndexOutOfBoundsException mS_X10_43 xt_g0 xt_b0 xt_o0 dX10_size_11 dX10_size_14 dX10_size_15 dX10_size_17 dX10_size_20 hnt ⟨Nat.le_of_ble_eq_true rfl, Nat.le_of_ble_eq_true rfl, Nat.le_of_ble_eq_true rfl, Nat.le_of_ble_eq_true rfl⟩ (Nat.le_of_ble_eq_true rfl) (Nat.le_of_ble_eq_true rfl) hw
def w_X10_setOption_B (K : Int32 → Gt → Prop) (KX : Nat → Gt → Prop) (p0 : Int32) (p1 : Int32) (G0 : Gt) : Prop :=
  pif ((ibl p0 4) = 0) (
    KX 0 G0) (
    pif ((inm p1) = 0) (
      KX 1 G0) (
      w_X10_isStepped_B (fun v2 G1 =>
        pif (v2 = 0) (
          pt (rput G1 31 4 p0 p1) fun G3 =>
          K (rat G1 31 4 p0) G3) (
          KX 2 G1)) G0))
set_option maxHeartbeats 4000000 in
set_option maxRecDepth 100000 in
theorem t_X10_setOption_B {l : Launch} (hlf : l.stackTraces = false)  (p0 : Int32) (p1 : Int32) (G0 : Gt) (K : Int32 → Gt → Prop) (KX : Nat → Gt → Prop) (hw : w_X10_setOption_B K KX p0 p1 G0) : CTX l yX10_setOption cX10_setOption 4 (some .int) 6 90 [.ref 0, .int p0, .int p1] shB G0 (fun r G' => ∃ v, r = some (.int v) ∧ K v G') KX := by
  refine CTX_of (by decide) (Nat.le_of_ble_eq_true rfl) rfl ?_
  intro p e s m args below meth c D tA ad A C hr hnt
  unfold w_X10_setOption_B at hw
  show aw p l e { frames := 6, cells := 1, slots := 6, locals := 90 } s m args below meth c 4 D tA A (vx_MQ below (QC0 D tA ad A shB (fun r G' => ∃ v, r = some (.int v) ∧ K v G')) (XQ D tA ad A shB KX) args s 1 6 A) 0 0 ad 0 [some (.ref 0), some (.int p0), some (.int p1), none] [] shB G0
  refine aw_iloadn C dX10_setOption_0 rfl ?_
  refine aw_iconst (v := 4) C dX10_setOption_1 (by decide) ?_
  refine aw_callS C dX10_setOption_2 (t_isBelow p0 4 _) mM_X10_68 bX10_isBelow rfl rfl ⟨Nat.le_of_ble_eq_true rfl, Nat.le_of_ble_eq_true rfl, Nat.zero_le _, Nat.zero_le _⟩ _ rfl (Nat.le_of_ble_eq_true rfl) (fun r2 G2x hq => ?_)
  obtain ⟨rfl, rfl⟩ := hq
  refine aw_if_ne C dX10_setOption_5 18 (by decide) hw (fun hc5 hw => ?_) (fun hc5 hw => ?_)
  · refine aw_iloadn C dX10_setOption_18 rfl ?_
    refine aw_callS C dX10_setOption_19 (t_isNumber p1 _) mM_X10_111 bX10_isNumber rfl rfl ⟨Nat.le_of_ble_eq_true rfl, Nat.le_of_ble_eq_true rfl, Nat.zero_le _, Nat.zero_le _⟩ _ rfl (Nat.le_of_ble_eq_true rfl) (fun r19 G19x hq => ?_)
    obtain ⟨rfl, rfl⟩ := hq
    refine aw_if_ne C dX10_setOption_22 35 (by decide) hw (fun hc22 hw => ?_) (fun hc22 hw => ?_)
    · refine aw_aloadn C dX10_setOption_35 rfl ?_
      refine aw_callV C dX10_setOption_36 (t_X10_isStepped_B _ _ hw) mM_X10_80 bX10_isStepped shB_0 rfl rfl ⟨Nat.le_of_ble_eq_true rfl, Nat.le_of_ble_eq_true rfl, Nat.zero_le _, Nat.zero_le _⟩ _ rfl (Nat.le_of_ble_eq_true rfl) (fun r36 G1 hq => ?_)
      obtain ⟨v2, rfl, hw⟩ := hq
      refine aw_if_eq C dX10_setOption_39 52 (by decide) hw (fun hc39 hw => ?_) (fun hc39 hw => ?_)
      · refine aw_aloadn C dX10_setOption_52 rfl ?_
        refine aw_getR (r := 19) C dX10_setOption_53 kcX10 shB_0 1 (by decide) rfl mF_X10_19 ?_
        refine aw_getR (r := 30) C dX10_setOption_56 kcX9 (worldS_19 shOK_B).1 2 (by decide) rfl mF_X10_116 ?_
        refine aw_iloadn C dX10_setOption_59 rfl ?_
        refine aw_callV C dX10_setOption_60 (t_at (rowS_30 shOK_B) (Nat.le_of_ble_eq_true rfl) p0 _) mM_X10_90 bX6_at (rowS_30 shOK_B).1 rfl rfl ⟨Nat.le_of_ble_eq_true rfl, Nat.le_of_ble_eq_true rfl, Nat.zero_le _, Nat.zero_le _⟩ _ rfl (Nat.le_of_ble_eq_true rfl) (fun r60 G60x hq => ?_)
        obtain ⟨rfl, rfl⟩ := hq
        refine aw_istoren C dX10_setOption_63 (by decide) rfl ?_
        refine aw_aloadn C dX10_setOption_64 rfl ?_
        refine aw_getR (r := 19) C dX10_setOption_65 kcX10 shB_0 1 (by decide) rfl mF_X10_19 ?_
        refine aw_getR (r := 30) C dX10_setOption_68 kcX9 (worldS_19 shOK_B).1 2 (by decide) rfl mF_X10_116 ?_
        refine aw_iloadn C dX10_setOption_71 rfl ?_
        refine aw_iloadn C dX10_setOption_72 rfl ?_
        refine aw_callV C dX10_setOption_73 (t_put (rowS_30 shOK_B) (Nat.le_of_ble_eq_true rfl) p0 p1 _) mM_X10_96 bX6_put (rowS_30 shOK_B).1 rfl rfl ⟨Nat.le_of_ble_eq_true rfl, Nat.le_of_ble_eq_true rfl, Nat.zero_le _, Nat.zero_le _⟩ _ rfl (Nat.le_of_ble_eq_true rfl) (fun r73 G3 hq => ?_)
        obtain ⟨rfl, hq⟩ := hq
        replace hw := pt_eq hw hq
        refine aw_iloadn C dX10_setOption_76 rfl ?_
        exact aw_vx (Nat.zero_le _) (Nat.zero_le _) (aw_ireturn C hr dX10_setOption_77 ⟨_, rfl, hw⟩)
      · exact aw_throw (kE := 2) hlf C (by decide) (by decide +kernel) mC_X10_59 mI_java_lang_IllegalStateException mS_X10_84 xt_g2 xt_b2 xt_o2 dX10_setOption_42 dX10_setOption_45 dX10_setOption_46 dX10_setOption_48 dX10_setOption_51 hnt ⟨Nat.le_of_ble_eq_true rfl, Nat.le_of_ble_eq_true rfl, Nat.le_of_ble_eq_true rfl, Nat.le_of_ble_eq_true rfl⟩ (Nat.le_of_ble_eq_true rfl) (Nat.le_of_ble_eq_true rfl) hw
    · exact aw_throw (kE := 1) hlf C (by decide) (by decide +kernel) mC_X10_51 mI_java_lang_IllegalArgumentException mS_X10_114 xt_g1 xt_b1 xt_o1 dX10_setOption_25 dX10_setOption_28 dX10_setOption_29 dX10_setOption_31 dX10_setOption_34 hnt ⟨Nat.le_of_ble_eq_true rfl, Nat.le_of_ble_eq_true rfl, Nat.le_of_ble_eq_true rfl, Nat.le_of_ble_eq_true rfl⟩ (Nat.le_of_ble_eq_true rfl) (Nat.le_of_ble_eq_true rfl) hw
  · exact aw_throw (kE := 0) hlf C (by decide) (by decide +kernel) mC_X10_41 mI_java_lang_IndexOutOfBoundsException mS_X10_109 xt_g0 xt_b0 xt_o0 dX10_setOption_8 dX10_setOption_11 dX10_setOption_12 dX10_setOption_14 dX10_setOption_17 hnt ⟨Nat.le_of_ble_eq_true rfl, Nat.le_of_ble_eq_true rfl, Nat.le_of_ble_eq_true rfl, Nat.le_of_ble_eq_true rfl⟩ (Nat.le_of_ble_eq_true rfl) (Nat.le_of_ble_eq_true rfl) hw
def w_X10_setBudget_B (K : Int32 → Gt → Prop) (KX : Nat → Gt → Prop) (p0 : Int32) (G0 : Gt) : Prop :=
  pif ((iam p0) = 0) (
    KX 1 G0) (
    pt (gu G0 0 4 p0) fun G1 =>
    K (G0 0 4) G1)
set_option maxHeartbeats 4000000 in
set_option maxRecDepth 100000 in
theorem t_X10_setBudget_B {l : Launch} (hlf : l.stackTraces = false)  (p0 : Int32) (G0 : Gt) (K : Int32 → Gt → Prop) (KX : Nat → Gt → Prop) (hw : w_X10_setBudget_B K KX p0 G0) : CTX l yX10_setBudget cX10_setBudget 3 (some .int) 6 90 [.ref 0, .int p0] shB G0 (fun r G' => ∃ v, r = some (.int v) ∧ K v G') KX := by
  refine CTX_of (by decide) (Nat.le_of_ble_eq_true rfl) rfl ?_
  intro p e s m args below meth c D tA ad A C hr hnt
  unfold w_X10_setBudget_B at hw
  show aw p l e { frames := 6, cells := 1, slots := 6, locals := 90 } s m args below meth c 3 D tA A (vx_MQ below (QC0 D tA ad A shB (fun r G' => ∃ v, r = some (.int v) ∧ K v G')) (XQ D tA ad A shB KX) args s 1 6 A) 0 0 ad 0 [some (.ref 0), some (.int p0), none] [] shB G0
  refine aw_iloadn C dX10_setBudget_0 rfl ?_
  refine aw_callS C dX10_setBudget_1 (t_isAmount p0 _) mM_X10_119 bX10_isAmount rfl rfl ⟨Nat.le_of_ble_eq_true rfl, Nat.le_of_ble_eq_true rfl, Nat.zero_le _, Nat.zero_le _⟩ _ rfl (Nat.le_of_ble_eq_true rfl) (fun r1 G1x hq => ?_)
  obtain ⟨rfl, rfl⟩ := hq
  refine aw_if_ne C dX10_setBudget_4 17 (by decide) hw (fun hc4 hw => ?_) (fun hc4 hw => ?_)
  · refine aw_aloadn C dX10_setBudget_17 rfl ?_
    refine aw_getI C dX10_setBudget_18 kcX10 shB_0 4 (by decide) rfl mF_X10_33 ?_
    refine aw_istoren C dX10_setBudget_21 (by decide) rfl ?_
    refine aw_aloadn C dX10_setBudget_22 rfl ?_
    refine aw_iloadn C dX10_setBudget_23 rfl ?_
    refine aw_putI C dX10_setBudget_24 kcX10 shB_0 4 (by decide) rfl mF_X10_33 rfl rfl rfl hw (fun G1 hw => ?_)
    refine aw_iloadn C dX10_setBudget_27 rfl ?_
    exact aw_vx (Nat.zero_le _) (Nat.zero_le _) (aw_ireturn C hr dX10_setBudget_28 ⟨_, rfl, hw⟩)
  · exact aw_throw (kE := 1) hlf C (by decide) (by decide +kernel) mC_X10_51 mI_java_lang_IllegalArgumentException mS_X10_122 xt_g1 xt_b1 xt_o1 dX10_setBudget_7 dX10_setBudget_10 dX10_setBudget_11 dX10_setBudget_13 dX10_setBudget_16 hnt ⟨Nat.le_of_ble_eq_true rfl, Nat.le_of_ble_eq_true rfl, Nat.le_of_ble_eq_true rfl, Nat.le_of_ble_eq_true rfl⟩ (Nat.le_of_ble_eq_true rfl) (Nat.le_of_ble_eq_true rfl) hw
def w_X10_write_B_j62 (K : Int32 → Gt → Prop) (KX : Nat → Gt → Prop)  (G0 : Gt) : Prop :=
  KX 2 G0
def w_X10_write_B (K : Int32 → Gt → Prop) (KX : Nat → Gt → Prop) (p0 : Int32) (p1 : Int32) (G0 : Gt) : Prop :=
  pif ((ibl p0 2) = 0) (
    KX 0 G0) (
    pif ((ibl p1 26) = 0) (
      KX 1 G0) (
      pif (40 ≤ (G0 (txo 19 p0) 2)) (
        w_X10_write_B_j62 K KX G0) (
        w_X10_isStepped_B (fun v2 G1 =>
          pif (v2 = 0) (
            w_X8_append (txo 19 p0) (fun G3 =>
              K (G3 (txo 19 p0) 2) G3) p1 G1) (
            w_X10_write_B_j62 K KX G1)) G0)))
set_option maxHeartbeats 4000000 in
set_option maxRecDepth 100000 in
theorem t_X10_write_B {l : Launch} (hlf : l.stackTraces = false)  (p0 : Int32) (p1 : Int32) (G0 : Gt) (K : Int32 → Gt → Prop) (KX : Nat → Gt → Prop) (hw : w_X10_write_B K KX p0 p1 G0) : CTX l yX10_write cX10_write 4 (some .int) 6 90 [.ref 0, .int p0, .int p1] shB G0 (fun r G' => ∃ v, r = some (.int v) ∧ K v G') KX := by
  refine CTX_of (by decide) (Nat.le_of_ble_eq_true rfl) rfl ?_
  intro p e s m args below meth c D tA ad A C hr hnt
  have h62 : ∀ (G0 : Gt), w_X10_write_B_j62 K KX  G0 → aw p l e { frames := 6, cells := 1, slots := 6, locals := 90 } s m args below meth c 4 D tA A (vx_MQ below (QC0 D tA ad A shB (fun r G' => ∃ v, r = some (.int v) ∧ K v G')) (XQ D tA ad A shB KX) args s 1 6 A) 0 0 ad 62 [none, none, none, none] [] shB G0 := by
    intro   G0 hw
    unfold w_X10_write_B_j62 at hw
    exact aw_throw (kE := 2) hlf C (by decide) (by decide +kernel) mC_X10_59 mI_java_lang_IllegalStateException mS_X10_137 xt_g2 xt_b2 xt_o2 dX10_write_62 dX10_write_65 dX10_write_66 dX10_write_68 dX10_write_71 hnt ⟨Nat.le_of_ble_eq_true rfl, Nat.le_of_ble_eq_true rfl, Nat.le_of_ble_eq_true rfl, Nat.le_of_ble_eq_true rfl⟩ (Nat.le_of_ble_eq_true rfl) (Nat.le_of_ble_eq_true rfl) hw
  unfold w_X10_write_B at hw
  show aw p l e { frames := 6, cells := 1, slots := 6, locals := 90 } s m args below meth c 4 D tA A (vx_MQ below (QC0 D tA ad A shB (fun r G' => ∃ v, r = some (.int v) ∧ K v G')) (XQ D tA ad A shB KX) args s 1 6 A) 0 0 ad 0 [some (.ref 0), some (.int p0), some (.int p1), none] [] shB G0
  refine aw_iloadn C dX10_write_0 rfl ?_
  refine aw_iconst (v := 2) C dX10_write_1 (by decide) ?_
  refine aw_callS C dX10_write_2 (t_isBelow p0 2 _) mM_X10_68 bX10_isBelow rfl rfl ⟨Nat.le_of_ble_eq_true rfl, Nat.le_of_ble_eq_true rfl, Nat.zero_le _, Nat.zero_le _⟩ _ rfl (Nat.le_of_ble_eq_true rfl) (fun r2 G2x hq => ?_)
  obtain ⟨rfl, rfl⟩ := hq
  refine aw_if_ne C dX10_write_5 18 (by decide) hw (fun hc5 hw => ?_) (fun hc5 hw => ?_)
  · refine aw_iloadn C dX10_write_18 rfl ?_
    refine aw_bipush (v := 26) C dX10_write_19 (by decide) ?_
    refine aw_callS C dX10_write_21 (t_isBelow p1 26 _) mM_X10_68 bX10_isBelow rfl rfl ⟨Nat.le_of_ble_eq_true rfl, Nat.le_of_ble_eq_true rfl, Nat.zero_le _, Nat.zero_le _⟩ _ rfl (Nat.le_of_ble_eq_true rfl) (fun r21 G21x hq => ?_)
    obtain ⟨rfl, rfl⟩ := hq
    refine aw_if_ne C dX10_write_24 37 (by decide) hw (fun hc24 hw => ?_) (fun hc24 hw => ?_)
    · refine aw_aloadn C dX10_write_37 rfl ?_
      refine aw_getR (r := 19) C dX10_write_38 kcX10 shB_0 1 (by decide) rfl mF_X10_19 ?_
      refine aw_iloadn C dX10_write_41 rfl ?_
      refine aw_callV C dX10_write_42 (t_textOf (worldS_19 shOK_B) p0 _) mM_X10_128 bX9_textOf (worldS_19 shOK_B).1 rfl rfl ⟨Nat.le_of_ble_eq_true rfl, Nat.le_of_ble_eq_true rfl, Nat.zero_le _, Nat.zero_le _⟩ _ rfl (Nat.le_of_ble_eq_true rfl) (fun r42 G42x hq => ?_)
      obtain ⟨rfl, rfl⟩ := hq
      refine aw_astoren C dX10_write_45 (by decide) rfl ?_
      refine aw_aloadn C dX10_write_46 rfl ?_
      refine aw_getI C dX10_write_47 kcX8 (text_txo (worldS_19 shOK_B) p0).1 2 (by decide) rfl mF_X10_132 ?_
      refine aw_bipush (v := 40) C dX10_write_50 (by decide) ?_
      refine aw_ic_ge C dX10_write_52 62 (by decide) hw (fun hc52 hw => ?_) (fun hc52 hw => ?_)
      · exact aw_msk [false, false, false, false] (h62 _ hw)
      · refine aw_aloadn C dX10_write_55 rfl ?_
        refine aw_callV C dX10_write_56 (t_X10_isStepped_B _ _ hw) mM_X10_80 bX10_isStepped shB_0 rfl rfl ⟨Nat.le_of_ble_eq_true rfl, Nat.le_of_ble_eq_true rfl, Nat.zero_le _, Nat.zero_le _⟩ _ rfl (Nat.le_of_ble_eq_true rfl) (fun r56 G1 hq => ?_)
        obtain ⟨v2, rfl, hw⟩ := hq
        refine aw_if_eq C dX10_write_59 72 (by decide) hw (fun hc59 hw => ?_) (fun hc59 hw => ?_)
        · refine aw_aloadn C dX10_write_72 rfl ?_
          refine aw_iloadn C dX10_write_73 rfl ?_
          refine aw_callV C dX10_write_74 (t_X8_append (text_txo (worldS_19 shOK_B) p0) p1 _ _ hw) mM_X10_139 bX8_append (text_txo (worldS_19 shOK_B) p0).1 rfl rfl ⟨Nat.le_of_ble_eq_true rfl, Nat.le_of_ble_eq_true rfl, Nat.zero_le _, Nat.zero_le _⟩ _ rfl (Nat.le_of_ble_eq_true rfl) (fun r74 G3 hq => ?_)
          obtain ⟨rfl, hw⟩ := hq
          refine aw_aloadn C dX10_write_77 rfl ?_
          refine aw_getI C dX10_write_78 kcX8 (text_txo (worldS_19 shOK_B) p0).1 2 (by decide) rfl mF_X10_132 ?_
          exact aw_vx (Nat.zero_le _) (Nat.zero_le _) (aw_ireturn C hr dX10_write_81 ⟨_, rfl, hw⟩)
        · exact aw_msk [false, false, false, false] (h62 _ hw)
    · exact aw_throw (kE := 1) hlf C (by decide) (by decide +kernel) mC_X10_51 mI_java_lang_IllegalArgumentException mS_X10_126 xt_g1 xt_b1 xt_o1 dX10_write_27 dX10_write_30 dX10_write_31 dX10_write_33 dX10_write_36 hnt ⟨Nat.le_of_ble_eq_true rfl, Nat.le_of_ble_eq_true rfl, Nat.le_of_ble_eq_true rfl, Nat.le_of_ble_eq_true rfl⟩ (Nat.le_of_ble_eq_true rfl) (Nat.le_of_ble_eq_true rfl) hw
  · exact aw_throw (kE := 0) hlf C (by decide) (by decide +kernel) mC_X10_41 mI_java_lang_IndexOutOfBoundsException mS_X10_124 xt_g0 xt_b0 xt_o0 dX10_write_8 dX10_write_11 dX10_write_12 dX10_write_14 dX10_write_17 hnt ⟨Nat.le_of_ble_eq_true rfl, Nat.le_of_ble_eq_true rfl, Nat.le_of_ble_eq_true rfl, Nat.le_of_ble_eq_true rfl⟩ (Nat.le_of_ble_eq_true rfl) (Nat.le_of_ble_eq_true rfl) hw
def w_X10_readyMachine_B_j30 (K : Gt → Prop)  (G0 : Gt) : Prop :=
  K G0
def w_X10_readyMachine_B (K : Gt → Prop) (G0 : Gt) : Prop :=
  w_X10_readyMachine_B_j30 K G0
set_option maxHeartbeats 4000000 in
set_option maxRecDepth 100000 in
theorem t_X10_readyMachine_B {l : Launch}  (G0 : Gt) (K : Gt → Prop) (hw : w_X10_readyMachine_B K G0) : CT0 l yX10_readyMachine cX10_readyMachine 1 (some (.object "Macroloom$Machine")) 0 0 [.ref 0] shB G0 (fun r G' => r = some (.ref 84) ∧ K G') := by
  refine CT0_of (by decide) (Nat.le_of_ble_eq_true rfl) rfl ?_
  intro p e s m args below meth c D tA ad A C hr _
  have h30 : ∀ (G0 : Gt), w_X10_readyMachine_B_j30 K  G0 → aw p l e { frames := 0, cells := 0, slots := 0, locals := 0 } s m args below meth c 1 D tA A (MQ below (QC0 D tA ad A shB (fun r G' => r = some (.ref 84) ∧ K G')) args s 0 0 A) 0 0 ad 30 [some (.ref 0)] [] shB G0 := by
    intro   G0 hw
    unfold w_X10_readyMachine_B_j30 at hw
    refine aw_aloadn C dX10_readyMachine_30 rfl ?_
    refine aw_getR (r := 84) C dX10_readyMachine_31 kcX10 shB_0 5 (by decide) rfl mF_X10_225 ?_
    exact aw_areturn C hr dX10_readyMachine_34 (Or.inr ⟨_, rfl⟩) ⟨rfl, hw⟩
  unfold w_X10_readyMachine_B at hw
  show aw p l e { frames := 0, cells := 0, slots := 0, locals := 0 } s m args below meth c 1 D tA A (MQ below (QC0 D tA ad A shB (fun r G' => r = some (.ref 84) ∧ K G')) args s 0 0 A) 0 0 ad 0 [some (.ref 0)] [] shB G0
  refine aw_aloadn C dX10_readyMachine_0 rfl ?_
  refine aw_getR (r := 84) C dX10_readyMachine_1 kcX10 shB_0 5 (by decide) rfl mF_X10_225 ?_
  refine aw_ifnonnull C 30 dX10_readyMachine_4 (by decide) ?_
  exact aw_msk [true] (h30 _ hw)
def w_X10_tryOut_B (K : Gt → Prop) (p0 : Int32) (G0 : Gt) : Prop :=
  w_X10_readyMachine_B (fun G1 =>
    w_X2_open 43 (fun G2 =>
      w_X2_advance (fun v4 G3 =>
        w_X9_become 19 85 (fun G5 =>
          K G5) G3) 601 0 G2) p0 (G1 0 4) G1) G0
set_option maxHeartbeats 4000000 in
set_option maxRecDepth 100000 in
theorem t_X10_tryOut_B {l : Launch}  (p0 : Int32) (G0 : Gt) (K : Gt → Prop) (hw : w_X10_tryOut_B K p0 G0) : CT0 l yX10_tryOut cX10_tryOut 3 (some (.object "Macroloom$Report")) 6 153 [.ref 0, .int p0] shB G0 (fun r G' => r = some (.ref 43) ∧ K G') := by
  refine CT0_of (by decide) (Nat.le_of_ble_eq_true rfl) rfl ?_
  intro p e s m args below meth c D tA ad A C hr _
  unfold w_X10_tryOut_B at hw
  show aw p l e { frames := 6, cells := 0, slots := 0, locals := 153 } s m args below meth c 3 D tA A (MQ below (QC0 D tA ad A shB (fun r G' => r = some (.ref 43) ∧ K G')) args s 0 0 A) 0 0 ad 0 [some (.ref 0), some (.int p0), none] [] shB G0
  refine aw_aloadn C dX10_tryOut_0 rfl ?_
  refine aw_callV C dX10_tryOut_1 (t_X10_readyMachine_B _ _ hw) mM_X10_143 bX10_readyMachine shB_0 rfl rfl ⟨Nat.le_of_ble_eq_true rfl, Nat.le_of_ble_eq_true rfl, Nat.zero_le _, Nat.zero_le _⟩ _ rfl (Nat.le_of_ble_eq_true rfl) (fun r1 G1 hq => ?_)
  obtain ⟨rfl, hw⟩ := hq
  refine aw_astoren C dX10_tryOut_4 (by decide) rfl ?_
  refine aw_aloadn C dX10_tryOut_5 rfl ?_
  refine aw_iloadn C dX10_tryOut_6 rfl ?_
  refine aw_aloadn C dX10_tryOut_7 rfl ?_
  refine aw_getI C dX10_tryOut_8 kcX10 shB_0 4 (by decide) rfl mF_X10_33 ?_
  refine aw_aloadn C dX10_tryOut_11 rfl ?_
  refine aw_getR (r := 43) C dX10_tryOut_12 kcX10 shB_0 3 (by decide) rfl mF_X10_30 ?_
  refine aw_callV C dX10_tryOut_15 (t_X2_open (Or.inr rfl) p0 (G1 0 4) _ _ hw) mM_X10_147 bX2_open shB_84 rfl rfl ⟨Nat.le_of_ble_eq_true rfl, Nat.le_of_ble_eq_true rfl, Nat.zero_le _, Nat.zero_le _⟩ _ rfl (Nat.le_of_ble_eq_true rfl) (fun r15 G2 hq => ?_)
  obtain ⟨rfl, hw⟩ := hq
  refine aw_aloadn C dX10_tryOut_18 rfl ?_
  refine aw_sipush (v := 601) C dX10_tryOut_19 (by decide) ?_
  refine aw_iconst (v := 0) C dX10_tryOut_22 (by decide) ?_
  refine aw_callV C dX10_tryOut_23 (t_X2_advance 601 0 _ _ hw) mM_X10_153 bX2_advance shB_84 rfl rfl ⟨Nat.le_of_ble_eq_true rfl, Nat.le_of_ble_eq_true rfl, Nat.zero_le _, Nat.zero_le _⟩ _ rfl (Nat.le_of_ble_eq_true rfl) (fun r23 G3 hq => ?_)
  obtain ⟨v4, rfl, hw⟩ := hq
  refine aw_pop C dX10_tryOut_26 rfl ?_
  refine aw_aloadn C dX10_tryOut_27 rfl ?_
  refine aw_getR (r := 19) C dX10_tryOut_28 kcX10 shB_0 1 (by decide) rfl mF_X10_19 ?_
  refine aw_aloadn C dX10_tryOut_31 rfl ?_
  refine aw_getR (r := 85) C dX10_tryOut_32 kcX2 shB_84 2 (by decide) rfl mF_X10_236 ?_
  refine aw_callV C dX10_tryOut_35 (t_X9_become (worldS_19 shOK_B) worldB_85 _ _ hw) mM_X10_239 bX9_become (worldS_19 shOK_B).1 rfl rfl ⟨Nat.le_of_ble_eq_true rfl, Nat.le_of_ble_eq_true rfl, Nat.zero_le _, Nat.zero_le _⟩ _ rfl (Nat.le_of_ble_eq_true rfl) (fun r35 G5 hq => ?_)
  obtain ⟨rfl, hw⟩ := hq
  refine aw_aloadn C dX10_tryOut_38 rfl ?_
  refine aw_getR (r := 43) C dX10_tryOut_39 kcX10 shB_0 3 (by decide) rfl mF_X10_30 ?_
  exact aw_areturn C hr dX10_tryOut_42 (Or.inr ⟨_, rfl⟩) ⟨rfl, hw⟩
def w_X10_triedSteps_B (K : Int32 → Gt → Prop) (KX : Nat → Gt → Prop) (p0 : Int32) (G0 : Gt) : Prop :=
  w_X4_has (fun v2 G1 =>
    pif (v2 = 0) (
      KX 0 G1) (
      w_X10_isStepped_B (fun v4 G3 =>
        pif (v4 = 0) (
          w_X10_tryOut_B (fun G5 =>
            K (G5 43 1) G5) p0 G3) (
          KX 2 G3)) G1)) p0 G0
set_option maxHeartbeats 4000000 in
set_option maxRecDepth 100000 in
theorem t_X10_triedSteps_B {l : Launch} (hlf : l.stackTraces = false)  (p0 : Int32) (G0 : Gt) (K : Int32 → Gt → Prop) (KX : Nat → Gt → Prop) (hw : w_X10_triedSteps_B K KX p0 G0) : CTX l yX10_triedSteps cX10_triedSteps 2 (some .int) 7 175 [.ref 0, .int p0] shB G0 (fun r G' => ∃ v, r = some (.int v) ∧ K v G') KX := by
  refine CTX_of (by decide) (Nat.le_of_ble_eq_true rfl) rfl ?_
  intro p e s m args below meth c D tA ad A C hr hnt
  unfold w_X10_triedSteps_B at hw
  show aw p l e { frames := 7, cells := 1, slots := 6, locals := 175 } s m args below meth c 2 D tA A (vx_MQ below (QC0 D tA ad A shB (fun r G' => ∃ v, r = some (.int v) ∧ K v G')) (XQ D tA ad A shB KX) args s 1 6 A) 0 0 ad 0 [some (.ref 0), some (.int p0)] [] shB G0
  refine aw_aloadn C dX10_triedSteps_0 rfl ?_
  refine aw_getR (r := 1) C dX10_triedSteps_1 kcX10 shB_0 0 (by decide) rfl mF_X10_12 ?_
  refine aw_iloadn C dX10_triedSteps_4 rfl ?_
  refine aw_callV C dX10_triedSteps_5 (t_X4_has shOK_B p0 _ _ hw) mM_X10_72 bX4_has shB_1 rfl rfl ⟨Nat.le_of_ble_eq_true rfl, Nat.le_of_ble_eq_true rfl, Nat.zero_le _, Nat.zero_le _⟩ _ rfl (Nat.le_of_ble_eq_true rfl) (fun r5 G1 hq => ?_)
  obtain ⟨v2, rfl, hw⟩ := hq
  refine aw_if_ne C dX10_triedSteps_8 21 (by decide) hw (fun hc8 hw => ?_) (fun hc8 hw => ?_)
  · refine aw_aloadn C dX10_triedSteps_21 rfl ?_
    refine aw_callV C dX10_triedSteps_22 (t_X10_isStepped_B _ _ hw) mM_X10_80 bX10_isStepped shB_0 rfl rfl ⟨Nat.le_of_ble_eq_true rfl, Nat.le_of_ble_eq_true rfl, Nat.zero_le _, Nat.zero_le _⟩ _ rfl (Nat.le_of_ble_eq_true rfl) (fun r22 G3 hq => ?_)
    obtain ⟨v4, rfl, hw⟩ := hq
    refine aw_if_eq C dX10_triedSteps_25 38 (by decide) hw (fun hc25 hw => ?_) (fun hc25 hw => ?_)
    · refine aw_aloadn C dX10_triedSteps_38 rfl ?_
      refine aw_iloadn C dX10_triedSteps_39 rfl ?_
      refine aw_callV C dX10_triedSteps_40 (t_X10_tryOut_B p0 _ _ hw) mM_X10_160 bX10_tryOut shB_0 rfl rfl ⟨Nat.le_of_ble_eq_true rfl, Nat.le_of_ble_eq_true rfl, Nat.zero_le _, Nat.zero_le _⟩ _ rfl (Nat.le_of_ble_eq_true rfl) (fun r40 G5 hq => ?_)
      obtain ⟨rfl, hw⟩ := hq
      refine aw_getI C dX10_triedSteps_43 kcX5 (reportS_43 shOK_B).1 1 (by decide) rfl mF_X10_164 ?_
      exact aw_vx (Nat.zero_le _) (Nat.zero_le _) (aw_ireturn C hr dX10_triedSteps_46 ⟨_, rfl, hw⟩)
    · exact aw_throw (kE := 2) hlf C (by decide) (by decide +kernel) mC_X10_59 mI_java_lang_IllegalStateException mS_X10_84 xt_g2 xt_b2 xt_o2 dX10_triedSteps_28 dX10_triedSteps_31 dX10_triedSteps_32 dX10_triedSteps_34 dX10_triedSteps_37 hnt ⟨Nat.le_of_ble_eq_true rfl, Nat.le_of_ble_eq_true rfl, Nat.le_of_ble_eq_true rfl, Nat.le_of_ble_eq_true rfl⟩ (Nat.le_of_ble_eq_true rfl) (Nat.le_of_ble_eq_true rfl) hw
  · exact aw_throw (kE := 0) hlf C (by decide) (by decide +kernel) mC_X10_41 mI_java_lang_IndexOutOfBoundsException mS_X10_43 xt_g0 xt_b0 xt_o0 dX10_triedSteps_11 dX10_triedSteps_14 dX10_triedSteps_15 dX10_triedSteps_17 dX10_triedSteps_20 hnt ⟨Nat.le_of_ble_eq_true rfl, Nat.le_of_ble_eq_true rfl, Nat.le_of_ble_eq_true rfl, Nat.le_of_ble_eq_true rfl⟩ (Nat.le_of_ble_eq_true rfl) (Nat.le_of_ble_eq_true rfl) hw
def w_X10_start_B (K : Gt → Prop) (KX : Nat → Gt → Prop) (p0 : Int32) (G0 : Gt) : Prop :=
  w_X4_has (fun v2 G1 =>
    pif (v2 = 0) (
      KX 0 G1) (
      w_X10_isStepped_B (fun v4 G3 =>
        pif (v4 = 0) (
          w_X10_readyMachine_B (fun G5 =>
            w_X2_open 40 (fun G6 =>
              K G6) p0 (G5 0 4) G5) G3) (
          KX 2 G3)) G1)) p0 G0
set_option maxHeartbeats 4000000 in
set_option maxRecDepth 100000 in
theorem t_X10_start_B {l : Launch} (hlf : l.stackTraces = false)  (p0 : Int32) (G0 : Gt) (K : Gt → Prop) (KX : Nat → Gt → Prop) (hw : w_X10_start_B K KX p0 G0) : CTX l yX10_start cX10_start 2 none 6 147 [.ref 0, .int p0] shB G0 (fun r G' => r = none ∧ K G') KX := by
  refine CTX_of (by decide) (Nat.le_of_ble_eq_true rfl) rfl ?_
  intro p e s m args below meth c D tA ad A C hr hnt
  unfold w_X10_start_B at hw
  show aw p l e { frames := 6, cells := 1, slots := 6, locals := 147 } s m args below meth c 2 D tA A (vx_MQ below (QC0 D tA ad A shB (fun r G' => r = none ∧ K G')) (XQ D tA ad A shB KX) args s 1 6 A) 0 0 ad 0 [some (.ref 0), some (.int p0)] [] shB G0
  refine aw_aloadn C dX10_start_0 rfl ?_
  refine aw_getR (r := 1) C dX10_start_1 kcX10 shB_0 0 (by decide) rfl mF_X10_12 ?_
  refine aw_iloadn C dX10_start_4 rfl ?_
  refine aw_callV C dX10_start_5 (t_X4_has shOK_B p0 _ _ hw) mM_X10_72 bX4_has shB_1 rfl rfl ⟨Nat.le_of_ble_eq_true rfl, Nat.le_of_ble_eq_true rfl, Nat.zero_le _, Nat.zero_le _⟩ _ rfl (Nat.le_of_ble_eq_true rfl) (fun r5 G1 hq => ?_)
  obtain ⟨v2, rfl, hw⟩ := hq
  refine aw_if_ne C dX10_start_8 21 (by decide) hw (fun hc8 hw => ?_) (fun hc8 hw => ?_)
  · refine aw_aloadn C dX10_start_21 rfl ?_
    refine aw_callV C dX10_start_22 (t_X10_isStepped_B _ _ hw) mM_X10_80 bX10_isStepped shB_0 rfl rfl ⟨Nat.le_of_ble_eq_true rfl, Nat.le_of_ble_eq_true rfl, Nat.zero_le _, Nat.zero_le _⟩ _ rfl (Nat.le_of_ble_eq_true rfl) (fun r22 G3 hq => ?_)
    obtain ⟨v4, rfl, hw⟩ := hq
    refine aw_if_eq C dX10_start_25 38 (by decide) hw (fun hc25 hw => ?_) (fun hc25 hw => ?_)
    · refine aw_aloadn C dX10_start_38 rfl ?_
      refine aw_callV C dX10_start_39 (t_X10_readyMachine_B _ _ hw) mM_X10_143 bX10_readyMachine shB_0 rfl rfl ⟨Nat.le_of_ble_eq_true rfl, Nat.le_of_ble_eq_true rfl, Nat.zero_le _, Nat.zero_le _⟩ _ rfl (Nat.le_of_ble_eq_true rfl) (fun r39 G5 hq => ?_)
      obtain ⟨rfl, hw⟩ := hq
      refine aw_iloadn C dX10_start_42 rfl ?_
      refine aw_aloadn C dX10_start_43 rfl ?_
      refine aw_getI C dX10_start_44 kcX10 shB_0 4 (by decide) rfl mF_X10_33 ?_
      refine aw_aloadn C dX10_start_47 rfl ?_
      refine aw_getR (r := 40) C dX10_start_48 kcX10 shB_0 2 (by decide) rfl mF_X10_26 ?_
      refine aw_callV C dX10_start_51 (t_X2_open (Or.inl rfl) p0 (G5 0 4) _ _ hw) mM_X10_147 bX2_open shB_84 rfl rfl ⟨Nat.le_of_ble_eq_true rfl, Nat.le_of_ble_eq_true rfl, Nat.zero_le _, Nat.zero_le _⟩ _ rfl (Nat.le_of_ble_eq_true rfl) (fun r51 G6 hq => ?_)
      obtain ⟨rfl, hw⟩ := hq
      exact aw_vx (Nat.zero_le _) (Nat.zero_le _) (aw_return C hr dX10_start_54 ⟨rfl, hw⟩)
    · exact aw_throw (kE := 2) hlf C (by decide) (by decide +kernel) mC_X10_59 mI_java_lang_IllegalStateException mS_X10_84 xt_g2 xt_b2 xt_o2 dX10_start_28 dX10_start_31 dX10_start_32 dX10_start_34 dX10_start_37 hnt ⟨Nat.le_of_ble_eq_true rfl, Nat.le_of_ble_eq_true rfl, Nat.le_of_ble_eq_true rfl, Nat.le_of_ble_eq_true rfl⟩ (Nat.le_of_ble_eq_true rfl) (Nat.le_of_ble_eq_true rfl) hw
  · exact aw_throw (kE := 0) hlf C (by decide) (by decide +kernel) mC_X10_41 mI_java_lang_IndexOutOfBoundsException mS_X10_43 xt_g0 xt_b0 xt_o0 dX10_start_11 dX10_start_14 dX10_start_15 dX10_start_17 dX10_start_20 hnt ⟨Nat.le_of_ble_eq_true rfl, Nat.le_of_ble_eq_true rfl, Nat.le_of_ble_eq_true rfl, Nat.le_of_ble_eq_true rfl⟩ (Nat.le_of_ble_eq_true rfl) (Nat.le_of_ble_eq_true rfl) hw
def w_X10_step_B (K : Int32 → Gt → Prop) (KX : Nat → Gt → Prop) (p0 : Int32) (G0 : Gt) : Prop :=
  pif ((iam p0) = 0) (
    KX 1 G0) (
    pif (G0 84 7 = 0) (
      KX 2 G0) (
      w_X2_advance (fun v2 G1 =>
        K v2 G1) p0 1 G0))
set_option maxHeartbeats 4000000 in
set_option maxRecDepth 100000 in
theorem t_X10_step_B {l : Launch} (hlf : l.stackTraces = false)  (p0 : Int32) (G0 : Gt) (K : Int32 → Gt → Prop) (KX : Nat → Gt → Prop) (hw : w_X10_step_B K KX p0 G0) : CTX l yX10_step cX10_step 3 (some .int) 6 153 [.ref 0, .int p0] shB G0 (fun r G' => ∃ v, r = some (.int v) ∧ K v G') KX := by
  refine CTX_of (by decide) (Nat.le_of_ble_eq_true rfl) rfl ?_
  intro p e s m args below meth c D tA ad A C hr hnt
  unfold w_X10_step_B at hw
  show aw p l e { frames := 6, cells := 1, slots := 6, locals := 153 } s m args below meth c 3 D tA A (vx_MQ below (QC0 D tA ad A shB (fun r G' => ∃ v, r = some (.int v) ∧ K v G')) (XQ D tA ad A shB KX) args s 1 6 A) 0 0 ad 0 [some (.ref 0), some (.int p0), none] [] shB G0
  refine aw_iloadn C dX10_step_0 rfl ?_
  refine aw_callS C dX10_step_1 (t_isAmount p0 _) mM_X10_119 bX10_isAmount rfl rfl ⟨Nat.le_of_ble_eq_true rfl, Nat.le_of_ble_eq_true rfl, Nat.zero_le _, Nat.zero_le _⟩ _ rfl (Nat.le_of_ble_eq_true rfl) (fun r1 G1x hq => ?_)
  obtain ⟨rfl, rfl⟩ := hq
  refine aw_if_ne C dX10_step_4 17 (by decide) hw (fun hc4 hw => ?_) (fun hc4 hw => ?_)
  · refine aw_aloadn C dX10_step_17 rfl ?_
    refine aw_callV C dX10_step_18 (t_stepped_B _) mM_X10_167 bX10_steppedMachine shB_0 rfl rfl ⟨Nat.le_of_ble_eq_true rfl, Nat.le_of_ble_eq_true rfl, Nat.zero_le _, Nat.zero_le _⟩ _ rfl (Nat.le_of_ble_eq_true rfl) (fun r18 G18x hq => ?_)
    obtain ⟨rfl, rfl⟩ := hq
    refine sw_if hw (fun hs18 hw => ?_) (fun hs18 hw => ?_)
    · rw [if_pos hs18]
      refine aw_astorenN C dX10_step_21 (by decide) rfl ?_
      refine aw_aloadnN C dX10_step_22 rfl ?_
      refine aw_ifnonnullN C dX10_step_23 ?_
      exact aw_throw (kE := 2) hlf C (by decide) (by decide +kernel) mC_X10_59 mI_java_lang_IllegalStateException mS_X10_170 xt_g2 xt_b2 xt_o2 dX10_step_26 dX10_step_29 dX10_step_30 dX10_step_32 dX10_step_35 hnt ⟨Nat.le_of_ble_eq_true rfl, Nat.le_of_ble_eq_true rfl, Nat.le_of_ble_eq_true rfl, Nat.le_of_ble_eq_true rfl⟩ (Nat.le_of_ble_eq_true rfl) (Nat.le_of_ble_eq_true rfl) hw
    · rw [if_neg hs18]
      refine aw_astoren C dX10_step_21 (by decide) rfl ?_
      refine aw_aloadn C dX10_step_22 rfl ?_
      refine aw_ifnonnull C 36 dX10_step_23 (by decide) ?_
      refine aw_aloadn C dX10_step_36 rfl ?_
      refine aw_iloadn C dX10_step_37 rfl ?_
      refine aw_iconst (v := 1) C dX10_step_38 (by decide) ?_
      refine aw_callV C dX10_step_39 (t_X2_advance p0 1 _ _ hw) mM_X10_153 bX2_advance shB_84 rfl rfl ⟨Nat.le_of_ble_eq_true rfl, Nat.le_of_ble_eq_true rfl, Nat.zero_le _, Nat.zero_le _⟩ _ rfl (Nat.le_of_ble_eq_true rfl) (fun r39 G1 hq => ?_)
      obtain ⟨v2, rfl, hw⟩ := hq
      exact aw_vx (Nat.zero_le _) (Nat.zero_le _) (aw_ireturn C hr dX10_step_42 ⟨_, rfl, hw⟩)
  · exact aw_throw (kE := 1) hlf C (by decide) (by decide +kernel) mC_X10_51 mI_java_lang_IllegalArgumentException mS_X10_122 xt_g1 xt_b1 xt_o1 dX10_step_7 dX10_step_10 dX10_step_11 dX10_step_13 dX10_step_16 hnt ⟨Nat.le_of_ble_eq_true rfl, Nat.le_of_ble_eq_true rfl, Nat.le_of_ble_eq_true rfl, Nat.le_of_ble_eq_true rfl⟩ (Nat.le_of_ble_eq_true rfl) (Nat.le_of_ble_eq_true rfl) hw
def w_X10_giveUp_B (K : Int32 → Gt → Prop) (KX : Nat → Gt → Prop) (G0 : Gt) : Prop :=
  pif (G0 84 7 = 0) (
    KX 2 G0) (
    w_X2_abandon (fun v2 G1 =>
      K v2 G1) G0)
set_option maxHeartbeats 4000000 in
set_option maxRecDepth 100000 in
theorem t_X10_giveUp_B {l : Launch} (hlf : l.stackTraces = false)  (G0 : Gt) (K : Int32 → Gt → Prop) (KX : Nat → Gt → Prop) (hw : w_X10_giveUp_B K KX G0) : CTX l yX10_giveUp cX10_giveUp 2 (some .int) 6 123 [.ref 0] shB G0 (fun r G' => ∃ v, r = some (.int v) ∧ K v G') KX := by
  refine CTX_of (by decide) (Nat.le_of_ble_eq_true rfl) rfl ?_
  intro p e s m args below meth c D tA ad A C hr hnt
  unfold w_X10_giveUp_B at hw
  show aw p l e { frames := 6, cells := 1, slots := 6, locals := 123 } s m args below meth c 2 D tA A (vx_MQ below (QC0 D tA ad A shB (fun r G' => ∃ v, r = some (.int v) ∧ K v G')) (XQ D tA ad A shB KX) args s 1 6 A) 0 0 ad 0 [some (.ref 0), none] [] shB G0
  refine aw_aloadn C dX10_giveUp_0 rfl ?_
  refine aw_callV C dX10_giveUp_1 (t_stepped_B _) mM_X10_167 bX10_steppedMachine shB_0 rfl rfl ⟨Nat.le_of_ble_eq_true rfl, Nat.le_of_ble_eq_true rfl, Nat.zero_le _, Nat.zero_le _⟩ _ rfl (Nat.le_of_ble_eq_true rfl) (fun r1 G1x hq => ?_)
  obtain ⟨rfl, rfl⟩ := hq
  refine sw_if hw (fun hs1 hw => ?_) (fun hs1 hw => ?_)
  · rw [if_pos hs1]
    refine aw_astorenN C dX10_giveUp_4 (by decide) rfl ?_
    refine aw_aloadnN C dX10_giveUp_5 rfl ?_
    refine aw_ifnonnullN C dX10_giveUp_6 ?_
    exact aw_throw (kE := 2) hlf C (by decide) (by decide +kernel) mC_X10_59 mI_java_lang_IllegalStateException mS_X10_170 xt_g2 xt_b2 xt_o2 dX10_giveUp_9 dX10_giveUp_12 dX10_giveUp_13 dX10_giveUp_15 dX10_giveUp_18 hnt ⟨Nat.le_of_ble_eq_true rfl, Nat.le_of_ble_eq_true rfl, Nat.le_of_ble_eq_true rfl, Nat.le_of_ble_eq_true rfl⟩ (Nat.le_of_ble_eq_true rfl) (Nat.le_of_ble_eq_true rfl) hw
  · rw [if_neg hs1]
    refine aw_astoren C dX10_giveUp_4 (by decide) rfl ?_
    refine aw_aloadn C dX10_giveUp_5 rfl ?_
    refine aw_ifnonnull C 19 dX10_giveUp_6 (by decide) ?_
    refine aw_aloadn C dX10_giveUp_19 rfl ?_
    refine aw_callV C dX10_giveUp_20 (t_X2_abandon _ _ hw) mM_X10_172 bX2_abandon shB_84 rfl rfl ⟨Nat.le_of_ble_eq_true rfl, Nat.le_of_ble_eq_true rfl, Nat.zero_le _, Nat.zero_le _⟩ _ rfl (Nat.le_of_ble_eq_true rfl) (fun r20 G1 hq => ?_)
    obtain ⟨v2, rfl, hw⟩ := hq
    exact aw_vx (Nat.zero_le _) (Nat.zero_le _) (aw_ireturn C hr dX10_giveUp_23 ⟨_, rfl, hw⟩)
def w_X10_breakAt_B_j59 (K : Int32 → Gt → Prop) (KX : Nat → Gt → Prop) (x3 : Int32) (y1 : Int32) (y2 : Int32) (G0 : Gt) : Prop :=
  pt (rput G0 11 120 y1 y2) fun G3 =>
  bz x3 ∧ K x3 G3
def w_X10_breakAt_B_j41 (K : Int32 → Gt → Prop) (KX : Nat → Gt → Prop) (x1 : Int32) (x2 : Int32) (y0 : Int32) (G0 : Gt) : Prop :=
  pif (x2 = 0) (
    w_X10_breakAt_B_j59 K KX y0 x1 0 G0) (
    w_X10_breakAt_B_j59 K KX y0 x1 1 G0)
def w_X10_breakAt_B (K : Int32 → Gt → Prop) (KX : Nat → Gt → Prop) (p0 : Int32) (p1 : Int32) (G0 : Gt) : Prop :=
  w_X4_has (fun v2 G1 =>
    pif (v2 = 0) (
      KX 0 G1) (
      pif ((rat G1 11 120 p0) = 1) (
        w_X10_breakAt_B_j41 K KX p0 p1 1 G1) (
        w_X10_breakAt_B_j41 K KX p0 p1 0 G1))) p0 G0
set_option maxHeartbeats 4000000 in
set_option maxRecDepth 100000 in
theorem t_X10_breakAt_B {l : Launch} (hlf : l.stackTraces = false)  (p0 : Int32) (p1 : Int32) (G0 : Gt) (K : Int32 → Gt → Prop) (KX : Nat → Gt → Prop) (hw : w_X10_breakAt_B K KX p0 p1 G0) : CTX l yX10_breakAt cX10_breakAt 4 (some .boolean) 6 90 [.ref 0, .int p0, .int p1] shB G0 (fun r G' => ∃ v, r = some (.int v) ∧ K v G') KX := by
  refine CTX_of (by decide) (Nat.le_of_ble_eq_true rfl) rfl ?_
  intro p e s m args below meth c D tA ad A C hr hnt
  have h59 : ∀ (x3 : Int32) (y1 : Int32) (y2 : Int32) (G0 : Gt), w_X10_breakAt_B_j59 K KX x3 y1 y2 G0 → aw p l e { frames := 6, cells := 1, slots := 6, locals := 90 } s m args below meth c 4 D tA A (vx_MQ below (QC0 D tA ad A shB (fun r G' => ∃ v, r = some (.int v) ∧ K v G')) (XQ D tA ad A shB KX) args s 1 6 A) 0 0 ad 59 [none, none, none, some (.int x3)] [.int y2, .int y1, .ref 10] shB G0 := by
    intro  x3 y1 y2 G0 hw
    unfold w_X10_breakAt_B_j59 at hw
    refine aw_callV C dX10_breakAt_59 (t_put (rowS_10 shOK_B) (Nat.le_of_ble_eq_true rfl) y1 y2 _) mM_X10_96 bX6_put (rowS_10 shOK_B).1 rfl rfl ⟨Nat.le_of_ble_eq_true rfl, Nat.le_of_ble_eq_true rfl, Nat.zero_le _, Nat.zero_le _⟩ _ rfl (Nat.le_of_ble_eq_true rfl) (fun r59 G3 hq => ?_)
    obtain ⟨rfl, hq⟩ := hq
    replace hw := pt_eq hw hq
    refine aw_iloadn C dX10_breakAt_62 rfl ?_
    exact aw_vx (Nat.zero_le _) (Nat.zero_le _) (aw_zreturn C hr dX10_breakAt_63 (bz_n hw.1) ⟨_, rfl, hw.2⟩)
  have h41 : ∀ (x1 : Int32) (x2 : Int32) (y0 : Int32) (G0 : Gt), w_X10_breakAt_B_j41 K KX x1 x2 y0 G0 → aw p l e { frames := 6, cells := 1, slots := 6, locals := 90 } s m args below meth c 4 D tA A (vx_MQ below (QC0 D tA ad A shB (fun r G' => ∃ v, r = some (.int v) ∧ K v G')) (XQ D tA ad A shB KX) args s 1 6 A) 0 0 ad 41 [some (.ref 0), some (.int x1), some (.int x2), none] [.int y0] shB G0 := by
    intro  x1 x2 y0 G0 hw
    unfold w_X10_breakAt_B_j41 at hw
    refine aw_istoren C dX10_breakAt_41 (by decide) rfl ?_
    refine aw_aloadn C dX10_breakAt_42 rfl ?_
    refine aw_getR (r := 1) C dX10_breakAt_43 kcX10 shB_0 0 (by decide) rfl mF_X10_12 ?_
    refine aw_getR (r := 10) C dX10_breakAt_46 kcX4 shB_1 4 (by decide) rfl mF_X10_176 ?_
    refine aw_iloadn C dX10_breakAt_49 rfl ?_
    refine aw_iloadn C dX10_breakAt_50 rfl ?_
    refine aw_if_eq C dX10_breakAt_51 58 (by decide) hw (fun hc51 hw => ?_) (fun hc51 hw => ?_)
    · refine aw_iconst (v := 0) C dX10_breakAt_58 (by decide) ?_
      exact aw_msk [false, false, false, true] (h59 y0 x1 0 _ hw)
    · refine aw_iconst (v := 1) C dX10_breakAt_54 (by decide) ?_
      refine aw_goto (tgt := 59) C dX10_breakAt_55 (by decide) ?_
      exact aw_msk [false, false, false, true] (h59 y0 x1 1 _ hw)
  unfold w_X10_breakAt_B at hw
  show aw p l e { frames := 6, cells := 1, slots := 6, locals := 90 } s m args below meth c 4 D tA A (vx_MQ below (QC0 D tA ad A shB (fun r G' => ∃ v, r = some (.int v) ∧ K v G')) (XQ D tA ad A shB KX) args s 1 6 A) 0 0 ad 0 [some (.ref 0), some (.int p0), some (.int p1), none] [] shB G0
  refine aw_aloadn C dX10_breakAt_0 rfl ?_
  refine aw_getR (r := 1) C dX10_breakAt_1 kcX10 shB_0 0 (by decide) rfl mF_X10_12 ?_
  refine aw_iloadn C dX10_breakAt_4 rfl ?_
  refine aw_callV C dX10_breakAt_5 (t_X4_has shOK_B p0 _ _ hw) mM_X10_72 bX4_has shB_1 rfl rfl ⟨Nat.le_of_ble_eq_true rfl, Nat.le_of_ble_eq_true rfl, Nat.zero_le _, Nat.zero_le _⟩ _ rfl (Nat.le_of_ble_eq_true rfl) (fun r5 G1 hq => ?_)
  obtain ⟨v2, rfl, hw⟩ := hq
  refine aw_if_ne C dX10_breakAt_8 21 (by decide) hw (fun hc8 hw => ?_) (fun hc8 hw => ?_)
  · refine aw_aloadn C dX10_breakAt_21 rfl ?_
    refine aw_getR (r := 1) C dX10_breakAt_22 kcX10 shB_0 0 (by decide) rfl mF_X10_12 ?_
    refine aw_getR (r := 10) C dX10_breakAt_25 kcX4 shB_1 4 (by decide) rfl mF_X10_176 ?_
    refine aw_iloadn C dX10_breakAt_28 rfl ?_
    refine aw_callV C dX10_breakAt_29 (t_at (rowS_10 shOK_B) (Nat.le_of_ble_eq_true rfl) p0 _) mM_X10_90 bX6_at (rowS_10 shOK_B).1 rfl rfl ⟨Nat.le_of_ble_eq_true rfl, Nat.le_of_ble_eq_true rfl, Nat.zero_le _, Nat.zero_le _⟩ _ rfl (Nat.le_of_ble_eq_true rfl) (fun r29 G29x hq => ?_)
    obtain ⟨rfl, rfl⟩ := hq
    refine aw_iconst (v := 1) C dX10_breakAt_32 (by decide) ?_
    refine aw_ic_ne C dX10_breakAt_33 40 (by decide) hw (fun hc33 hw => ?_) (fun hc33 hw => ?_)
    · refine aw_iconst (v := 0) C dX10_breakAt_40 (by decide) ?_
      exact aw_msk [true, true, true, false] (h41 p0 p1 0 _ hw)
    · refine aw_iconst (v := 1) C dX10_breakAt_36 (by decide) ?_
      refine aw_goto (tgt := 41) C dX10_breakAt_37 (by decide) ?_
      exact aw_msk [true, true, true, false] (h41 p0 p1 1 _ hw)
  · exact aw_throw (kE := 0) hlf C (by decide) (by decide +kernel) mC_X10_41 mI_java_lang_IndexOutOfBoundsException mS_X10_43 xt_g0 xt_b0 xt_o0 dX10_breakAt_11 dX10_breakAt_14 dX10_breakAt_15 dX10_breakAt_17 dX10_breakAt_20 hnt ⟨Nat.le_of_ble_eq_true rfl, Nat.le_of_ble_eq_true rfl, Nat.le_of_ble_eq_true rfl, Nat.le_of_ble_eq_true rfl⟩ (Nat.le_of_ble_eq_true rfl) (Nat.le_of_ble_eq_true rfl) hw
def w_X10_look_B (K : Int32 → Gt → Prop) (KX : Nat → Gt → Prop) (p0 : Int32) (G0 : Gt) : Prop :=
  pif ((ibl p0 8) = 0) (
    KX 0 G0) (
    pif (G0 84 7 = 0) (
      KX 2 G0) (
      w_X2_seenByWaiting (fun v2 G1 =>
        K v2 G1) p0 G0))
set_option maxHeartbeats 4000000 in
set_option maxRecDepth 100000 in
theorem t_X10_look_B {l : Launch} (hlf : l.stackTraces = false)  (p0 : Int32) (G0 : Gt) (K : Int32 → Gt → Prop) (KX : Nat → Gt → Prop) (hw : w_X10_look_B K KX p0 G0) : CTX l yX10_look cX10_look 3 (some .int) 6 90 [.ref 0, .int p0] shB G0 (fun r G' => ∃ v, r = some (.int v) ∧ K v G') KX := by
  refine CTX_of (by decide) (Nat.le_of_ble_eq_true rfl) rfl ?_
  intro p e s m args below meth c D tA ad A C hr hnt
  unfold w_X10_look_B at hw
  show aw p l e { frames := 6, cells := 1, slots := 6, locals := 90 } s m args below meth c 3 D tA A (vx_MQ below (QC0 D tA ad A shB (fun r G' => ∃ v, r = some (.int v) ∧ K v G')) (XQ D tA ad A shB KX) args s 1 6 A) 0 0 ad 0 [some (.ref 0), some (.int p0), none] [] shB G0
  refine aw_iloadn C dX10_look_0 rfl ?_
  refine aw_bipush (v := 8) C dX10_look_1 (by decide) ?_
  refine aw_callS C dX10_look_3 (t_isBelow p0 8 _) mM_X10_68 bX10_isBelow rfl rfl ⟨Nat.le_of_ble_eq_true rfl, Nat.le_of_ble_eq_true rfl, Nat.zero_le _, Nat.zero_le _⟩ _ rfl (Nat.le_of_ble_eq_true rfl) (fun r3 G3x hq => ?_)
  obtain ⟨rfl, rfl⟩ := hq
  refine aw_if_ne C dX10_look_6 19 (by decide) hw (fun hc6 hw => ?_) (fun hc6 hw => ?_)
  · refine aw_aloadn C dX10_look_19 rfl ?_
    refine aw_callV C dX10_look_20 (t_stepped_B _) mM_X10_167 bX10_steppedMachine shB_0 rfl rfl ⟨Nat.le_of_ble_eq_true rfl, Nat.le_of_ble_eq_true rfl, Nat.zero_le _, Nat.zero_le _⟩ _ rfl (Nat.le_of_ble_eq_true rfl) (fun r20 G20x hq => ?_)
    obtain ⟨rfl, rfl⟩ := hq
    refine sw_if hw (fun hs20 hw => ?_) (fun hs20 hw => ?_)
    · rw [if_pos hs20]
      refine aw_astorenN C dX10_look_23 (by decide) rfl ?_
      refine aw_aloadnN C dX10_look_24 rfl ?_
      refine aw_ifnonnullN C dX10_look_25 ?_
      exact aw_throw (kE := 2) hlf C (by decide) (by decide +kernel) mC_X10_59 mI_java_lang_IllegalStateException mS_X10_170 xt_g2 xt_b2 xt_o2 dX10_look_28 dX10_look_31 dX10_look_32 dX10_look_34 dX10_look_37 hnt ⟨Nat.le_of_ble_eq_true rfl, Nat.le_of_ble_eq_true rfl, Nat.le_of_ble_eq_true rfl, Nat.le_of_ble_eq_true rfl⟩ (Nat.le_of_ble_eq_true rfl) (Nat.le_of_ble_eq_true rfl) hw
    · rw [if_neg hs20]
      refine aw_astoren C dX10_look_23 (by decide) rfl ?_
      refine aw_aloadn C dX10_look_24 rfl ?_
      refine aw_ifnonnull C 38 dX10_look_25 (by decide) ?_
      refine aw_aloadn C dX10_look_38 rfl ?_
      refine aw_iloadn C dX10_look_39 rfl ?_
      refine aw_callV C dX10_look_40 (t_X2_seenByWaiting p0 _ _ hw) mM_X10_184 bX2_seenByWaiting shB_84 rfl rfl ⟨Nat.le_of_ble_eq_true rfl, Nat.le_of_ble_eq_true rfl, Nat.zero_le _, Nat.zero_le _⟩ _ rfl (Nat.le_of_ble_eq_true rfl) (fun r40 G1 hq => ?_)
      obtain ⟨v2, rfl, hw⟩ := hq
      exact aw_vx (Nat.zero_le _) (Nat.zero_le _) (aw_ireturn C hr dX10_look_43 ⟨_, rfl, hw⟩)
  · exact aw_throw (kE := 0) hlf C (by decide) (by decide +kernel) mC_X10_41 mI_java_lang_IndexOutOfBoundsException mS_X10_182 xt_g0 xt_b0 xt_o0 dX10_look_9 dX10_look_12 dX10_look_13 dX10_look_15 dX10_look_18 hnt ⟨Nat.le_of_ble_eq_true rfl, Nat.le_of_ble_eq_true rfl, Nat.le_of_ble_eq_true rfl, Nat.le_of_ble_eq_true rfl⟩ (Nat.le_of_ble_eq_true rfl) (Nat.le_of_ble_eq_true rfl) hw
def w_X10_traceAt_B (K : Int32 → Gt → Prop) (KX : Nat → Gt → Prop) (p0 : Int32) (G0 : Gt) : Prop :=
  pif ((ibl p0 (G0 40 3)) = 0) (
    KX 0 G0) (
    K (rat G0 42 13 p0) G0)
set_option maxHeartbeats 4000000 in
set_option maxRecDepth 100000 in
theorem t_X10_traceAt_B {l : Launch} (hlf : l.stackTraces = false)  (p0 : Int32) (G0 : Gt) (K : Int32 → Gt → Prop) (KX : Nat → Gt → Prop) (hw : w_X10_traceAt_B K KX p0 G0) : CTX l yX10_traceAt cX10_traceAt 2 (some .int) 6 90 [.ref 0, .int p0] shB G0 (fun r G' => ∃ v, r = some (.int v) ∧ K v G') KX := by
  refine CTX_of (by decide) (Nat.le_of_ble_eq_true rfl) rfl ?_
  intro p e s m args below meth c D tA ad A C hr hnt
  unfold w_X10_traceAt_B at hw
  show aw p l e { frames := 6, cells := 1, slots := 6, locals := 90 } s m args below meth c 2 D tA A (vx_MQ below (QC0 D tA ad A shB (fun r G' => ∃ v, r = some (.int v) ∧ K v G')) (XQ D tA ad A shB KX) args s 1 6 A) 0 0 ad 0 [some (.ref 0), some (.int p0)] [] shB G0
  refine aw_iloadn C dX10_traceAt_0 rfl ?_
  refine aw_aloadn C dX10_traceAt_1 rfl ?_
  refine aw_getR (r := 40) C dX10_traceAt_2 kcX10 shB_0 2 (by decide) rfl mF_X10_26 ?_
  refine aw_getI C dX10_traceAt_5 kcX5 (reportS_40 shOK_B).1 3 (by decide) rfl mF_X10_193 ?_
  refine aw_callS C dX10_traceAt_8 (t_isBelow p0 (G0 40 3) _) mM_X10_68 bX10_isBelow rfl rfl ⟨Nat.le_of_ble_eq_true rfl, Nat.le_of_ble_eq_true rfl, Nat.zero_le _, Nat.zero_le _⟩ _ rfl (Nat.le_of_ble_eq_true rfl) (fun r8 G8x hq => ?_)
  obtain ⟨rfl, rfl⟩ := hq
  refine aw_if_ne C dX10_traceAt_11 24 (by decide) hw (fun hc11 hw => ?_) (fun hc11 hw => ?_)
  · refine aw_aloadn C dX10_traceAt_24 rfl ?_
    refine aw_getR (r := 40) C dX10_traceAt_25 kcX10 shB_0 2 (by decide) rfl mF_X10_26 ?_
    refine aw_getR (r := 41) C dX10_traceAt_28 kcX5 (reportS_40 shOK_B).1 4 (by decide) rfl mF_X10_196 ?_
    refine aw_iloadn C dX10_traceAt_31 rfl ?_
    refine aw_callV C dX10_traceAt_32 (t_at (rowS_41 shOK_B) (Nat.le_of_ble_eq_true rfl) p0 _) mM_X10_90 bX6_at (rowS_41 shOK_B).1 rfl rfl ⟨Nat.le_of_ble_eq_true rfl, Nat.le_of_ble_eq_true rfl, Nat.zero_le _, Nat.zero_le _⟩ _ rfl (Nat.le_of_ble_eq_true rfl) (fun r32 G32x hq => ?_)
    obtain ⟨rfl, rfl⟩ := hq
    exact aw_vx (Nat.zero_le _) (Nat.zero_le _) (aw_ireturn C hr dX10_traceAt_35 ⟨_, rfl, hw⟩)
  · exact aw_throw (kE := 0) hlf C (by decide) (by decide +kernel) mC_X10_41 mI_java_lang_IndexOutOfBoundsException mS_X10_194 xt_g0 xt_b0 xt_o0 dX10_traceAt_14 dX10_traceAt_17 dX10_traceAt_18 dX10_traceAt_20 dX10_traceAt_23 hnt ⟨Nat.le_of_ble_eq_true rfl, Nat.le_of_ble_eq_true rfl, Nat.le_of_ble_eq_true rfl, Nat.le_of_ble_eq_true rfl⟩ (Nat.le_of_ble_eq_true rfl) (Nat.le_of_ble_eq_true rfl) hw
def w_X10_length_B (K : Int32 → Gt → Prop) (KX : Nat → Gt → Prop) (p0 : Int32) (G0 : Gt) : Prop :=
  pif ((ibl p0 2) = 0) (
    KX 0 G0) (
    K (G0 (txo 19 p0) 2) G0)
set_option maxHeartbeats 4000000 in
set_option maxRecDepth 100000 in
theorem t_X10_length_B {l : Launch} (hlf : l.stackTraces = false)  (p0 : Int32) (G0 : Gt) (K : Int32 → Gt → Prop) (KX : Nat → Gt → Prop) (hw : w_X10_length_B K KX p0 G0) : CTX l yX10_length cX10_length 2 (some .int) 6 90 [.ref 0, .int p0] shB G0 (fun r G' => ∃ v, r = some (.int v) ∧ K v G') KX := by
  refine CTX_of (by decide) (Nat.le_of_ble_eq_true rfl) rfl ?_
  intro p e s m args below meth c D tA ad A C hr hnt
  unfold w_X10_length_B at hw
  show aw p l e { frames := 6, cells := 1, slots := 6, locals := 90 } s m args below meth c 2 D tA A (vx_MQ below (QC0 D tA ad A shB (fun r G' => ∃ v, r = some (.int v) ∧ K v G')) (XQ D tA ad A shB KX) args s 1 6 A) 0 0 ad 0 [some (.ref 0), some (.int p0)] [] shB G0
  refine aw_iloadn C dX10_length_0 rfl ?_
  refine aw_iconst (v := 2) C dX10_length_1 (by decide) ?_
  refine aw_callS C dX10_length_2 (t_isBelow p0 2 _) mM_X10_68 bX10_isBelow rfl rfl ⟨Nat.le_of_ble_eq_true rfl, Nat.le_of_ble_eq_true rfl, Nat.zero_le _, Nat.zero_le _⟩ _ rfl (Nat.le_of_ble_eq_true rfl) (fun r2 G2x hq => ?_)
  obtain ⟨rfl, rfl⟩ := hq
  refine aw_if_ne C dX10_length_5 18 (by decide) hw (fun hc5 hw => ?_) (fun hc5 hw => ?_)
  · refine aw_aloadn C dX10_length_18 rfl ?_
    refine aw_getR (r := 19) C dX10_length_19 kcX10 shB_0 1 (by decide) rfl mF_X10_19 ?_
    refine aw_iloadn C dX10_length_22 rfl ?_
    refine aw_callV C dX10_length_23 (t_textOf (worldS_19 shOK_B) p0 _) mM_X10_128 bX9_textOf (worldS_19 shOK_B).1 rfl rfl ⟨Nat.le_of_ble_eq_true rfl, Nat.le_of_ble_eq_true rfl, Nat.zero_le _, Nat.zero_le _⟩ _ rfl (Nat.le_of_ble_eq_true rfl) (fun r23 G23x hq => ?_)
    obtain ⟨rfl, rfl⟩ := hq
    refine aw_getI C dX10_length_26 kcX8 (text_txo (worldS_19 shOK_B) p0).1 2 (by decide) rfl mF_X10_132 ?_
    exact aw_vx (Nat.zero_le _) (Nat.zero_le _) (aw_ireturn C hr dX10_length_29 ⟨_, rfl, hw⟩)
  · exact aw_throw (kE := 0) hlf C (by decide) (by decide +kernel) mC_X10_41 mI_java_lang_IndexOutOfBoundsException mS_X10_124 xt_g0 xt_b0 xt_o0 dX10_length_8 dX10_length_11 dX10_length_12 dX10_length_14 dX10_length_17 hnt ⟨Nat.le_of_ble_eq_true rfl, Nat.le_of_ble_eq_true rfl, Nat.le_of_ble_eq_true rfl, Nat.le_of_ble_eq_true rfl⟩ (Nat.le_of_ble_eq_true rfl) (Nat.le_of_ble_eq_true rfl) hw
def w_X10_letter_B_j26 (K : Int32 → Gt → Prop) (KX : Nat → Gt → Prop)  (G0 : Gt) : Prop :=
  KX 0 G0
def w_X10_letter_B (K : Int32 → Gt → Prop) (KX : Nat → Gt → Prop) (p0 : Int32) (p1 : Int32) (G0 : Gt) : Prop :=
  pif ((ibl p0 2) = 0) (
    w_X10_letter_B_j26 K KX G0) (
    pif ((ibl p1 (G0 (txo 19 p0) 2)) = 0) (
      w_X10_letter_B_j26 K KX G0) (
      K (rat G0 ((txo 19 p0) + 2) 40 p1) G0))
set_option maxHeartbeats 4000000 in
set_option maxRecDepth 100000 in
theorem t_X10_letter_B {l : Launch} (hlf : l.stackTraces = false)  (p0 : Int32) (p1 : Int32) (G0 : Gt) (K : Int32 → Gt → Prop) (KX : Nat → Gt → Prop) (hw : w_X10_letter_B K KX p0 p1 G0) : CTX l yX10_letter cX10_letter 3 (some .int) 6 90 [.ref 0, .int p0, .int p1] shB G0 (fun r G' => ∃ v, r = some (.int v) ∧ K v G') KX := by
  refine CTX_of (by decide) (Nat.le_of_ble_eq_true rfl) rfl ?_
  intro p e s m args below meth c D tA ad A C hr hnt
  have h26 : ∀ (G0 : Gt), w_X10_letter_B_j26 K KX  G0 → aw p l e { frames := 6, cells := 1, slots := 6, locals := 90 } s m args below meth c 3 D tA A (vx_MQ below (QC0 D tA ad A shB (fun r G' => ∃ v, r = some (.int v) ∧ K v G')) (XQ D tA ad A shB KX) args s 1 6 A) 0 0 ad 26 [none, none, none] [] shB G0 := by
    intro   G0 hw
    unfold w_X10_letter_B_j26 at hw
    exact aw_throw (kE := 0) hlf C (by decide) (by decide +kernel) mC_X10_41 mI_java_lang_IndexOutOfBoundsException mS_X10_202 xt_g0 xt_b0 xt_o0 dX10_letter_26 dX10_letter_29 dX10_letter_30 dX10_letter_32 dX10_letter_35 hnt ⟨Nat.le_of_ble_eq_true rfl, Nat.le_of_ble_eq_true rfl, Nat.le_of_ble_eq_true rfl, Nat.le_of_ble_eq_true rfl⟩ (Nat.le_of_ble_eq_true rfl) (Nat.le_of_ble_eq_true rfl) hw
  unfold w_X10_letter_B at hw
  show aw p l e { frames := 6, cells := 1, slots := 6, locals := 90 } s m args below meth c 3 D tA A (vx_MQ below (QC0 D tA ad A shB (fun r G' => ∃ v, r = some (.int v) ∧ K v G')) (XQ D tA ad A shB KX) args s 1 6 A) 0 0 ad 0 [some (.ref 0), some (.int p0), some (.int p1)] [] shB G0
  refine aw_iloadn C dX10_letter_0 rfl ?_
  refine aw_iconst (v := 2) C dX10_letter_1 (by decide) ?_
  refine aw_callS C dX10_letter_2 (t_isBelow p0 2 _) mM_X10_68 bX10_isBelow rfl rfl ⟨Nat.le_of_ble_eq_true rfl, Nat.le_of_ble_eq_true rfl, Nat.zero_le _, Nat.zero_le _⟩ _ rfl (Nat.le_of_ble_eq_true rfl) (fun r2 G2x hq => ?_)
  obtain ⟨rfl, rfl⟩ := hq
  refine aw_if_eq C dX10_letter_5 26 (by decide) hw (fun hc5 hw => ?_) (fun hc5 hw => ?_)
  · exact aw_msk [false, false, false] (h26 _ hw)
  · refine aw_iloadn C dX10_letter_8 rfl ?_
    refine aw_aloadn C dX10_letter_9 rfl ?_
    refine aw_getR (r := 19) C dX10_letter_10 kcX10 shB_0 1 (by decide) rfl mF_X10_19 ?_
    refine aw_iloadn C dX10_letter_13 rfl ?_
    refine aw_callV C dX10_letter_14 (t_textOf (worldS_19 shOK_B) p0 _) mM_X10_128 bX9_textOf (worldS_19 shOK_B).1 rfl rfl ⟨Nat.le_of_ble_eq_true rfl, Nat.le_of_ble_eq_true rfl, Nat.zero_le _, Nat.zero_le _⟩ _ rfl (Nat.le_of_ble_eq_true rfl) (fun r14 G14x hq => ?_)
    obtain ⟨rfl, rfl⟩ := hq
    refine aw_getI C dX10_letter_17 kcX8 (text_txo (worldS_19 shOK_B) p0).1 2 (by decide) rfl mF_X10_132 ?_
    refine aw_callS C dX10_letter_20 (t_isBelow p1 (G0 (txo 19 p0) 2) _) mM_X10_68 bX10_isBelow rfl rfl ⟨Nat.le_of_ble_eq_true rfl, Nat.le_of_ble_eq_true rfl, Nat.zero_le _, Nat.zero_le _⟩ _ rfl (Nat.le_of_ble_eq_true rfl) (fun r20 G20x hq => ?_)
    obtain ⟨rfl, rfl⟩ := hq
    refine aw_if_ne C dX10_letter_23 36 (by decide) hw (fun hc23 hw => ?_) (fun hc23 hw => ?_)
    · refine aw_aloadn C dX10_letter_36 rfl ?_
      refine aw_getR (r := 19) C dX10_letter_37 kcX10 shB_0 1 (by decide) rfl mF_X10_19 ?_
      refine aw_iloadn C dX10_letter_40 rfl ?_
      refine aw_callV C dX10_letter_41 (t_textOf (worldS_19 shOK_B) p0 _) mM_X10_128 bX9_textOf (worldS_19 shOK_B).1 rfl rfl ⟨Nat.le_of_ble_eq_true rfl, Nat.le_of_ble_eq_true rfl, Nat.zero_le _, Nat.zero_le _⟩ _ rfl (Nat.le_of_ble_eq_true rfl) (fun r41 G41x hq => ?_)
      obtain ⟨rfl, rfl⟩ := hq
      refine aw_getR (r := ((txo 19 p0) + 1)) C dX10_letter_44 kcX8 (text_txo (worldS_19 shOK_B) p0).1 0 (by decide) rfl mF_X10_204 ?_
      refine aw_iloadn C dX10_letter_47 rfl ?_
      refine aw_callV C dX10_letter_48 (t_at (text_txo (worldS_19 shOK_B) p0).2.1 (Nat.le_of_ble_eq_true rfl) p1 _) mM_X10_90 bX6_at (text_txo (worldS_19 shOK_B) p0).2.1.1 rfl rfl ⟨Nat.le_of_ble_eq_true rfl, Nat.le_of_ble_eq_true rfl, Nat.zero_le _, Nat.zero_le _⟩ _ rfl (Nat.le_of_ble_eq_true rfl) (fun r48 G48x hq => ?_)
      obtain ⟨rfl, rfl⟩ := hq
      exact aw_vx (Nat.zero_le _) (Nat.zero_le _) (aw_ireturn C hr dX10_letter_51 ⟨_, rfl, hw⟩)
    · exact aw_msk [false, false, false] (h26 _ hw)
def w_X10_cursor_B_j16 (K : Int32 → Gt → Prop) (KX : Nat → Gt → Prop)  (G0 : Gt) : Prop :=
  KX 0 G0
def w_X10_cursor_B (K : Int32 → Gt → Prop) (KX : Nat → Gt → Prop) (p0 : Int32) (p1 : Int32) (G0 : Gt) : Prop :=
  pif ((ibl p0 2) = 0) (
    w_X10_cursor_B_j16 K KX G0) (
    pif ((ibl p1 4) = 0) (
      w_X10_cursor_B_j16 K KX G0) (
      K (rat G0 ((txo 19 p0) + 4) 4 p1) G0))
set_option maxHeartbeats 4000000 in
set_option maxRecDepth 100000 in
theorem t_X10_cursor_B {l : Launch} (hlf : l.stackTraces = false)  (p0 : Int32) (p1 : Int32) (G0 : Gt) (K : Int32 → Gt → Prop) (KX : Nat → Gt → Prop) (hw : w_X10_cursor_B K KX p0 p1 G0) : CTX l yX10_cursor cX10_cursor 3 (some .int) 6 90 [.ref 0, .int p0, .int p1] shB G0 (fun r G' => ∃ v, r = some (.int v) ∧ K v G') KX := by
  refine CTX_of (by decide) (Nat.le_of_ble_eq_true rfl) rfl ?_
  intro p e s m args below meth c D tA ad A C hr hnt
  have h16 : ∀ (G0 : Gt), w_X10_cursor_B_j16 K KX  G0 → aw p l e { frames := 6, cells := 1, slots := 6, locals := 90 } s m args below meth c 3 D tA A (vx_MQ below (QC0 D tA ad A shB (fun r G' => ∃ v, r = some (.int v) ∧ K v G')) (XQ D tA ad A shB KX) args s 1 6 A) 0 0 ad 16 [none, none, none] [] shB G0 := by
    intro   G0 hw
    unfold w_X10_cursor_B_j16 at hw
    exact aw_throw (kE := 0) hlf C (by decide) (by decide +kernel) mC_X10_41 mI_java_lang_IndexOutOfBoundsException mS_X10_207 xt_g0 xt_b0 xt_o0 dX10_cursor_16 dX10_cursor_19 dX10_cursor_20 dX10_cursor_22 dX10_cursor_25 hnt ⟨Nat.le_of_ble_eq_true rfl, Nat.le_of_ble_eq_true rfl, Nat.le_of_ble_eq_true rfl, Nat.le_of_ble_eq_true rfl⟩ (Nat.le_of_ble_eq_true rfl) (Nat.le_of_ble_eq_true rfl) hw
  unfold w_X10_cursor_B at hw
  show aw p l e { frames := 6, cells := 1, slots := 6, locals := 90 } s m args below meth c 3 D tA A (vx_MQ below (QC0 D tA ad A shB (fun r G' => ∃ v, r = some (.int v) ∧ K v G')) (XQ D tA ad A shB KX) args s 1 6 A) 0 0 ad 0 [some (.ref 0), some (.int p0), some (.int p1)] [] shB G0
  refine aw_iloadn C dX10_cursor_0 rfl ?_
  refine aw_iconst (v := 2) C dX10_cursor_1 (by decide) ?_
  refine aw_callS C dX10_cursor_2 (t_isBelow p0 2 _) mM_X10_68 bX10_isBelow rfl rfl ⟨Nat.le_of_ble_eq_true rfl, Nat.le_of_ble_eq_true rfl, Nat.zero_le _, Nat.zero_le _⟩ _ rfl (Nat.le_of_ble_eq_true rfl) (fun r2 G2x hq => ?_)
  obtain ⟨rfl, rfl⟩ := hq
  refine aw_if_eq C dX10_cursor_5 16 (by decide) hw (fun hc5 hw => ?_) (fun hc5 hw => ?_)
  · exact aw_msk [false, false, false] (h16 _ hw)
  · refine aw_iloadn C dX10_cursor_8 rfl ?_
    refine aw_iconst (v := 4) C dX10_cursor_9 (by decide) ?_
    refine aw_callS C dX10_cursor_10 (t_isBelow p1 4 _) mM_X10_68 bX10_isBelow rfl rfl ⟨Nat.le_of_ble_eq_true rfl, Nat.le_of_ble_eq_true rfl, Nat.zero_le _, Nat.zero_le _⟩ _ rfl (Nat.le_of_ble_eq_true rfl) (fun r10 G10x hq => ?_)
    obtain ⟨rfl, rfl⟩ := hq
    refine aw_if_ne C dX10_cursor_13 26 (by decide) hw (fun hc13 hw => ?_) (fun hc13 hw => ?_)
    · refine aw_aloadn C dX10_cursor_26 rfl ?_
      refine aw_getR (r := 19) C dX10_cursor_27 kcX10 shB_0 1 (by decide) rfl mF_X10_19 ?_
      refine aw_iloadn C dX10_cursor_30 rfl ?_
      refine aw_callV C dX10_cursor_31 (t_textOf (worldS_19 shOK_B) p0 _) mM_X10_128 bX9_textOf (worldS_19 shOK_B).1 rfl rfl ⟨Nat.le_of_ble_eq_true rfl, Nat.le_of_ble_eq_true rfl, Nat.zero_le _, Nat.zero_le _⟩ _ rfl (Nat.le_of_ble_eq_true rfl) (fun r31 G31x hq => ?_)
      obtain ⟨rfl, rfl⟩ := hq
      refine aw_getR (r := ((txo 19 p0) + 3)) C dX10_cursor_34 kcX8 (text_txo (worldS_19 shOK_B) p0).1 1 (by decide) rfl mF_X10_209 ?_
      refine aw_iloadn C dX10_cursor_37 rfl ?_
      refine aw_callV C dX10_cursor_38 (t_at (text_txo (worldS_19 shOK_B) p0).2.2 (Nat.le_of_ble_eq_true rfl) p1 _) mM_X10_90 bX6_at (text_txo (worldS_19 shOK_B) p0).2.2.1 rfl rfl ⟨Nat.le_of_ble_eq_true rfl, Nat.le_of_ble_eq_true rfl, Nat.zero_le _, Nat.zero_le _⟩ _ rfl (Nat.le_of_ble_eq_true rfl) (fun r38 G38x hq => ?_)
      obtain ⟨rfl, rfl⟩ := hq
      exact aw_vx (Nat.zero_le _) (Nat.zero_le _) (aw_ireturn C hr dX10_cursor_41 ⟨_, rfl, hw⟩)
    · exact aw_msk [false, false, false] (h16 _ hw)
def w_X10_activeCursor_B (K : Int32 → Gt → Prop) (KX : Nat → Gt → Prop) (p0 : Int32) (G0 : Gt) : Prop :=
  pif ((ibl p0 2) = 0) (
    KX 0 G0) (
    K (G0 (txo 19 p0) 3) G0)
set_option maxHeartbeats 4000000 in
set_option maxRecDepth 100000 in
theorem t_X10_activeCursor_B {l : Launch} (hlf : l.stackTraces = false)  (p0 : Int32) (G0 : Gt) (K : Int32 → Gt → Prop) (KX : Nat → Gt → Prop) (hw : w_X10_activeCursor_B K KX p0 G0) : CTX l yX10_activeCursor cX10_activeCursor 2 (some .int) 6 90 [.ref 0, .int p0] shB G0 (fun r G' => ∃ v, r = some (.int v) ∧ K v G') KX := by
  refine CTX_of (by decide) (Nat.le_of_ble_eq_true rfl) rfl ?_
  intro p e s m args below meth c D tA ad A C hr hnt
  unfold w_X10_activeCursor_B at hw
  show aw p l e { frames := 6, cells := 1, slots := 6, locals := 90 } s m args below meth c 2 D tA A (vx_MQ below (QC0 D tA ad A shB (fun r G' => ∃ v, r = some (.int v) ∧ K v G')) (XQ D tA ad A shB KX) args s 1 6 A) 0 0 ad 0 [some (.ref 0), some (.int p0)] [] shB G0
  refine aw_iloadn C dX10_activeCursor_0 rfl ?_
  refine aw_iconst (v := 2) C dX10_activeCursor_1 (by decide) ?_
  refine aw_callS C dX10_activeCursor_2 (t_isBelow p0 2 _) mM_X10_68 bX10_isBelow rfl rfl ⟨Nat.le_of_ble_eq_true rfl, Nat.le_of_ble_eq_true rfl, Nat.zero_le _, Nat.zero_le _⟩ _ rfl (Nat.le_of_ble_eq_true rfl) (fun r2 G2x hq => ?_)
  obtain ⟨rfl, rfl⟩ := hq
  refine aw_if_ne C dX10_activeCursor_5 18 (by decide) hw (fun hc5 hw => ?_) (fun hc5 hw => ?_)
  · refine aw_aloadn C dX10_activeCursor_18 rfl ?_
    refine aw_getR (r := 19) C dX10_activeCursor_19 kcX10 shB_0 1 (by decide) rfl mF_X10_19 ?_
    refine aw_iloadn C dX10_activeCursor_22 rfl ?_
    refine aw_callV C dX10_activeCursor_23 (t_textOf (worldS_19 shOK_B) p0 _) mM_X10_128 bX9_textOf (worldS_19 shOK_B).1 rfl rfl ⟨Nat.le_of_ble_eq_true rfl, Nat.le_of_ble_eq_true rfl, Nat.zero_le _, Nat.zero_le _⟩ _ rfl (Nat.le_of_ble_eq_true rfl) (fun r23 G23x hq => ?_)
    obtain ⟨rfl, rfl⟩ := hq
    refine aw_getI C dX10_activeCursor_26 kcX8 (text_txo (worldS_19 shOK_B) p0).1 3 (by decide) rfl mF_X10_212 ?_
    exact aw_vx (Nat.zero_le _) (Nat.zero_le _) (aw_ireturn C hr dX10_activeCursor_29 ⟨_, rfl, hw⟩)
  · exact aw_throw (kE := 0) hlf C (by decide) (by decide +kernel) mC_X10_41 mI_java_lang_IndexOutOfBoundsException mS_X10_124 xt_g0 xt_b0 xt_o0 dX10_activeCursor_8 dX10_activeCursor_11 dX10_activeCursor_12 dX10_activeCursor_14 dX10_activeCursor_17 hnt ⟨Nat.le_of_ble_eq_true rfl, Nat.le_of_ble_eq_true rfl, Nat.le_of_ble_eq_true rfl, Nat.le_of_ble_eq_true rfl⟩ (Nat.le_of_ble_eq_true rfl) (Nat.le_of_ble_eq_true rfl) hw
def w_X10_option_B (K : Int32 → Gt → Prop) (KX : Nat → Gt → Prop) (p0 : Int32) (G0 : Gt) : Prop :=
  pif ((ibl p0 4) = 0) (
    KX 0 G0) (
    K (rat G0 31 4 p0) G0)
set_option maxHeartbeats 4000000 in
set_option maxRecDepth 100000 in
theorem t_X10_option_B {l : Launch} (hlf : l.stackTraces = false)  (p0 : Int32) (G0 : Gt) (K : Int32 → Gt → Prop) (KX : Nat → Gt → Prop) (hw : w_X10_option_B K KX p0 G0) : CTX l yX10_option cX10_option 2 (some .int) 6 90 [.ref 0, .int p0] shB G0 (fun r G' => ∃ v, r = some (.int v) ∧ K v G') KX := by
  refine CTX_of (by decide) (Nat.le_of_ble_eq_true rfl) rfl ?_
  intro p e s m args below meth c D tA ad A C hr hnt
  unfold w_X10_option_B at hw
  show aw p l e { frames := 6, cells := 1, slots := 6, locals := 90 } s m args below meth c 2 D tA A (vx_MQ below (QC0 D tA ad A shB (fun r G' => ∃ v, r = some (.int v) ∧ K v G')) (XQ D tA ad A shB KX) args s 1 6 A) 0 0 ad 0 [some (.ref 0), some (.int p0)] [] shB G0
  refine aw_iloadn C dX10_option_0 rfl ?_
  refine aw_iconst (v := 4) C dX10_option_1 (by decide) ?_
  refine aw_callS C dX10_option_2 (t_isBelow p0 4 _) mM_X10_68 bX10_isBelow rfl rfl ⟨Nat.le_of_ble_eq_true rfl, Nat.le_of_ble_eq_true rfl, Nat.zero_le _, Nat.zero_le _⟩ _ rfl (Nat.le_of_ble_eq_true rfl) (fun r2 G2x hq => ?_)
  obtain ⟨rfl, rfl⟩ := hq
  refine aw_if_ne C dX10_option_5 18 (by decide) hw (fun hc5 hw => ?_) (fun hc5 hw => ?_)
  · refine aw_aloadn C dX10_option_18 rfl ?_
    refine aw_getR (r := 19) C dX10_option_19 kcX10 shB_0 1 (by decide) rfl mF_X10_19 ?_
    refine aw_getR (r := 30) C dX10_option_22 kcX9 (worldS_19 shOK_B).1 2 (by decide) rfl mF_X10_116 ?_
    refine aw_iloadn C dX10_option_25 rfl ?_
    refine aw_callV C dX10_option_26 (t_at (rowS_30 shOK_B) (Nat.le_of_ble_eq_true rfl) p0 _) mM_X10_90 bX6_at (rowS_30 shOK_B).1 rfl rfl ⟨Nat.le_of_ble_eq_true rfl, Nat.le_of_ble_eq_true rfl, Nat.zero_le _, Nat.zero_le _⟩ _ rfl (Nat.le_of_ble_eq_true rfl) (fun r26 G26x hq => ?_)
    obtain ⟨rfl, rfl⟩ := hq
    exact aw_vx (Nat.zero_le _) (Nat.zero_le _) (aw_ireturn C hr dX10_option_29 ⟨_, rfl, hw⟩)
  · exact aw_throw (kE := 0) hlf C (by decide) (by decide +kernel) mC_X10_41 mI_java_lang_IndexOutOfBoundsException mS_X10_109 xt_g0 xt_b0 xt_o0 dX10_option_8 dX10_option_11 dX10_option_12 dX10_option_14 dX10_option_17 hnt ⟨Nat.le_of_ble_eq_true rfl, Nat.le_of_ble_eq_true rfl, Nat.le_of_ble_eq_true rfl, Nat.le_of_ble_eq_true rfl⟩ (Nat.le_of_ble_eq_true rfl) (Nat.le_of_ble_eq_true rfl) hw
def w_X10_register_B (K : Int32 → Gt → Prop) (KX : Nat → Gt → Prop) (p0 : Int32) (G0 : Gt) : Prop :=
  pif ((ibl p0 4) = 0) (
    KX 0 G0) (
    K (rat G0 33 4 p0) G0)
set_option maxHeartbeats 4000000 in
set_option maxRecDepth 100000 in
theorem t_X10_register_B {l : Launch} (hlf : l.stackTraces = false)  (p0 : Int32) (G0 : Gt) (K : Int32 → Gt → Prop) (KX : Nat → Gt → Prop) (hw : w_X10_register_B K KX p0 G0) : CTX l yX10_register cX10_register 2 (some .int) 6 90 [.ref 0, .int p0] shB G0 (fun r G' => ∃ v, r = some (.int v) ∧ K v G') KX := by
  refine CTX_of (by decide) (Nat.le_of_ble_eq_true rfl) rfl ?_
  intro p e s m args below meth c D tA ad A C hr hnt
  unfold w_X10_register_B at hw
  show aw p l e { frames := 6, cells := 1, slots := 6, locals := 90 } s m args below meth c 2 D tA A (vx_MQ below (QC0 D tA ad A shB (fun r G' => ∃ v, r = some (.int v) ∧ K v G')) (XQ D tA ad A shB KX) args s 1 6 A) 0 0 ad 0 [some (.ref 0), some (.int p0)] [] shB G0
  refine aw_iloadn C dX10_register_0 rfl ?_
  refine aw_iconst (v := 4) C dX10_register_1 (by decide) ?_
  refine aw_callS C dX10_register_2 (t_isBelow p0 4 _) mM_X10_68 bX10_isBelow rfl rfl ⟨Nat.le_of_ble_eq_true rfl, Nat.le_of_ble_eq_true rfl, Nat.zero_le _, Nat.zero_le _⟩ _ rfl (Nat.le_of_ble_eq_true rfl) (fun r2 G2x hq => ?_)
  obtain ⟨rfl, rfl⟩ := hq
  refine aw_if_ne C dX10_register_5 18 (by decide) hw (fun hc5 hw => ?_) (fun hc5 hw => ?_)
  · refine aw_aloadn C dX10_register_18 rfl ?_
    refine aw_getR (r := 19) C dX10_register_19 kcX10 shB_0 1 (by decide) rfl mF_X10_19 ?_
    refine aw_getR (r := 32) C dX10_register_22 kcX9 (worldS_19 shOK_B).1 3 (by decide) rfl mF_X10_217 ?_
    refine aw_iloadn C dX10_register_25 rfl ?_
    refine aw_callV C dX10_register_26 (t_at (rowS_32 shOK_B) (Nat.le_of_ble_eq_true rfl) p0 _) mM_X10_90 bX6_at (rowS_32 shOK_B).1 rfl rfl ⟨Nat.le_of_ble_eq_true rfl, Nat.le_of_ble_eq_true rfl, Nat.zero_le _, Nat.zero_le _⟩ _ rfl (Nat.le_of_ble_eq_true rfl) (fun r26 G26x hq => ?_)
    obtain ⟨rfl, rfl⟩ := hq
    exact aw_vx (Nat.zero_le _) (Nat.zero_le _) (aw_ireturn C hr dX10_register_29 ⟨_, rfl, hw⟩)
  · exact aw_throw (kE := 0) hlf C (by decide) (by decide +kernel) mC_X10_41 mI_java_lang_IndexOutOfBoundsException mS_X10_215 xt_g0 xt_b0 xt_o0 dX10_register_8 dX10_register_11 dX10_register_12 dX10_register_14 dX10_register_17 hnt ⟨Nat.le_of_ble_eq_true rfl, Nat.le_of_ble_eq_true rfl, Nat.le_of_ble_eq_true rfl, Nat.le_of_ble_eq_true rfl⟩ (Nat.le_of_ble_eq_true rfl) (Nat.le_of_ble_eq_true rfl) hw
def w_X10_body_B (K : Int32 → Gt → Prop) (KX : Nat → Gt → Prop) (p0 : Int32) (G0 : Gt) : Prop :=
  pif ((ibl p0 6) = 0) (
    KX 0 G0) (
    K (rat G0 35 6 p0) G0)
set_option maxHeartbeats 4000000 in
set_option maxRecDepth 100000 in
theorem t_X10_body_B {l : Launch} (hlf : l.stackTraces = false)  (p0 : Int32) (G0 : Gt) (K : Int32 → Gt → Prop) (KX : Nat → Gt → Prop) (hw : w_X10_body_B K KX p0 G0) : CTX l yX10_body cX10_body 2 (some .int) 6 90 [.ref 0, .int p0] shB G0 (fun r G' => ∃ v, r = some (.int v) ∧ K v G') KX := by
  refine CTX_of (by decide) (Nat.le_of_ble_eq_true rfl) rfl ?_
  intro p e s m args below meth c D tA ad A C hr hnt
  unfold w_X10_body_B at hw
  show aw p l e { frames := 6, cells := 1, slots := 6, locals := 90 } s m args below meth c 2 D tA A (vx_MQ below (QC0 D tA ad A shB (fun r G' => ∃ v, r = some (.int v) ∧ K v G')) (XQ D tA ad A shB KX) args s 1 6 A) 0 0 ad 0 [some (.ref 0), some (.int p0)] [] shB G0
  refine aw_iloadn C dX10_body_0 rfl ?_
  refine aw_bipush (v := 6) C dX10_body_1 (by decide) ?_
  refine aw_callS C dX10_body_3 (t_isBelow p0 6 _) mM_X10_68 bX10_isBelow rfl rfl ⟨Nat.le_of_ble_eq_true rfl, Nat.le_of_ble_eq_true rfl, Nat.zero_le _, Nat.zero_le _⟩ _ rfl (Nat.le_of_ble_eq_true rfl) (fun r3 G3x hq => ?_)
  obtain ⟨rfl, rfl⟩ := hq
  refine aw_if_ne C dX10_body_6 19 (by decide) hw (fun hc6 hw => ?_) (fun hc6 hw => ?_)
  · refine aw_aloadn C dX10_body_19 rfl ?_
    refine aw_getR (r := 19) C dX10_body_20 kcX10 shB_0 1 (by decide) rfl mF_X10_19 ?_
    refine aw_getR (r := 34) C dX10_body_23 kcX9 (worldS_19 shOK_B).1 4 (by decide) rfl mF_X10_86 ?_
    refine aw_iloadn C dX10_body_26 rfl ?_
    refine aw_callV C dX10_body_27 (t_at (rowS_34 shOK_B) (Nat.le_of_ble_eq_true rfl) p0 _) mM_X10_90 bX6_at (rowS_34 shOK_B).1 rfl rfl ⟨Nat.le_of_ble_eq_true rfl, Nat.le_of_ble_eq_true rfl, Nat.zero_le _, Nat.zero_le _⟩ _ rfl (Nat.le_of_ble_eq_true rfl) (fun r27 G27x hq => ?_)
    obtain ⟨rfl, rfl⟩ := hq
    exact aw_vx (Nat.zero_le _) (Nat.zero_le _) (aw_ireturn C hr dX10_body_30 ⟨_, rfl, hw⟩)
  · exact aw_throw (kE := 0) hlf C (by decide) (by decide +kernel) mC_X10_41 mI_java_lang_IndexOutOfBoundsException mS_X10_220 xt_g0 xt_b0 xt_o0 dX10_body_9 dX10_body_12 dX10_body_13 dX10_body_15 dX10_body_18 hnt ⟨Nat.le_of_ble_eq_true rfl, Nat.le_of_ble_eq_true rfl, Nat.le_of_ble_eq_true rfl, Nat.le_of_ble_eq_true rfl⟩ (Nat.le_of_ble_eq_true rfl) (Nat.le_of_ble_eq_true rfl) hw
def w_X10_define_B_j38 (K : Int32 → Gt → Prop) (KX : Nat → Gt → Prop)  (G0 : Gt) : Prop :=
  KX 0 G0
def w_X10_define_B_j67 (K : Int32 → Gt → Prop) (KX : Nat → Gt → Prop)  (G0 : Gt) : Prop :=
  KX 1 G0
def w_X10_define_B_j77 (K : Int32 → Gt → Prop) (KX : Nat → Gt → Prop) (x1 : Int32) (x2 : Int32) (x3 : Int32) (x4 : Int32) (G0 : Gt) : Prop :=
  w_X10_isStepped_B (fun v4 G3 =>
    pif (v4 = 0) (
      pt (rput G3 35 6 x1 x3) fun G5 =>
      pt (rput G5 37 6 x1 x2) fun G6 =>
      pt (rput G6 39 6 x1 x4) fun G7 =>
      K (rat G3 35 6 x1) G7) (
      KX 2 G3)) G0
def w_X10_define_B_j48 (K : Int32 → Gt → Prop) (KX : Nat → Gt → Prop) (x1 : Int32) (x2 : Int32) (x3 : Int32) (x4 : Int32) (G0 : Gt) : Prop :=
  pif ((ibl x2 3) = 0) (
    w_X10_define_B_j67 K KX G0) (
    pif (x4 = (-1)) (
      w_X10_define_B_j77 K KX x1 x2 x3 x4 G0) (
      pif (x2 = 2) (
        w_X10_define_B_j77 K KX x1 x2 x3 x4 G0) (
        w_X10_define_B_j67 K KX G0)))
def w_X10_define_B (K : Int32 → Gt → Prop) (KX : Nat → Gt → Prop) (p0 : Int32) (p1 : Int32) (p2 : Int32) (p3 : Int32) (G0 : Gt) : Prop :=
  pif ((ibl p0 6) = 0) (
    w_X10_define_B_j38 K KX G0) (
    w_X4_has (fun v2 G1 =>
      pif (v2 = 0) (
        w_X10_define_B_j38 K KX G1) (
        pif (p3 = (-1)) (
          w_X10_define_B_j48 K KX p0 p1 p2 p3 G1) (
          w_X4_has (fun v9 G8 =>
            pif (v9 = 0) (
              w_X10_define_B_j38 K KX G8) (
              w_X10_define_B_j48 K KX p0 p1 p2 p3 G8)) p3 G1))) p2 G0)
set_option maxHeartbeats 4000000 in
set_option maxRecDepth 100000 in
theorem t_X10_define_B {l : Launch} (hlf : l.stackTraces = false)  (p0 : Int32) (p1 : Int32) (p2 : Int32) (p3 : Int32) (G0 : Gt) (K : Int32 → Gt → Prop) (KX : Nat → Gt → Prop) (hw : w_X10_define_B K KX p0 p1 p2 p3 G0) : CTX l yX10_define cX10_define 6 (some .int) 6 90 [.ref 0, .int p0, .int p1, .int p2, .int p3] shB G0 (fun r G' => ∃ v, r = some (.int v) ∧ K v G') KX := by
  refine CTX_of (by decide) (Nat.le_of_ble_eq_true rfl) rfl ?_
  intro p e s m args below meth c D tA ad A C hr hnt
  have h38 : ∀ (G0 : Gt), w_X10_define_B_j38 K KX  G0 → aw p l e { frames := 6, cells := 1, slots := 6, locals := 90 } s m args below meth c 6 D tA A (vx_MQ below (QC0 D tA ad A shB (fun r G' => ∃ v, r = some (.int v) ∧ K v G')) (XQ D tA ad A shB KX) args s 1 6 A) 0 0 ad 38 [none, none, none, none, none, none] [] shB G0 := by
    intro   G0 hw
    unfold w_X10_define_B_j38 at hw
    exact aw_throw (kE := 0) hlf C (by decide) (by decide +kernel) mC_X10_41 mI_java_lang_IndexOutOfBoundsException mS_X10_76 xt_g0 xt_b0 xt_o0 dX10_define_38 dX10_define_41 dX10_define_42 dX10_define_44 dX10_define_47 hnt ⟨Nat.le_of_ble_eq_true rfl, Nat.le_of_ble_eq_true rfl, Nat.le_of_ble_eq_true rfl, Nat.le_of_ble_eq_true rfl⟩ (Nat.le_of_ble_eq_true rfl) (Nat.le_of_ble_eq_true rfl) hw
  have h67 : ∀ (G0 : Gt), w_X10_define_B_j67 K KX  G0 → aw p l e { frames := 6, cells := 1, slots := 6, locals := 90 } s m args below meth c 6 D tA A (vx_MQ below (QC0 D tA ad A shB (fun r G' => ∃ v, r = some (.int v) ∧ K v G')) (XQ D tA ad A shB KX) args s 1 6 A) 0 0 ad 67 [none, none, none, none, none, none] [] shB G0 := by
    intro   G0 hw
    unfold w_X10_define_B_j67 at hw
    exact aw_throw (kE := 1) hlf C (by decide) (by decide +kernel) mC_X10_51 mI_java_lang_IllegalArgumentException mS_X10_78 xt_g1 xt_b1 xt_o1 dX10_define_67 dX10_define_70 dX10_define_71 dX10_define_73 dX10_define_76 hnt ⟨Nat.le_of_ble_eq_true rfl, Nat.le_of_ble_eq_true rfl, Nat.le_of_ble_eq_true rfl, Nat.le_of_ble_eq_true rfl⟩ (Nat.le_of_ble_eq_true rfl) (Nat.le_of_ble_eq_true rfl) hw
  have h77 : ∀ (x1 : Int32) (x2 : Int32) (x3 : Int32) (x4 : Int32) (G0 : Gt), w_X10_define_B_j77 K KX x1 x2 x3 x4 G0 → aw p l e { frames := 6, cells := 1, slots := 6, locals := 90 } s m args below meth c 6 D tA A (vx_MQ below (QC0 D tA ad A shB (fun r G' => ∃ v, r = some (.int v) ∧ K v G')) (XQ D tA ad A shB KX) args s 1 6 A) 0 0 ad 77 [some (.ref 0), some (.int x1), some (.int x2), some (.int x3), some (.int x4), none] [] shB G0 := by
    intro  x1 x2 x3 x4 G0 hw
    unfold w_X10_define_B_j77 at hw
    refine aw_aloadn C dX10_define_77 rfl ?_
    refine aw_callV C dX10_define_78 (t_X10_isStepped_B _ _ hw) mM_X10_80 bX10_isStepped shB_0 rfl rfl ⟨Nat.le_of_ble_eq_true rfl, Nat.le_of_ble_eq_true rfl, Nat.zero_le _, Nat.zero_le _⟩ _ rfl (Nat.le_of_ble_eq_true rfl) (fun r78 G3 hq => ?_)
    obtain ⟨v4, rfl, hw⟩ := hq
    refine aw_if_eq C dX10_define_81 94 (by decide) hw (fun hc81 hw => ?_) (fun hc81 hw => ?_)
    · refine aw_aloadn C dX10_define_94 rfl ?_
      refine aw_getR (r := 19) C dX10_define_95 kcX10 shB_0 1 (by decide) rfl mF_X10_19 ?_
      refine aw_getR (r := 34) C dX10_define_98 kcX9 (worldS_19 shOK_B).1 4 (by decide) rfl mF_X10_86 ?_
      refine aw_iloadn C dX10_define_101 rfl ?_
      refine aw_callV C dX10_define_102 (t_at (rowS_34 shOK_B) (Nat.le_of_ble_eq_true rfl) x1 _) mM_X10_90 bX6_at (rowS_34 shOK_B).1 rfl rfl ⟨Nat.le_of_ble_eq_true rfl, Nat.le_of_ble_eq_true rfl, Nat.zero_le _, Nat.zero_le _⟩ _ rfl (Nat.le_of_ble_eq_true rfl) (fun r102 G102x hq => ?_)
      obtain ⟨rfl, rfl⟩ := hq
      refine aw_istore C dX10_define_105 (by decide) rfl ?_
      refine aw_aloadn C dX10_define_107 rfl ?_
      refine aw_getR (r := 19) C dX10_define_108 kcX10 shB_0 1 (by decide) rfl mF_X10_19 ?_
      refine aw_getR (r := 34) C dX10_define_111 kcX9 (worldS_19 shOK_B).1 4 (by decide) rfl mF_X10_86 ?_
      refine aw_iloadn C dX10_define_114 rfl ?_
      refine aw_iloadn C dX10_define_115 rfl ?_
      refine aw_callV C dX10_define_116 (t_put (rowS_34 shOK_B) (Nat.le_of_ble_eq_true rfl) x1 x3 _) mM_X10_96 bX6_put (rowS_34 shOK_B).1 rfl rfl ⟨Nat.le_of_ble_eq_true rfl, Nat.le_of_ble_eq_true rfl, Nat.zero_le _, Nat.zero_le _⟩ _ rfl (Nat.le_of_ble_eq_true rfl) (fun r116 G5 hq => ?_)
      obtain ⟨rfl, hq⟩ := hq
      replace hw := pt_eq hw hq
      refine aw_aloadn C dX10_define_119 rfl ?_
      refine aw_getR (r := 19) C dX10_define_120 kcX10 shB_0 1 (by decide) rfl mF_X10_19 ?_
      refine aw_getR (r := 36) C dX10_define_123 kcX9 (worldS_19 shOK_B).1 5 (by decide) rfl mF_X10_100 ?_
      refine aw_iloadn C dX10_define_126 rfl ?_
      refine aw_iloadn C dX10_define_127 rfl ?_
      refine aw_callV C dX10_define_128 (t_put (rowS_36 shOK_B) (Nat.le_of_ble_eq_true rfl) x1 x2 _) mM_X10_96 bX6_put (rowS_36 shOK_B).1 rfl rfl ⟨Nat.le_of_ble_eq_true rfl, Nat.le_of_ble_eq_true rfl, Nat.zero_le _, Nat.zero_le _⟩ _ rfl (Nat.le_of_ble_eq_true rfl) (fun r128 G6 hq => ?_)
      obtain ⟨rfl, hq⟩ := hq
      replace hw := pt_eq hw hq
      refine aw_aloadn C dX10_define_131 rfl ?_
      refine aw_getR (r := 19) C dX10_define_132 kcX10 shB_0 1 (by decide) rfl mF_X10_19 ?_
      refine aw_getR (r := 38) C dX10_define_135 kcX9 (worldS_19 shOK_B).1 6 (by decide) rfl mF_X10_103 ?_
      refine aw_iloadn C dX10_define_138 rfl ?_
      refine aw_iload C dX10_define_139 rfl ?_
      refine aw_callV C dX10_define_141 (t_put (rowS_38 shOK_B) (Nat.le_of_ble_eq_true rfl) x1 x4 _) mM_X10_96 bX6_put (rowS_38 shOK_B).1 rfl rfl ⟨Nat.le_of_ble_eq_true rfl, Nat.le_of_ble_eq_true rfl, Nat.zero_le _, Nat.zero_le _⟩ _ rfl (Nat.le_of_ble_eq_true rfl) (fun r141 G7 hq => ?_)
      obtain ⟨rfl, hq⟩ := hq
      replace hw := pt_eq hw hq
      refine aw_iload C dX10_define_144 rfl ?_
      exact aw_vx (Nat.zero_le _) (Nat.zero_le _) (aw_ireturn C hr dX10_define_146 ⟨_, rfl, hw⟩)
    · exact aw_throw (kE := 2) hlf C (by decide) (by decide +kernel) mC_X10_59 mI_java_lang_IllegalStateException mS_X10_84 xt_g2 xt_b2 xt_o2 dX10_define_84 dX10_define_87 dX10_define_88 dX10_define_90 dX10_define_93 hnt ⟨Nat.le_of_ble_eq_true rfl, Nat.le_of_ble_eq_true rfl, Nat.le_of_ble_eq_true rfl, Nat.le_of_ble_eq_true rfl⟩ (Nat.le_of_ble_eq_true rfl) (Nat.le_of_ble_eq_true rfl) hw
  have h48 : ∀ (x1 : Int32) (x2 : Int32) (x3 : Int32) (x4 : Int32) (G0 : Gt), w_X10_define_B_j48 K KX x1 x2 x3 x4 G0 → aw p l e { frames := 6, cells := 1, slots := 6, locals := 90 } s m args below meth c 6 D tA A (vx_MQ below (QC0 D tA ad A shB (fun r G' => ∃ v, r = some (.int v) ∧ K v G')) (XQ D tA ad A shB KX) args s 1 6 A) 0 0 ad 48 [some (.ref 0), some (.int x1), some (.int x2), some (.int x3), some (.int x4), none] [] shB G0 := by
    intro  x1 x2 x3 x4 G0 hw
    unfold w_X10_define_B_j48 at hw
    refine aw_iloadn C dX10_define_48 rfl ?_
    refine aw_iconst (v := 3) C dX10_define_49 (by decide) ?_
    refine aw_callS C dX10_define_50 (t_isBelow x2 3 _) mM_X10_68 bX10_isBelow rfl rfl ⟨Nat.le_of_ble_eq_true rfl, Nat.le_of_ble_eq_true rfl, Nat.zero_le _, Nat.zero_le _⟩ _ rfl (Nat.le_of_ble_eq_true rfl) (fun r50 G50x hq => ?_)
    obtain ⟨rfl, rfl⟩ := hq
    refine aw_if_eq C dX10_define_53 67 (by decide) hw (fun hc53 hw => ?_) (fun hc53 hw => ?_)
    · exact aw_msk [false, false, false, false, false, false] (h67 _ hw)
    · refine aw_iload C dX10_define_56 rfl ?_
      refine aw_iconst (v := (-1)) C dX10_define_58 (by decide) ?_
      refine aw_ic_eq C dX10_define_59 77 (by decide) hw (fun hc59 hw => ?_) (fun hc59 hw => ?_)
      · exact aw_msk [true, true, true, true, true, false] (h77 x1 x2 x3 x4 _ hw)
      · refine aw_iloadn C dX10_define_62 rfl ?_
        refine aw_iconst (v := 2) C dX10_define_63 (by decide) ?_
        refine aw_ic_eq C dX10_define_64 77 (by decide) hw (fun hc64 hw => ?_) (fun hc64 hw => ?_)
        · exact aw_msk [true, true, true, true, true, false] (h77 x1 x2 x3 x4 _ hw)
        · exact aw_msk [false, false, false, false, false, false] (h67 _ hw)
  unfold w_X10_define_B at hw
  show aw p l e { frames := 6, cells := 1, slots := 6, locals := 90 } s m args below meth c 6 D tA A (vx_MQ below (QC0 D tA ad A shB (fun r G' => ∃ v, r = some (.int v) ∧ K v G')) (XQ D tA ad A shB KX) args s 1 6 A) 0 0 ad 0 [some (.ref 0), some (.int p0), some (.int p1), some (.int p2), some (.int p3), none] [] shB G0
  refine aw_iloadn C dX10_define_0 rfl ?_
  refine aw_bipush (v := 6) C dX10_define_1 (by decide) ?_
  refine aw_callS C dX10_define_3 (t_isBelow p0 6 _) mM_X10_68 bX10_isBelow rfl rfl ⟨Nat.le_of_ble_eq_true rfl, Nat.le_of_ble_eq_true rfl, Nat.zero_le _, Nat.zero_le _⟩ _ rfl (Nat.le_of_ble_eq_true rfl) (fun r3 G3x hq => ?_)
  obtain ⟨rfl, rfl⟩ := hq
  refine aw_if_eq C dX10_define_6 38 (by decide) hw (fun hc6 hw => ?_) (fun hc6 hw => ?_)
  · exact aw_msk [false, false, false, false, false, false] (h38 _ hw)
  · refine aw_aloadn C dX10_define_9 rfl ?_
    refine aw_getR (r := 1) C dX10_define_10 kcX10 shB_0 0 (by decide) rfl mF_X10_12 ?_
    refine aw_iloadn C dX10_define_13 rfl ?_
    refine aw_callV C dX10_define_14 (t_X4_has shOK_B p2 _ _ hw) mM_X10_72 bX4_has shB_1 rfl rfl ⟨Nat.le_of_ble_eq_true rfl, Nat.le_of_ble_eq_true rfl, Nat.zero_le _, Nat.zero_le _⟩ _ rfl (Nat.le_of_ble_eq_true rfl) (fun r14 G1 hq => ?_)
    obtain ⟨v2, rfl, hw⟩ := hq
    refine aw_if_eq C dX10_define_17 38 (by decide) hw (fun hc17 hw => ?_) (fun hc17 hw => ?_)
    · exact aw_msk [false, false, false, false, false, false] (h38 _ hw)
    · refine aw_iload C dX10_define_20 rfl ?_
      refine aw_iconst (v := (-1)) C dX10_define_22 (by decide) ?_
      refine aw_ic_eq C dX10_define_23 48 (by decide) hw (fun hc23 hw => ?_) (fun hc23 hw => ?_)
      · exact aw_msk [true, true, true, true, true, false] (h48 p0 p1 p2 p3 _ hw)
      · refine aw_aloadn C dX10_define_26 rfl ?_
        refine aw_getR (r := 1) C dX10_define_27 kcX10 shB_0 0 (by decide) rfl mF_X10_12 ?_
        refine aw_iload C dX10_define_30 rfl ?_
        refine aw_callV C dX10_define_32 (t_X4_has shOK_B p3 _ _ hw) mM_X10_72 bX4_has shB_1 rfl rfl ⟨Nat.le_of_ble_eq_true rfl, Nat.le_of_ble_eq_true rfl, Nat.zero_le _, Nat.zero_le _⟩ _ rfl (Nat.le_of_ble_eq_true rfl) (fun r32 G8 hq => ?_)
        obtain ⟨v9, rfl, hw⟩ := hq
        refine aw_if_ne C dX10_define_35 48 (by decide) hw (fun hc35 hw => ?_) (fun hc35 hw => ?_)
        · exact aw_msk [true, true, true, true, true, false] (h48 p0 p1 p2 p3 _ hw)
        · exact aw_msk [false, false, false, false, false, false] (h38 _ hw)
def w_X10_run_B (K : Int32 → Gt → Prop) (KX : Nat → Gt → Prop) (p0 : Int32) (G0 : Gt) : Prop :=
  w_X4_has (fun v2 G1 =>
    pif (v2 = 0) (
      KX 0 G1) (
      w_X10_isStepped_B (fun v4 G3 =>
        pif (v4 = 0) (
          w_X10_readyMachine_B (fun G5 =>
            w_X2_open 40 (fun G6 =>
              w_X2_advance (fun v8 G7 =>
                K (G7 40 0) G7) 601 0 G6) p0 (G5 0 4) G5) G3) (
          KX 2 G3)) G1)) p0 G0
set_option maxHeartbeats 4000000 in
set_option maxRecDepth 100000 in
theorem t_X10_run_B {l : Launch} (hlf : l.stackTraces = false)  (p0 : Int32) (G0 : Gt) (K : Int32 → Gt → Prop) (KX : Nat → Gt → Prop) (hw : w_X10_run_B K KX p0 G0) : CTX l yX10_run cX10_run 3 (some .int) 6 153 [.ref 0, .int p0] shB G0 (fun r G' => ∃ v, r = some (.int v) ∧ K v G') KX := by
  refine CTX_of (by decide) (Nat.le_of_ble_eq_true rfl) rfl ?_
  intro p e s m args below meth c D tA ad A C hr hnt
  unfold w_X10_run_B at hw
  show aw p l e { frames := 6, cells := 1, slots := 6, locals := 153 } s m args below meth c 3 D tA A (vx_MQ below (QC0 D tA ad A shB (fun r G' => ∃ v, r = some (.int v) ∧ K v G')) (XQ D tA ad A shB KX) args s 1 6 A) 0 0 ad 0 [some (.ref 0), some (.int p0), none] [] shB G0
  refine aw_aloadn C dX10_run_0 rfl ?_
  refine aw_getR (r := 1) C dX10_run_1 kcX10 shB_0 0 (by decide) rfl mF_X10_12 ?_
  refine aw_iloadn C dX10_run_4 rfl ?_
  refine aw_callV C dX10_run_5 (t_X4_has shOK_B p0 _ _ hw) mM_X10_72 bX4_has shB_1 rfl rfl ⟨Nat.le_of_ble_eq_true rfl, Nat.le_of_ble_eq_true rfl, Nat.zero_le _, Nat.zero_le _⟩ _ rfl (Nat.le_of_ble_eq_true rfl) (fun r5 G1 hq => ?_)
  obtain ⟨v2, rfl, hw⟩ := hq
  refine aw_if_ne C dX10_run_8 21 (by decide) hw (fun hc8 hw => ?_) (fun hc8 hw => ?_)
  · refine aw_aloadn C dX10_run_21 rfl ?_
    refine aw_callV C dX10_run_22 (t_X10_isStepped_B _ _ hw) mM_X10_80 bX10_isStepped shB_0 rfl rfl ⟨Nat.le_of_ble_eq_true rfl, Nat.le_of_ble_eq_true rfl, Nat.zero_le _, Nat.zero_le _⟩ _ rfl (Nat.le_of_ble_eq_true rfl) (fun r22 G3 hq => ?_)
    obtain ⟨v4, rfl, hw⟩ := hq
    refine aw_if_eq C dX10_run_25 38 (by decide) hw (fun hc25 hw => ?_) (fun hc25 hw => ?_)
    · refine aw_aloadn C dX10_run_38 rfl ?_
      refine aw_callV C dX10_run_39 (t_X10_readyMachine_B _ _ hw) mM_X10_143 bX10_readyMachine shB_0 rfl rfl ⟨Nat.le_of_ble_eq_true rfl, Nat.le_of_ble_eq_true rfl, Nat.zero_le _, Nat.zero_le _⟩ _ rfl (Nat.le_of_ble_eq_true rfl) (fun r39 G5 hq => ?_)
      obtain ⟨rfl, hw⟩ := hq
      refine aw_astoren C dX10_run_42 (by decide) rfl ?_
      refine aw_aloadn C dX10_run_43 rfl ?_
      refine aw_iloadn C dX10_run_44 rfl ?_
      refine aw_aloadn C dX10_run_45 rfl ?_
      refine aw_getI C dX10_run_46 kcX10 shB_0 4 (by decide) rfl mF_X10_33 ?_
      refine aw_aloadn C dX10_run_49 rfl ?_
      refine aw_getR (r := 40) C dX10_run_50 kcX10 shB_0 2 (by decide) rfl mF_X10_26 ?_
      refine aw_callV C dX10_run_53 (t_X2_open (Or.inl rfl) p0 (G5 0 4) _ _ hw) mM_X10_147 bX2_open shB_84 rfl rfl ⟨Nat.le_of_ble_eq_true rfl, Nat.le_of_ble_eq_true rfl, Nat.zero_le _, Nat.zero_le _⟩ _ rfl (Nat.le_of_ble_eq_true rfl) (fun r53 G6 hq => ?_)
      obtain ⟨rfl, hw⟩ := hq
      refine aw_aloadn C dX10_run_56 rfl ?_
      refine aw_sipush (v := 601) C dX10_run_57 (by decide) ?_
      refine aw_iconst (v := 0) C dX10_run_60 (by decide) ?_
      refine aw_callV C dX10_run_61 (t_X2_advance 601 0 _ _ hw) mM_X10_153 bX2_advance shB_84 rfl rfl ⟨Nat.le_of_ble_eq_true rfl, Nat.le_of_ble_eq_true rfl, Nat.zero_le _, Nat.zero_le _⟩ _ rfl (Nat.le_of_ble_eq_true rfl) (fun r61 G7 hq => ?_)
      obtain ⟨v8, rfl, hw⟩ := hq
      refine aw_pop C dX10_run_64 rfl ?_
      refine aw_aloadn C dX10_run_65 rfl ?_
      refine aw_getR (r := 40) C dX10_run_66 kcX10 shB_0 2 (by decide) rfl mF_X10_26 ?_
      refine aw_getI C dX10_run_69 kcX5 (reportS_40 shOK_B).1 0 (by decide) rfl mF_X10_157 ?_
      exact aw_vx (Nat.zero_le _) (Nat.zero_le _) (aw_ireturn C hr dX10_run_72 ⟨_, rfl, hw⟩)
    · exact aw_throw (kE := 2) hlf C (by decide) (by decide +kernel) mC_X10_59 mI_java_lang_IllegalStateException mS_X10_84 xt_g2 xt_b2 xt_o2 dX10_run_28 dX10_run_31 dX10_run_32 dX10_run_34 dX10_run_37 hnt ⟨Nat.le_of_ble_eq_true rfl, Nat.le_of_ble_eq_true rfl, Nat.le_of_ble_eq_true rfl, Nat.le_of_ble_eq_true rfl⟩ (Nat.le_of_ble_eq_true rfl) (Nat.le_of_ble_eq_true rfl) hw
  · exact aw_throw (kE := 0) hlf C (by decide) (by decide +kernel) mC_X10_41 mI_java_lang_IndexOutOfBoundsException mS_X10_43 xt_g0 xt_b0 xt_o0 dX10_run_11 dX10_run_14 dX10_run_15 dX10_run_17 dX10_run_20 hnt ⟨Nat.le_of_ble_eq_true rfl, Nat.le_of_ble_eq_true rfl, Nat.le_of_ble_eq_true rfl, Nat.le_of_ble_eq_true rfl⟩ (Nat.le_of_ble_eq_true rfl) (Nat.le_of_ble_eq_true rfl) hw
def w_X10_tried_B (K : Int32 → Gt → Prop) (KX : Nat → Gt → Prop) (p0 : Int32) (G0 : Gt) : Prop :=
  w_X4_has (fun v2 G1 =>
    pif (v2 = 0) (
      KX 0 G1) (
      w_X10_isStepped_B (fun v4 G3 =>
        pif (v4 = 0) (
          w_X10_tryOut_B (fun G5 =>
            K (G5 43 0) G5) p0 G3) (
          KX 2 G3)) G1)) p0 G0
set_option maxHeartbeats 4000000 in
set_option maxRecDepth 100000 in
theorem t_X10_tried_B {l : Launch} (hlf : l.stackTraces = false)  (p0 : Int32) (G0 : Gt) (K : Int32 → Gt → Prop) (KX : Nat → Gt → Prop) (hw : w_X10_tried_B K KX p0 G0) : CTX l yX10_tried cX10_tried 2 (some .int) 7 175 [.ref 0, .int p0] shB G0 (fun r G' => ∃ v, r = some (.int v) ∧ K v G') KX := by
  refine CTX_of (by decide) (Nat.le_of_ble_eq_true rfl) rfl ?_
  intro p e s m args below meth c D tA ad A C hr hnt
  unfold w_X10_tried_B at hw
  show aw p l e { frames := 7, cells := 1, slots := 6, locals := 175 } s m args below meth c 2 D tA A (vx_MQ below (QC0 D tA ad A shB (fun r G' => ∃ v, r = some (.int v) ∧ K v G')) (XQ D tA ad A shB KX) args s 1 6 A) 0 0 ad 0 [some (.ref 0), some (.int p0)] [] shB G0
  refine aw_aloadn C dX10_tried_0 rfl ?_
  refine aw_getR (r := 1) C dX10_tried_1 kcX10 shB_0 0 (by decide) rfl mF_X10_12 ?_
  refine aw_iloadn C dX10_tried_4 rfl ?_
  refine aw_callV C dX10_tried_5 (t_X4_has shOK_B p0 _ _ hw) mM_X10_72 bX4_has shB_1 rfl rfl ⟨Nat.le_of_ble_eq_true rfl, Nat.le_of_ble_eq_true rfl, Nat.zero_le _, Nat.zero_le _⟩ _ rfl (Nat.le_of_ble_eq_true rfl) (fun r5 G1 hq => ?_)
  obtain ⟨v2, rfl, hw⟩ := hq
  refine aw_if_ne C dX10_tried_8 21 (by decide) hw (fun hc8 hw => ?_) (fun hc8 hw => ?_)
  · refine aw_aloadn C dX10_tried_21 rfl ?_
    refine aw_callV C dX10_tried_22 (t_X10_isStepped_B _ _ hw) mM_X10_80 bX10_isStepped shB_0 rfl rfl ⟨Nat.le_of_ble_eq_true rfl, Nat.le_of_ble_eq_true rfl, Nat.zero_le _, Nat.zero_le _⟩ _ rfl (Nat.le_of_ble_eq_true rfl) (fun r22 G3 hq => ?_)
    obtain ⟨v4, rfl, hw⟩ := hq
    refine aw_if_eq C dX10_tried_25 38 (by decide) hw (fun hc25 hw => ?_) (fun hc25 hw => ?_)
    · refine aw_aloadn C dX10_tried_38 rfl ?_
      refine aw_iloadn C dX10_tried_39 rfl ?_
      refine aw_callV C dX10_tried_40 (t_X10_tryOut_B p0 _ _ hw) mM_X10_160 bX10_tryOut shB_0 rfl rfl ⟨Nat.le_of_ble_eq_true rfl, Nat.le_of_ble_eq_true rfl, Nat.zero_le _, Nat.zero_le _⟩ _ rfl (Nat.le_of_ble_eq_true rfl) (fun r40 G5 hq => ?_)
      obtain ⟨rfl, hw⟩ := hq
      refine aw_getI C dX10_tried_43 kcX5 (reportS_43 shOK_B).1 0 (by decide) rfl mF_X10_157 ?_
      exact aw_vx (Nat.zero_le _) (Nat.zero_le _) (aw_ireturn C hr dX10_tried_46 ⟨_, rfl, hw⟩)
    · exact aw_throw (kE := 2) hlf C (by decide) (by decide +kernel) mC_X10_59 mI_java_lang_IllegalStateException mS_X10_84 xt_g2 xt_b2 xt_o2 dX10_tried_28 dX10_tried_31 dX10_tried_32 dX10_tried_34 dX10_tried_37 hnt ⟨Nat.le_of_ble_eq_true rfl, Nat.le_of_ble_eq_true rfl, Nat.le_of_ble_eq_true rfl, Nat.le_of_ble_eq_true rfl⟩ (Nat.le_of_ble_eq_true rfl) (Nat.le_of_ble_eq_true rfl) hw
  · exact aw_throw (kE := 0) hlf C (by decide) (by decide +kernel) mC_X10_41 mI_java_lang_IndexOutOfBoundsException mS_X10_43 xt_g0 xt_b0 xt_o0 dX10_tried_11 dX10_tried_14 dX10_tried_15 dX10_tried_17 dX10_tried_20 hnt ⟨Nat.le_of_ble_eq_true rfl, Nat.le_of_ble_eq_true rfl, Nat.le_of_ble_eq_true rfl, Nat.le_of_ble_eq_true rfl⟩ (Nat.le_of_ble_eq_true rfl) (Nat.le_of_ble_eq_true rfl) hw
