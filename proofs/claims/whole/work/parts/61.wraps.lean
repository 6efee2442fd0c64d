theorem mW_node : Cond.codeWith yL_node cL_node 7 (some .int) [(0, 14, 17, 13), (0, 14, 21, 15), (0, 14, 25, 17)] ∈ GW := gw_t (tb2 (List.mem_of_getElem? (i := 50) rfl)) rfl
theorem mW_define : Cond.codeWith yL_define cL_define 7 (some .int) [(0, 14, 17, 13), (0, 14, 21, 15), (0, 14, 25, 17)] ∈ GW := gw_t (tb3 (List.mem_of_getElem? (i := 55) rfl)) rfl
theorem mW_size : Cond.codeWith yL_size cL_size 4 (some .int) [(0, 9, 12, 13)] ∈ GW := gw_t (tb3 (List.mem_of_getElem? (i := 73) rfl)) rfl
theorem mW_setOption : Cond.codeWith yL_setOption cL_setOption 5 (some .int) [(0, 10, 13, 13), (0, 10, 17, 15), (0, 10, 21, 17)] ∈ GW := gw_t (tb3 (List.mem_of_getElem? (i := 80) rfl)) rfl
theorem mW_setBudget : Cond.codeWith yL_setBudget cL_setBudget 4 (some .int) [(0, 9, 12, 15)] ∈ GW := gw_t (tb3 (List.mem_of_getElem? (i := 90) rfl)) rfl
theorem mW_write : Cond.codeWith yL_write cL_write 5 (some .int) [(0, 10, 13, 13), (0, 10, 17, 15), (0, 10, 21, 17)] ∈ GW := gw_t (tb3 (List.mem_of_getElem? (i := 101) rfl)) rfl
theorem mW_run : Cond.codeWith yL_run cL_run 4 (some .int) [(0, 9, 12, 13), (0, 9, 15, 17)] ∈ GW := gw_t (tb3 (List.mem_of_getElem? (i := 119) rfl)) rfl
theorem mW_tried : Cond.codeWith yL_tried cL_tried 4 (some .int) [(0, 9, 12, 13), (0, 9, 15, 17)] ∈ GW := gw_t (tb5 (List.mem_of_getElem? (i := 132) rfl)) rfl
theorem mW_triedSteps : Cond.codeWith yL_triedSteps cL_triedSteps 4 (some .int) [(0, 9, 12, 13), (0, 9, 15, 17)] ∈ GW := gw_t (tb5 (List.mem_of_getElem? (i := 144) rfl)) rfl
theorem mW_start : Cond.codeWith yL_start cL_start 3 (some .int) [(0, 5, 8, 13), (0, 5, 11, 17)] ∈ GW := gw_t (tb5 (List.mem_of_getElem? (i := 151) rfl)) rfl
theorem mW_step : Cond.codeWith yL_step cL_step 4 (some .int) [(0, 9, 12, 15), (0, 9, 15, 17)] ∈ GW := gw_t (tb5 (List.mem_of_getElem? (i := 158) rfl)) rfl
theorem mW_giveUp : Cond.codeWith yL_giveUp cL_giveUp 3 (some .int) [(0, 8, 11, 17)] ∈ GW := gw_t (tb5 (List.mem_of_getElem? (i := 166) rfl)) rfl
theorem mW_breakAt : Cond.codeWith yL_breakAt cL_breakAt 5 (some .int) [(0, 17, 20, 13)] ∈ GW := gw_t (tb5 (List.mem_of_getElem? (i := 177) rfl)) rfl
theorem mW_look : Cond.codeWith yL_look cL_look 4 (some .int) [(0, 9, 12, 13), (0, 9, 15, 17)] ∈ GW := gw_t (tb5 (List.mem_of_getElem? (i := 184) rfl)) rfl
theorem mW_traceAt : Cond.codeWith yL_traceAt cL_traceAt 4 (some .int) [(0, 9, 12, 13)] ∈ GW := gw_t (tb5 (List.mem_of_getElem? (i := 196) rfl)) rfl
theorem mW_length : Cond.codeWith yL_length cL_length 4 (some .int) [(0, 9, 12, 13)] ∈ GW := gw_t (tb5 (List.mem_of_getElem? (i := 204) rfl)) rfl
theorem mW_letter : Cond.codeWith yL_letter cL_letter 5 (some .int) [(0, 10, 13, 13)] ∈ GW := gw_t (tb5 (List.mem_of_getElem? (i := 211) rfl)) rfl
theorem mW_cursor : Cond.codeWith yL_cursor cL_cursor 5 (some .int) [(0, 10, 13, 13)] ∈ GW := gw_t (tb5 (List.mem_of_getElem? (i := 219) rfl)) rfl
theorem mW_activeCursor : Cond.codeWith yL_activeCursor cL_activeCursor 4 (some .int) [(0, 9, 12, 13)] ∈ GW := gw_t (tb5 (List.mem_of_getElem? (i := 227) rfl)) rfl
theorem mW_option : Cond.codeWith yL_option cL_option 4 (some .int) [(0, 9, 12, 13)] ∈ GW := gw_t (tb5 (List.mem_of_getElem? (i := 234) rfl)) rfl
theorem mW_register : Cond.codeWith yL_register cL_register 4 (some .int) [(0, 9, 12, 13)] ∈ GW := gw_t (tb6 (List.mem_of_getElem? (i := 1) rfl)) rfl
theorem mW_body : Cond.codeWith yL_body cL_body 4 (some .int) [(0, 9, 12, 13)] ∈ GW := gw_t (tb6 (List.mem_of_getElem? (i := 9) rfl)) rfl
theorem mT_node : Cond.static yL_node ∈ GW := gw_t (tb2 (List.mem_of_getElem? (i := 49) rfl)) rfl
theorem mT_define : Cond.static yL_define ∈ GW := gw_t (tb3 (List.mem_of_getElem? (i := 54) rfl)) rfl
theorem mT_size : Cond.static yL_size ∈ GW := gw_t (tb3 (List.mem_of_getElem? (i := 72) rfl)) rfl
theorem mT_setOption : Cond.static yL_setOption ∈ GW := gw_t (tb3 (List.mem_of_getElem? (i := 79) rfl)) rfl
theorem mT_setBudget : Cond.static yL_setBudget ∈ GW := gw_t (tb3 (List.mem_of_getElem? (i := 89) rfl)) rfl
theorem mT_write : Cond.static yL_write ∈ GW := gw_t (tb3 (List.mem_of_getElem? (i := 100) rfl)) rfl
theorem mT_run : Cond.static yL_run ∈ GW := gw_t (tb3 (List.mem_of_getElem? (i := 118) rfl)) rfl
theorem mT_tried : Cond.static yL_tried ∈ GW := gw_t (tb5 (List.mem_of_getElem? (i := 131) rfl)) rfl
theorem mT_triedSteps : Cond.static yL_triedSteps ∈ GW := gw_t (tb5 (List.mem_of_getElem? (i := 143) rfl)) rfl
theorem mT_start : Cond.static yL_start ∈ GW := gw_t (tb5 (List.mem_of_getElem? (i := 150) rfl)) rfl
theorem mT_step : Cond.static yL_step ∈ GW := gw_t (tb5 (List.mem_of_getElem? (i := 157) rfl)) rfl
theorem mT_giveUp : Cond.static yL_giveUp ∈ GW := gw_t (tb5 (List.mem_of_getElem? (i := 165) rfl)) rfl
theorem mT_breakAt : Cond.static yL_breakAt ∈ GW := gw_t (tb5 (List.mem_of_getElem? (i := 176) rfl)) rfl
theorem mT_look : Cond.static yL_look ∈ GW := gw_t (tb5 (List.mem_of_getElem? (i := 183) rfl)) rfl
theorem mT_traceAt : Cond.static yL_traceAt ∈ GW := gw_t (tb5 (List.mem_of_getElem? (i := 195) rfl)) rfl
theorem mT_length : Cond.static yL_length ∈ GW := gw_t (tb5 (List.mem_of_getElem? (i := 203) rfl)) rfl
theorem mT_letter : Cond.static yL_letter ∈ GW := gw_t (tb5 (List.mem_of_getElem? (i := 210) rfl)) rfl
theorem mT_cursor : Cond.static yL_cursor ∈ GW := gw_t (tb5 (List.mem_of_getElem? (i := 218) rfl)) rfl
theorem mT_activeCursor : Cond.static yL_activeCursor ∈ GW := gw_t (tb5 (List.mem_of_getElem? (i := 226) rfl)) rfl
theorem mT_option : Cond.static yL_option ∈ GW := gw_t (tb5 (List.mem_of_getElem? (i := 233) rfl)) rfl
theorem mT_register : Cond.static yL_register ∈ GW := gw_t (tb6 (List.mem_of_getElem? (i := 0) rfl)) rfl
theorem mT_body : Cond.static yL_body ∈ GW := gw_t (tb6 (List.mem_of_getElem? (i := 8) rfl)) rfl
def w_L_node_A (K : Int32 → Sh → Gt → Prop) (p0 : Int32) (p1 : Int32) (p2 : Int32) (p3 : Int32) (G0 : Gt) : Prop :=
  w_X10_node_A (fun v G1 => pt (gu G1 83 (0 : Int32).toNatClampNeg v) fun G2 => K 0 shA G2) (fun k G1 => (k = 0 ∧ K 1 shA G1) ∨ (k = 1 ∧ K 2 shA G1) ∨ (k = 2 ∧ K 3 shA G1)) p0 p1 p2 p3 G0
set_option maxHeartbeats 4000000 in
set_option maxRecDepth 100000 in
theorem t_L_node_A {l : Launch} (hlf : l.stackTraces = false) (p0 : Int32) (p1 : Int32) (p2 : Int32) (p3 : Int32) (G0 : Gt) (K : Int32 → Sh → Gt → Prop) (hw : w_L_node_A K p0 p1 p2 p3 G0) : CW l yL_node cL_node 7 [(0, 14, 17, 13), (0, 14, 21, 15), (0, 14, 25, 17)] 8 186 1 6 [.ref 0, .int p0, .int p1, .int p2, .int p3, .ref 83] shA G0 (fun r s' G' => ∃ v, r = some (.int v) ∧ K v s' G') := by
  refine CW_of (by decide) (Nat.le_of_ble_eq_true rfl) rfl ?_
  intro p e s m args below meth c D tA ad A C hr htab
  unfold w_L_node_A at hw
  show aw p l e { frames := 8, cells := 1, slots := 6, locals := 186 } s m args below meth c 7 D tA A (vx_MQ below (QL D tA ad A shA (fun r s' G' => ∃ v, r = some (.int v) ∧ K v s' G')) noX args s 1 6 A) 0 0 ad 0 [some (.ref 0), some (.int p0), some (.int p1), some (.int p2), some (.int p3), some (.ref 83), none] [] shA G0
  refine aw_aload C dL_node_0 rfl ?_
  refine aw_iconst (v := 0) C dL_node_2 (by decide) ?_
  refine aw_aloadn C dL_node_3 rfl ?_
  refine aw_iloadn C dL_node_4 rfl ?_
  refine aw_iloadn C dL_node_5 rfl ?_
  refine aw_iloadn C dL_node_6 rfl ?_
  refine aw_iload C dL_node_7 rfl ?_
  refine aw_callL C dL_node_9 (t_X10_node_A hlf p0 p1 p2 p3 _ _ _ hw).toCL mM_L_7 bX10_node shA_0 rfl rfl ⟨Nat.le_of_ble_eq_true rfl, Nat.le_of_ble_eq_true rfl, Nat.le_of_ble_eq_true rfl, Nat.le_of_ble_eq_true rfl⟩ [.int 0, .ref 83] rfl (Nat.le_of_ble_eq_true rfl) ⟨by decide, by decide, trivial⟩ ⟨by decide, trivial⟩ (fun r ad1 s1 G1 hE hq => ?_) (fun kE ad1 s1 G1 q9 hk3 hE hq => ?_)
  · obtain ⟨rfl, v, rfl, hw⟩ := hq
    refine aw_i2l C dL_node_12 ?_
    refine aw_last (N := 1) C dL_node_13 (sA_83 shOK_A) (by unfold vp_in; decide) hw (fun G2 hw => ?_)
    refine aw_goto (tgt := 29) C dL_node_14 (by decide) ?_
    refine aw_iconst (v := 0) C dL_node_29 (by decide) ?_
    exact aw_vx (Nat.le_of_ble_eq_true rfl) (Nat.le_of_ble_eq_true rfl) (aw_lireturn C hr dL_node_30 hE ⟨_, rfl, hw⟩)
  · obtain ⟨rfl, hq⟩ := hq
    rcases hq with ⟨rfl, hw⟩ | ⟨rfl, hw⟩ | ⟨rfl, hw⟩
    · refine awx_catch C [] ⟨0, 14, 17, 13⟩ [⟨0, 14, 21, 15⟩, ⟨0, 14, 25, 17⟩] htab (fun z hz => nomatch hz) (by decide) (by decide) mC_L_13 (by decide) ?_
      refine aw_astoreR C dL_node_17 (by decide) rfl ?_
      refine aw_iconst (v := 1) C dL_node_19 (by decide) ?_
      exact aw_vx (Nat.le_of_ble_eq_true rfl) (Nat.le_of_ble_eq_true rfl) (aw_lireturn C hr dL_node_20 hE ⟨_, rfl, hw⟩)
    · refine awx_catch C [⟨0, 14, 17, 13⟩] ⟨0, 14, 21, 15⟩ [⟨0, 14, 25, 17⟩] htab (fun z hz => ?_) (by decide) (by decide) mC_L_15 (by decide) ?_
      · simp only [List.mem_cons, List.not_mem_nil, or_false] at hz
        subst hz
        exact ⟨by decide, exN 0, mC_L_13, by decide⟩
      · refine aw_astoreR C dL_node_21 (by decide) rfl ?_
        refine aw_iconst (v := 2) C dL_node_23 (by decide) ?_
        exact aw_vx (Nat.le_of_ble_eq_true rfl) (Nat.le_of_ble_eq_true rfl) (aw_lireturn C hr dL_node_24 hE ⟨_, rfl, hw⟩)
    · refine awx_catch C [⟨0, 14, 17, 13⟩, ⟨0, 14, 21, 15⟩] ⟨0, 14, 25, 17⟩ [] htab (fun z hz => ?_) (by decide) (by decide) mC_L_17 (by decide) ?_
      · simp only [List.mem_cons, List.not_mem_nil, or_false] at hz
        rcases hz with rfl | rfl
        · exact ⟨by decide, exN 0, mC_L_13, by decide⟩
        · exact ⟨by decide, exN 1, mC_L_15, by decide⟩
      · refine aw_astoreR C dL_node_25 (by decide) rfl ?_
        refine aw_iconst (v := 3) C dL_node_27 (by decide) ?_
        exact aw_vx (Nat.le_of_ble_eq_true rfl) (Nat.le_of_ble_eq_true rfl) (aw_lireturn C hr dL_node_28 hE ⟨_, rfl, hw⟩)
def w_L_node_B (K : Int32 → Sh → Gt → Prop) (p0 : Int32) (p1 : Int32) (p2 : Int32) (p3 : Int32) (G0 : Gt) : Prop :=
  w_X10_node_B (fun v G1 => pt (gu G1 83 (0 : Int32).toNatClampNeg v) fun G2 => K 0 shB G2) (fun k G1 => (k = 0 ∧ K 1 shB G1) ∨ (k = 1 ∧ K 2 shB G1) ∨ (k = 2 ∧ K 3 shB G1)) p0 p1 p2 p3 G0
set_option maxHeartbeats 4000000 in
set_option maxRecDepth 100000 in
theorem t_L_node_B {l : Launch} (hlf : l.stackTraces = false) (p0 : Int32) (p1 : Int32) (p2 : Int32) (p3 : Int32) (G0 : Gt) (K : Int32 → Sh → Gt → Prop) (hw : w_L_node_B K p0 p1 p2 p3 G0) : CW l yL_node cL_node 7 [(0, 14, 17, 13), (0, 14, 21, 15), (0, 14, 25, 17)] 8 186 1 6 [.ref 0, .int p0, .int p1, .int p2, .int p3, .ref 83] shB G0 (fun r s' G' => ∃ v, r = some (.int v) ∧ K v s' G') := by
  refine CW_of (by decide) (Nat.le_of_ble_eq_true rfl) rfl ?_
  intro p e s m args below meth c D tA ad A C hr htab
  unfold w_L_node_B at hw
  show aw p l e { frames := 8, cells := 1, slots := 6, locals := 186 } s m args below meth c 7 D tA A (vx_MQ below (QL D tA ad A shB (fun r s' G' => ∃ v, r = some (.int v) ∧ K v s' G')) noX args s 1 6 A) 0 0 ad 0 [some (.ref 0), some (.int p0), some (.int p1), some (.int p2), some (.int p3), some (.ref 83), none] [] shB G0
  refine aw_aload C dL_node_0 rfl ?_
  refine aw_iconst (v := 0) C dL_node_2 (by decide) ?_
  refine aw_aloadn C dL_node_3 rfl ?_
  refine aw_iloadn C dL_node_4 rfl ?_
  refine aw_iloadn C dL_node_5 rfl ?_
  refine aw_iloadn C dL_node_6 rfl ?_
  refine aw_iload C dL_node_7 rfl ?_
  refine aw_callL C dL_node_9 (t_X10_node_B hlf p0 p1 p2 p3 _ _ _ hw).toCL mM_L_7 bX10_node shB_0 rfl rfl ⟨Nat.le_of_ble_eq_true rfl, Nat.le_of_ble_eq_true rfl, Nat.le_of_ble_eq_true rfl, Nat.le_of_ble_eq_true rfl⟩ [.int 0, .ref 83] rfl (Nat.le_of_ble_eq_true rfl) ⟨by decide, by decide, trivial⟩ ⟨by decide, trivial⟩ (fun r ad1 s1 G1 hE hq => ?_) (fun kE ad1 s1 G1 q9 hk3 hE hq => ?_)
  · obtain ⟨rfl, v, rfl, hw⟩ := hq
    refine aw_i2l C dL_node_12 ?_
    refine aw_last (N := 1) C dL_node_13 (sA_83 shOK_B) (by unfold vp_in; decide) hw (fun G2 hw => ?_)
    refine aw_goto (tgt := 29) C dL_node_14 (by decide) ?_
    refine aw_iconst (v := 0) C dL_node_29 (by decide) ?_
    exact aw_vx (Nat.le_of_ble_eq_true rfl) (Nat.le_of_ble_eq_true rfl) (aw_lireturn C hr dL_node_30 hE ⟨_, rfl, hw⟩)
  · obtain ⟨rfl, hq⟩ := hq
    rcases hq with ⟨rfl, hw⟩ | ⟨rfl, hw⟩ | ⟨rfl, hw⟩
    · refine awx_catch C [] ⟨0, 14, 17, 13⟩ [⟨0, 14, 21, 15⟩, ⟨0, 14, 25, 17⟩] htab (fun z hz => nomatch hz) (by decide) (by decide) mC_L_13 (by decide) ?_
      refine aw_astoreR C dL_node_17 (by decide) rfl ?_
      refine aw_iconst (v := 1) C dL_node_19 (by decide) ?_
      exact aw_vx (Nat.le_of_ble_eq_true rfl) (Nat.le_of_ble_eq_true rfl) (aw_lireturn C hr dL_node_20 hE ⟨_, rfl, hw⟩)
    · refine awx_catch C [⟨0, 14, 17, 13⟩] ⟨0, 14, 21, 15⟩ [⟨0, 14, 25, 17⟩] htab (fun z hz => ?_) (by decide) (by decide) mC_L_15 (by decide) ?_
      · simp only [List.mem_cons, List.not_mem_nil, or_false] at hz
        subst hz
        exact ⟨by decide, exN 0, mC_L_13, by decide⟩
      · refine aw_astoreR C dL_node_21 (by decide) rfl ?_
        refine aw_iconst (v := 2) C dL_node_23 (by decide) ?_
        exact aw_vx (Nat.le_of_ble_eq_true rfl) (Nat.le_of_ble_eq_true rfl) (aw_lireturn C hr dL_node_24 hE ⟨_, rfl, hw⟩)
    · refine awx_catch C [⟨0, 14, 17, 13⟩, ⟨0, 14, 21, 15⟩] ⟨0, 14, 25, 17⟩ [] htab (fun z hz => ?_) (by decide) (by decide) mC_L_17 (by decide) ?_
      · simp only [List.mem_cons, List.not_mem_nil, or_false] at hz
        rcases hz with rfl | rfl
        · exact ⟨by decide, exN 0, mC_L_13, by decide⟩
        · exact ⟨by decide, exN 1, mC_L_15, by decide⟩
      · refine aw_astoreR C dL_node_25 (by decide) rfl ?_
        refine aw_iconst (v := 3) C dL_node_27 (by decide) ?_
        exact aw_vx (Nat.le_of_ble_eq_true rfl) (Nat.le_of_ble_eq_true rfl) (aw_lireturn C hr dL_node_28 hE ⟨_, rfl, hw⟩)
def w_L_define_A (K : Int32 → Sh → Gt → Prop) (p0 : Int32) (p1 : Int32) (p2 : Int32) (p3 : Int32) (G0 : Gt) : Prop :=
  w_X10_define_A (fun v G1 => pt (gu G1 83 (0 : Int32).toNatClampNeg v) fun G2 => K 0 shA G2) (fun k G1 => (k = 0 ∧ K 1 shA G1) ∨ (k = 1 ∧ K 2 shA G1) ∨ (k = 2 ∧ K 3 shA G1)) p0 p1 p2 p3 G0
set_option maxHeartbeats 4000000 in
set_option maxRecDepth 100000 in
theorem t_L_define_A {l : Launch} (hlf : l.stackTraces = false) (p0 : Int32) (p1 : Int32) (p2 : Int32) (p3 : Int32) (G0 : Gt) (K : Int32 → Sh → Gt → Prop) (hw : w_L_define_A K p0 p1 p2 p3 G0) : CW l yL_define cL_define 7 [(0, 14, 17, 13), (0, 14, 21, 15), (0, 14, 25, 17)] 7 115 1 6 [.ref 0, .int p0, .int p1, .int p2, .int p3, .ref 83] shA G0 (fun r s' G' => ∃ v, r = some (.int v) ∧ K v s' G') := by
  refine CW_of (by decide) (Nat.le_of_ble_eq_true rfl) rfl ?_
  intro p e s m args below meth c D tA ad A C hr htab
  unfold w_L_define_A at hw
  show aw p l e { frames := 7, cells := 1, slots := 6, locals := 115 } s m args below meth c 7 D tA A (vx_MQ below (QL D tA ad A shA (fun r s' G' => ∃ v, r = some (.int v) ∧ K v s' G')) noX args s 1 6 A) 0 0 ad 0 [some (.ref 0), some (.int p0), some (.int p1), some (.int p2), some (.int p3), some (.ref 83), none] [] shA G0
  refine aw_aload C dL_define_0 rfl ?_
  refine aw_iconst (v := 0) C dL_define_2 (by decide) ?_
  refine aw_aloadn C dL_define_3 rfl ?_
  refine aw_iloadn C dL_define_4 rfl ?_
  refine aw_iloadn C dL_define_5 rfl ?_
  refine aw_iloadn C dL_define_6 rfl ?_
  refine aw_iload C dL_define_7 rfl ?_
  refine aw_callL C dL_define_9 (t_X10_define_A hlf p0 p1 p2 p3 _ _ _ hw).toCL mM_L_19 bX10_define shA_0 rfl rfl ⟨Nat.le_of_ble_eq_true rfl, Nat.le_of_ble_eq_true rfl, Nat.le_of_ble_eq_true rfl, Nat.le_of_ble_eq_true rfl⟩ [.int 0, .ref 83] rfl (Nat.le_of_ble_eq_true rfl) ⟨by decide, by decide, trivial⟩ ⟨by decide, trivial⟩ (fun r ad1 s1 G1 hE hq => ?_) (fun kE ad1 s1 G1 q9 hk3 hE hq => ?_)
  · obtain ⟨rfl, v, rfl, hw⟩ := hq
    refine aw_i2l C dL_define_12 ?_
    refine aw_last (N := 1) C dL_define_13 (sA_83 shOK_A) (by unfold vp_in; decide) hw (fun G2 hw => ?_)
    refine aw_goto (tgt := 29) C dL_define_14 (by decide) ?_
    refine aw_iconst (v := 0) C dL_define_29 (by decide) ?_
    exact aw_vx (Nat.le_of_ble_eq_true rfl) (Nat.le_of_ble_eq_true rfl) (aw_lireturn C hr dL_define_30 hE ⟨_, rfl, hw⟩)
  · obtain ⟨rfl, hq⟩ := hq
    rcases hq with ⟨rfl, hw⟩ | ⟨rfl, hw⟩ | ⟨rfl, hw⟩
    · refine awx_catch C [] ⟨0, 14, 17, 13⟩ [⟨0, 14, 21, 15⟩, ⟨0, 14, 25, 17⟩] htab (fun z hz => nomatch hz) (by decide) (by decide) mC_L_13 (by decide) ?_
      refine aw_astoreR C dL_define_17 (by decide) rfl ?_
      refine aw_iconst (v := 1) C dL_define_19 (by decide) ?_
      exact aw_vx (Nat.le_of_ble_eq_true rfl) (Nat.le_of_ble_eq_true rfl) (aw_lireturn C hr dL_define_20 hE ⟨_, rfl, hw⟩)
    · refine awx_catch C [⟨0, 14, 17, 13⟩] ⟨0, 14, 21, 15⟩ [⟨0, 14, 25, 17⟩] htab (fun z hz => ?_) (by decide) (by decide) mC_L_15 (by decide) ?_
      · simp only [List.mem_cons, List.not_mem_nil, or_false] at hz
        subst hz
        exact ⟨by decide, exN 0, mC_L_13, by decide⟩
      · refine aw_astoreR C dL_define_21 (by decide) rfl ?_
        refine aw_iconst (v := 2) C dL_define_23 (by decide) ?_
        exact aw_vx (Nat.le_of_ble_eq_true rfl) (Nat.le_of_ble_eq_true rfl) (aw_lireturn C hr dL_define_24 hE ⟨_, rfl, hw⟩)
    · refine awx_catch C [⟨0, 14, 17, 13⟩, ⟨0, 14, 21, 15⟩] ⟨0, 14, 25, 17⟩ [] htab (fun z hz => ?_) (by decide) (by decide) mC_L_17 (by decide) ?_
      · simp only [List.mem_cons, List.not_mem_nil, or_false] at hz
        rcases hz with rfl | rfl
        · exact ⟨by decide, exN 0, mC_L_13, by decide⟩
        · exact ⟨by decide, exN 1, mC_L_15, by decide⟩
      · refine aw_astoreR C dL_define_25 (by decide) rfl ?_
        refine aw_iconst (v := 3) C dL_define_27 (by decide) ?_
        exact aw_vx (Nat.le_of_ble_eq_true rfl) (Nat.le_of_ble_eq_true rfl) (aw_lireturn C hr dL_define_28 hE ⟨_, rfl, hw⟩)
def w_L_define_B (K : Int32 → Sh → Gt → Prop) (p0 : Int32) (p1 : Int32) (p2 : Int32) (p3 : Int32) (G0 : Gt) : Prop :=
  w_X10_define_B (fun v G1 => pt (gu G1 83 (0 : Int32).toNatClampNeg v) fun G2 => K 0 shB G2) (fun k G1 => (k = 0 ∧ K 1 shB G1) ∨ (k = 1 ∧ K 2 shB G1) ∨ (k = 2 ∧ K 3 shB G1)) p0 p1 p2 p3 G0
set_option maxHeartbeats 4000000 in
set_option maxRecDepth 100000 in
theorem t_L_define_B {l : Launch} (hlf : l.stackTraces = false) (p0 : Int32) (p1 : Int32) (p2 : Int32) (p3 : Int32) (G0 : Gt) (K : Int32 → Sh → Gt → Prop) (hw : w_L_define_B K p0 p1 p2 p3 G0) : CW l yL_define cL_define 7 [(0, 14, 17, 13), (0, 14, 21, 15), (0, 14, 25, 17)] 7 115 1 6 [.ref 0, .int p0, .int p1, .int p2, .int p3, .ref 83] shB G0 (fun r s' G' => ∃ v, r = some (.int v) ∧ K v s' G') := by
  refine CW_of (by decide) (Nat.le_of_ble_eq_true rfl) rfl ?_
  intro p e s m args below meth c D tA ad A C hr htab
  unfold w_L_define_B at hw
  show aw p l e { frames := 7, cells := 1, slots := 6, locals := 115 } s m args below meth c 7 D tA A (vx_MQ below (QL D tA ad A shB (fun r s' G' => ∃ v, r = some (.int v) ∧ K v s' G')) noX args s 1 6 A) 0 0 ad 0 [some (.ref 0), some (.int p0), some (.int p1), some (.int p2), some (.int p3), some (.ref 83), none] [] shB G0
  refine aw_aload C dL_define_0 rfl ?_
  refine aw_iconst (v := 0) C dL_define_2 (by decide) ?_
  refine aw_aloadn C dL_define_3 rfl ?_
  refine aw_iloadn C dL_define_4 rfl ?_
  refine aw_iloadn C dL_define_5 rfl ?_
  refine aw_iloadn C dL_define_6 rfl ?_
  refine aw_iload C dL_define_7 rfl ?_
  refine aw_callL C dL_define_9 (t_X10_define_B hlf p0 p1 p2 p3 _ _ _ hw).toCL mM_L_19 bX10_define shB_0 rfl rfl ⟨Nat.le_of_ble_eq_true rfl, Nat.le_of_ble_eq_true rfl, Nat.le_of_ble_eq_true rfl, Nat.le_of_ble_eq_true rfl⟩ [.int 0, .ref 83] rfl (Nat.le_of_ble_eq_true rfl) ⟨by decide, by decide, trivial⟩ ⟨by decide, trivial⟩ (fun r ad1 s1 G1 hE hq => ?_) (fun kE ad1 s1 G1 q9 hk3 hE hq => ?_)
  · obtain ⟨rfl, v, rfl, hw⟩ := hq
    refine aw_i2l C dL_define_12 ?_
    refine aw_last (N := 1) C dL_define_13 (sA_83 shOK_B) (by unfold vp_in; decide) hw (fun G2 hw => ?_)
    refine aw_goto (tgt := 29) C dL_define_14 (by decide) ?_
    refine aw_iconst (v := 0) C dL_define_29 (by decide) ?_
    exact aw_vx (Nat.le_of_ble_eq_true rfl) (Nat.le_of_ble_eq_true rfl) (aw_lireturn C hr dL_define_30 hE ⟨_, rfl, hw⟩)
  · obtain ⟨rfl, hq⟩ := hq
    rcases hq with ⟨rfl, hw⟩ | ⟨rfl, hw⟩ | ⟨rfl, hw⟩
    · refine awx_catch C [] ⟨0, 14, 17, 13⟩ [⟨0, 14, 21, 15⟩, ⟨0, 14, 25, 17⟩] htab (fun z hz => nomatch hz) (by decide) (by decide) mC_L_13 (by decide) ?_
      refine aw_astoreR C dL_define_17 (by decide) rfl ?_
      refine aw_iconst (v := 1) C dL_define_19 (by decide) ?_
      exact aw_vx (Nat.le_of_ble_eq_true rfl) (Nat.le_of_ble_eq_true rfl) (aw_lireturn C hr dL_define_20 hE ⟨_, rfl, hw⟩)
    · refine awx_catch C [⟨0, 14, 17, 13⟩] ⟨0, 14, 21, 15⟩ [⟨0, 14, 25, 17⟩] htab (fun z hz => ?_) (by decide) (by decide) mC_L_15 (by decide) ?_
      · simp only [List.mem_cons, List.not_mem_nil, or_false] at hz
        subst hz
        exact ⟨by decide, exN 0, mC_L_13, by decide⟩
      · refine aw_astoreR C dL_define_21 (by decide) rfl ?_
        refine aw_iconst (v := 2) C dL_define_23 (by decide) ?_
        exact aw_vx (Nat.le_of_ble_eq_true rfl) (Nat.le_of_ble_eq_true rfl) (aw_lireturn C hr dL_define_24 hE ⟨_, rfl, hw⟩)
    · refine awx_catch C [⟨0, 14, 17, 13⟩, ⟨0, 14, 21, 15⟩] ⟨0, 14, 25, 17⟩ [] htab (fun z hz => ?_) (by decide) (by decide) mC_L_17 (by decide) ?_
      · simp only [List.mem_cons, List.not_mem_nil, or_false] at hz
        rcases hz with rfl | rfl
        · exact ⟨by decide, exN 0, mC_L_13, by decide⟩
        · exact ⟨by decide, exN 1, mC_L_15, by decide⟩
      · refine aw_astoreR C dL_define_25 (by decide) rfl ?_
        refine aw_iconst (v := 3) C dL_define_27 (by decide) ?_
        exact aw_vx (Nat.le_of_ble_eq_true rfl) (Nat.le_of_ble_eq_true rfl) (aw_lireturn C hr dL_define_28 hE ⟨_, rfl, hw⟩)
def w_L_size_A (K : Int32 → Sh → Gt → Prop) (p0 : Int32) (G0 : Gt) : Prop :=
  w_X10_size_A (fun v G1 => pt (gu G1 83 (0 : Int32).toNatClampNeg v) fun G2 => K 0 shA G2) (fun k G1 => (k = 0 ∧ K 1 shA G1)) p0 G0
set_option maxHeartbeats 4000000 in
set_option maxRecDepth 100000 in
theorem t_L_size_A {l : Launch} (hlf : l.stackTraces = false) (p0 : Int32) (G0 : Gt) (K : Int32 → Sh → Gt → Prop) (hw : w_L_size_A K p0 G0) : CW l yL_size cL_size 4 [(0, 9, 12, 13)] 7 111 1 6 [.ref 0, .int p0, .ref 83] shA G0 (fun r s' G' => ∃ v, r = some (.int v) ∧ K v s' G') := by
  refine CW_of (by decide) (Nat.le_of_ble_eq_true rfl) rfl ?_
  intro p e s m args below meth c D tA ad A C hr htab
  unfold w_L_size_A at hw
  show aw p l e { frames := 7, cells := 1, slots := 6, locals := 111 } s m args below meth c 4 D tA A (vx_MQ below (QL D tA ad A shA (fun r s' G' => ∃ v, r = some (.int v) ∧ K v s' G')) noX args s 1 6 A) 0 0 ad 0 [some (.ref 0), some (.int p0), some (.ref 83), none] [] shA G0
  refine aw_aloadn C dL_size_0 rfl ?_
  refine aw_iconst (v := 0) C dL_size_1 (by decide) ?_
  refine aw_aloadn C dL_size_2 rfl ?_
  refine aw_iloadn C dL_size_3 rfl ?_
  refine aw_callL C dL_size_4 (t_X10_size_A hlf p0 _ _ _ hw).toCL mM_L_22 bX10_size shA_0 rfl rfl ⟨Nat.le_of_ble_eq_true rfl, Nat.le_of_ble_eq_true rfl, Nat.le_of_ble_eq_true rfl, Nat.le_of_ble_eq_true rfl⟩ [.int 0, .ref 83] rfl (Nat.le_of_ble_eq_true rfl) ⟨by decide, by decide, trivial⟩ ⟨by decide, trivial⟩ (fun r ad1 s1 G1 hE hq => ?_) (fun kE ad1 s1 G1 q9 hk3 hE hq => ?_)
  · obtain ⟨rfl, v, rfl, hw⟩ := hq
    refine aw_i2l C dL_size_7 ?_
    refine aw_last (N := 1) C dL_size_8 (sA_83 shOK_A) (by unfold vp_in; decide) hw (fun G2 hw => ?_)
    refine aw_goto (tgt := 15) C dL_size_9 (by decide) ?_
    refine aw_iconst (v := 0) C dL_size_15 (by decide) ?_
    exact aw_vx (Nat.le_of_ble_eq_true rfl) (Nat.le_of_ble_eq_true rfl) (aw_lireturn C hr dL_size_16 hE ⟨_, rfl, hw⟩)
  · obtain ⟨rfl, hq⟩ := hq
    obtain ⟨rfl, hw⟩ := hq
    refine awx_catch C [] ⟨0, 9, 12, 13⟩ [] htab (fun z hz => nomatch hz) (by decide) (by decide) mC_L_13 (by decide) ?_
    refine aw_astorenR C dL_size_12 (by decide) rfl ?_
    refine aw_iconst (v := 1) C dL_size_13 (by decide) ?_
    exact aw_vx (Nat.le_of_ble_eq_true rfl) (Nat.le_of_ble_eq_true rfl) (aw_lireturn C hr dL_size_14 hE ⟨_, rfl, hw⟩)
def w_L_size_B (K : Int32 → Sh → Gt → Prop) (p0 : Int32) (G0 : Gt) : Prop :=
  w_X10_size_B (fun v G1 => pt (gu G1 83 (0 : Int32).toNatClampNeg v) fun G2 => K 0 shB G2) (fun k G1 => (k = 0 ∧ K 1 shB G1)) p0 G0
set_option maxHeartbeats 4000000 in
set_option maxRecDepth 100000 in
theorem t_L_size_B {l : Launch} (hlf : l.stackTraces = false) (p0 : Int32) (G0 : Gt) (K : Int32 → Sh → Gt → Prop) (hw : w_L_size_B K p0 G0) : CW l yL_size cL_size 4 [(0, 9, 12, 13)] 7 111 1 6 [.ref 0, .int p0, .ref 83] shB G0 (fun r s' G' => ∃ v, r = some (.int v) ∧ K v s' G') := by
  refine CW_of (by decide) (Nat.le_of_ble_eq_true rfl) rfl ?_
  intro p e s m args below meth c D tA ad A C hr htab
  unfold w_L_size_B at hw
  show aw p l e { frames := 7, cells := 1, slots := 6, locals := 111 } s m args below meth c 4 D tA A (vx_MQ below (QL D tA ad A shB (fun r s' G' => ∃ v, r = some (.int v) ∧ K v s' G')) noX args s 1 6 A) 0 0 ad 0 [some (.ref 0), some (.int p0), some (.ref 83), none] [] shB G0
  refine aw_aloadn C dL_size_0 rfl ?_
  refine aw_iconst (v := 0) C dL_size_1 (by decide) ?_
  refine aw_aloadn C dL_size_2 rfl ?_
  refine aw_iloadn C dL_size_3 rfl ?_
  refine aw_callL C dL_size_4 (t_X10_size_B hlf p0 _ _ _ hw).toCL mM_L_22 bX10_size shB_0 rfl rfl ⟨Nat.le_of_ble_eq_true rfl, Nat.le_of_ble_eq_true rfl, Nat.le_of_ble_eq_true rfl, Nat.le_of_ble_eq_true rfl⟩ [.int 0, .ref 83] rfl (Nat.le_of_ble_eq_true rfl) ⟨by decide, by decide, trivial⟩ ⟨by decide, trivial⟩ (fun r ad1 s1 G1 hE hq => ?_) (fun kE ad1 s1 G1 q9 hk3 hE hq => ?_)
  · obtain ⟨rfl, v, rfl, hw⟩ := hq
    refine aw_i2l C dL_size_7 ?_
    refine aw_last (N := 1) C dL_size_8 (sA_83 shOK_B) (by unfold vp_in; decide) hw (fun G2 hw => ?_)
    refine aw_goto (tgt := 15) C dL_size_9 (by decide) ?_
    refine aw_iconst (v := 0) C dL_size_15 (by decide) ?_
    exact aw_vx (Nat.le_of_ble_eq_true rfl) (Nat.le_of_ble_eq_true rfl) (aw_lireturn C hr dL_size_16 hE ⟨_, rfl, hw⟩)
  · obtain ⟨rfl, hq⟩ := hq
    obtain ⟨rfl, hw⟩ := hq
    refine awx_catch C [] ⟨0, 9, 12, 13⟩ [] htab (fun z hz => nomatch hz) (by decide) (by decide) mC_L_13 (by decide) ?_
    refine aw_astorenR C dL_size_12 (by decide) rfl ?_
    refine aw_iconst (v := 1) C dL_size_13 (by decide) ?_
    exact aw_vx (Nat.le_of_ble_eq_true rfl) (Nat.le_of_ble_eq_true rfl) (aw_lireturn C hr dL_size_14 hE ⟨_, rfl, hw⟩)
def w_L_setOption_A (K : Int32 → Sh → Gt → Prop) (p0 : Int32) (p1 : Int32) (G0 : Gt) : Prop :=
  w_X10_setOption_A (fun v G1 => pt (gu G1 83 (0 : Int32).toNatClampNeg v) fun G2 => K 0 shA G2) (fun k G1 => (k = 0 ∧ K 1 shA G1) ∨ (k = 1 ∧ K 2 shA G1) ∨ (k = 2 ∧ K 3 shA G1)) p0 p1 G0
set_option maxHeartbeats 4000000 in
set_option maxRecDepth 100000 in
theorem t_L_setOption_A {l : Launch} (hlf : l.stackTraces = false) (p0 : Int32) (p1 : Int32) (G0 : Gt) (K : Int32 → Sh → Gt → Prop) (hw : w_L_setOption_A K p0 p1 G0) : CW l yL_setOption cL_setOption 5 [(0, 10, 13, 13), (0, 10, 17, 15), (0, 10, 21, 17)] 7 113 1 6 [.ref 0, .int p0, .int p1, .ref 83] shA G0 (fun r s' G' => ∃ v, r = some (.int v) ∧ K v s' G') := by
  refine CW_of (by decide) (Nat.le_of_ble_eq_true rfl) rfl ?_
  intro p e s m args below meth c D tA ad A C hr htab
  unfold w_L_setOption_A at hw
  show aw p l e { frames := 7, cells := 1, slots := 6, locals := 113 } s m args below meth c 5 D tA A (vx_MQ below (QL D tA ad A shA (fun r s' G' => ∃ v, r = some (.int v) ∧ K v s' G')) noX args s 1 6 A) 0 0 ad 0 [some (.ref 0), some (.int p0), some (.int p1), some (.ref 83), none] [] shA G0
  refine aw_aloadn C dL_setOption_0 rfl ?_
  refine aw_iconst (v := 0) C dL_setOption_1 (by decide) ?_
  refine aw_aloadn C dL_setOption_2 rfl ?_
  refine aw_iloadn C dL_setOption_3 rfl ?_
  refine aw_iloadn C dL_setOption_4 rfl ?_
  refine aw_callL C dL_setOption_5 (t_X10_setOption_A hlf p0 p1 _ _ _ hw).toCL mM_L_26 bX10_setOption shA_0 rfl rfl ⟨Nat.le_of_ble_eq_true rfl, Nat.le_of_ble_eq_true rfl, Nat.le_of_ble_eq_true rfl, Nat.le_of_ble_eq_true rfl⟩ [.int 0, .ref 83] rfl (Nat.le_of_ble_eq_true rfl) ⟨by decide, by decide, trivial⟩ ⟨by decide, trivial⟩ (fun r ad1 s1 G1 hE hq => ?_) (fun kE ad1 s1 G1 q9 hk3 hE hq => ?_)
  · obtain ⟨rfl, v, rfl, hw⟩ := hq
    refine aw_i2l C dL_setOption_8 ?_
    refine aw_last (N := 1) C dL_setOption_9 (sA_83 shOK_A) (by unfold vp_in; decide) hw (fun G2 hw => ?_)
    refine aw_goto (tgt := 25) C dL_setOption_10 (by decide) ?_
    refine aw_iconst (v := 0) C dL_setOption_25 (by decide) ?_
    exact aw_vx (Nat.le_of_ble_eq_true rfl) (Nat.le_of_ble_eq_true rfl) (aw_lireturn C hr dL_setOption_26 hE ⟨_, rfl, hw⟩)
  · obtain ⟨rfl, hq⟩ := hq
    rcases hq with ⟨rfl, hw⟩ | ⟨rfl, hw⟩ | ⟨rfl, hw⟩
    · refine awx_catch C [] ⟨0, 10, 13, 13⟩ [⟨0, 10, 17, 15⟩, ⟨0, 10, 21, 17⟩] htab (fun z hz => nomatch hz) (by decide) (by decide) mC_L_13 (by decide) ?_
      refine aw_astoreR C dL_setOption_13 (by decide) rfl ?_
      refine aw_iconst (v := 1) C dL_setOption_15 (by decide) ?_
      exact aw_vx (Nat.le_of_ble_eq_true rfl) (Nat.le_of_ble_eq_true rfl) (aw_lireturn C hr dL_setOption_16 hE ⟨_, rfl, hw⟩)
    · refine awx_catch C [⟨0, 10, 13, 13⟩] ⟨0, 10, 17, 15⟩ [⟨0, 10, 21, 17⟩] htab (fun z hz => ?_) (by decide) (by decide) mC_L_15 (by decide) ?_
      · simp only [List.mem_cons, List.not_mem_nil, or_false] at hz
        subst hz
        exact ⟨by decide, exN 0, mC_L_13, by decide⟩
      · refine aw_astoreR C dL_setOption_17 (by decide) rfl ?_
        refine aw_iconst (v := 2) C dL_setOption_19 (by decide) ?_
        exact aw_vx (Nat.le_of_ble_eq_true rfl) (Nat.le_of_ble_eq_true rfl) (aw_lireturn C hr dL_setOption_20 hE ⟨_, rfl, hw⟩)
    · refine awx_catch C [⟨0, 10, 13, 13⟩, ⟨0, 10, 17, 15⟩] ⟨0, 10, 21, 17⟩ [] htab (fun z hz => ?_) (by decide) (by decide) mC_L_17 (by decide) ?_
      · simp only [List.mem_cons, List.not_mem_nil, or_false] at hz
        rcases hz with rfl | rfl
        · exact ⟨by decide, exN 0, mC_L_13, by decide⟩
        · exact ⟨by decide, exN 1, mC_L_15, by decide⟩
      · refine aw_astoreR C dL_setOption_21 (by decide) rfl ?_
        refine aw_iconst (v := 3) C dL_setOption_23 (by decide) ?_
        exact aw_vx (Nat.le_of_ble_eq_true rfl) (Nat.le_of_ble_eq_true rfl) (aw_lireturn C hr dL_setOption_24 hE ⟨_, rfl, hw⟩)
def w_L_setOption_B (K : Int32 → Sh → Gt → Prop) (p0 : Int32) (p1 : Int32) (G0 : Gt) : Prop :=
  w_X10_setOption_B (fun v G1 => pt (gu G1 83 (0 : Int32).toNatClampNeg v) fun G2 => K 0 shB G2) (fun k G1 => (k = 0 ∧ K 1 shB G1) ∨ (k = 1 ∧ K 2 shB G1) ∨ (k = 2 ∧ K 3 shB G1)) p0 p1 G0
set_option maxHeartbeats 4000000 in
set_option maxRecDepth 100000 in
theorem t_L_setOption_B {l : Launch} (hlf : l.stackTraces = false) (p0 : Int32) (p1 : Int32) (G0 : Gt) (K : Int32 → Sh → Gt → Prop) (hw : w_L_setOption_B K p0 p1 G0) : CW l yL_setOption cL_setOption 5 [(0, 10, 13, 13), (0, 10, 17, 15), (0, 10, 21, 17)] 7 113 1 6 [.ref 0, .int p0, .int p1, .ref 83] shB G0 (fun r s' G' => ∃ v, r = some (.int v) ∧ K v s' G') := by
  refine CW_of (by decide) (Nat.le_of_ble_eq_true rfl) rfl ?_
  intro p e s m args below meth c D tA ad A C hr htab
  unfold w_L_setOption_B at hw
  show aw p l e { frames := 7, cells := 1, slots := 6, locals := 113 } s m args below meth c 5 D tA A (vx_MQ below (QL D tA ad A shB (fun r s' G' => ∃ v, r = some (.int v) ∧ K v s' G')) noX args s 1 6 A) 0 0 ad 0 [some (.ref 0), some (.int p0), some (.int p1), some (.ref 83), none] [] shB G0
  refine aw_aloadn C dL_setOption_0 rfl ?_
  refine aw_iconst (v := 0) C dL_setOption_1 (by decide) ?_
  refine aw_aloadn C dL_setOption_2 rfl ?_
  refine aw_iloadn C dL_setOption_3 rfl ?_
  refine aw_iloadn C dL_setOption_4 rfl ?_
  refine aw_callL C dL_setOption_5 (t_X10_setOption_B hlf p0 p1 _ _ _ hw).toCL mM_L_26 bX10_setOption shB_0 rfl rfl ⟨Nat.le_of_ble_eq_true rfl, Nat.le_of_ble_eq_true rfl, Nat.le_of_ble_eq_true rfl, Nat.le_of_ble_eq_true rfl⟩ [.int 0, .ref 83] rfl (Nat.le_of_ble_eq_true rfl) ⟨by decide, by decide, trivial⟩ ⟨by decide, trivial⟩ (fun r ad1 s1 G1 hE hq => ?_) (fun kE ad1 s1 G1 q9 hk3 hE hq => ?_)
  · obtain ⟨rfl, v, rfl, hw⟩ := hq
    refine aw_i2l C dL_setOption_8 ?_
    refine aw_last (N := 1) C dL_setOption_9 (sA_83 shOK_B) (by unfold vp_in; decide) hw (fun G2 hw => ?_)
    refine aw_goto (tgt := 25) C dL_setOption_10 (by decide) ?_
    refine aw_iconst (v := 0) C dL_setOption_25 (by decide) ?_
    exact aw_vx (Nat.le_of_ble_eq_true rfl) (Nat.le_of_ble_eq_true rfl) (aw_lireturn C hr dL_setOption_26 hE ⟨_, rfl, hw⟩)
  · obtain ⟨rfl, hq⟩ := hq
    rcases hq with ⟨rfl, hw⟩ | ⟨rfl, hw⟩ | ⟨rfl, hw⟩
    · refine awx_catch C [] ⟨0, 10, 13, 13⟩ [⟨0, 10, 17, 15⟩, ⟨0, 10, 21, 17⟩] htab (fun z hz => nomatch hz) (by decide) (by decide) mC_L_13 (by decide) ?_
      refine aw_astoreR C dL_setOption_13 (by decide) rfl ?_
      refine aw_iconst (v := 1) C dL_setOption_15 (by decide) ?_
      exact aw_vx (Nat.le_of_ble_eq_true rfl) (Nat.le_of_ble_eq_true rfl) (aw_lireturn C hr dL_setOption_16 hE ⟨_, rfl, hw⟩)
    · refine awx_catch C [⟨0, 10, 13, 13⟩] ⟨0, 10, 17, 15⟩ [⟨0, 10, 21, 17⟩] htab (fun z hz => ?_) (by decide) (by decide) mC_L_15 (by decide) ?_
      · simp only [List.mem_cons, List.not_mem_nil, or_false] at hz
        subst hz
        exact ⟨by decide, exN 0, mC_L_13, by decide⟩
      · refine aw_astoreR C dL_setOption_17 (by decide) rfl ?_
        refine aw_iconst (v := 2) C dL_setOption_19 (by decide) ?_
        exact aw_vx (Nat.le_of_ble_eq_true rfl) (Nat.le_of_ble_eq_true rfl) (aw_lireturn C hr dL_setOption_20 hE ⟨_, rfl, hw⟩)
    · refine awx_catch C [⟨0, 10, 13, 13⟩, ⟨0, 10, 17, 15⟩] ⟨0, 10, 21, 17⟩ [] htab (fun z hz => ?_) (by decide) (by decide) mC_L_17 (by decide) ?_
      · simp only [List.mem_cons, List.not_mem_nil, or_false] at hz
        rcases hz with rfl | rfl
        · exact ⟨by decide, exN 0, mC_L_13, by decide⟩
        · exact ⟨by decide, exN 1, mC_L_15, by decide⟩
      · refine aw_astoreR C dL_setOption_21 (by decide) rfl ?_
        refine aw_iconst (v := 3) C dL_setOption_23 (by decide) ?_
        exact aw_vx (Nat.le_of_ble_eq_true rfl) (Nat.le_of_ble_eq_true rfl) (aw_lireturn C hr dL_setOption_24 hE ⟨_, rfl, hw⟩)
def w_L_setBudget_A (K : Int32 → Sh → Gt → Prop) (p0 : Int32) (G0 : Gt) : Prop :=
  w_X10_setBudget_A (fun v G1 => pt (gu G1 83 (0 : Int32).toNatClampNeg v) fun G2 => K 0 shA G2) (fun k G1 => (k = 1 ∧ K 1 shA G1)) p0 G0
set_option maxHeartbeats 4000000 in
set_option maxRecDepth 100000 in
theorem t_L_setBudget_A {l : Launch} (hlf : l.stackTraces = false) (p0 : Int32) (G0 : Gt) (K : Int32 → Sh → Gt → Prop) (hw : w_L_setBudget_A K p0 G0) : CW l yL_setBudget cL_setBudget 4 [(0, 9, 12, 15)] 7 112 1 6 [.ref 0, .int p0, .ref 83] shA G0 (fun r s' G' => ∃ v, r = some (.int v) ∧ K v s' G') := by
  refine CW_of (by decide) (Nat.le_of_ble_eq_true rfl) rfl ?_
  intro p e s m args below meth c D tA ad A C hr htab
  unfold w_L_setBudget_A at hw
  show aw p l e { frames := 7, cells := 1, slots := 6, locals := 112 } s m args below meth c 4 D tA A (vx_MQ below (QL D tA ad A shA (fun r s' G' => ∃ v, r = some (.int v) ∧ K v s' G')) noX args s 1 6 A) 0 0 ad 0 [some (.ref 0), some (.int p0), some (.ref 83), none] [] shA G0
  refine aw_aloadn C dL_setBudget_0 rfl ?_
  refine aw_iconst (v := 0) C dL_setBudget_1 (by decide) ?_
  refine aw_aloadn C dL_setBudget_2 rfl ?_
  refine aw_iloadn C dL_setBudget_3 rfl ?_
  refine aw_callL C dL_setBudget_4 (t_X10_setBudget_A hlf p0 _ _ _ hw).toCL mM_L_30 bX10_setBudget shA_0 rfl rfl ⟨Nat.le_of_ble_eq_true rfl, Nat.le_of_ble_eq_true rfl, Nat.le_of_ble_eq_true rfl, Nat.le_of_ble_eq_true rfl⟩ [.int 0, .ref 83] rfl (Nat.le_of_ble_eq_true rfl) ⟨by decide, by decide, trivial⟩ ⟨by decide, trivial⟩ (fun r ad1 s1 G1 hE hq => ?_) (fun kE ad1 s1 G1 q9 hk3 hE hq => ?_)
  · obtain ⟨rfl, v, rfl, hw⟩ := hq
    refine aw_i2l C dL_setBudget_7 ?_
    refine aw_last (N := 1) C dL_setBudget_8 (sA_83 shOK_A) (by unfold vp_in; decide) hw (fun G2 hw => ?_)
    refine aw_goto (tgt := 15) C dL_setBudget_9 (by decide) ?_
    refine aw_iconst (v := 0) C dL_setBudget_15 (by decide) ?_
    exact aw_vx (Nat.le_of_ble_eq_true rfl) (Nat.le_of_ble_eq_true rfl) (aw_lireturn C hr dL_setBudget_16 hE ⟨_, rfl, hw⟩)
  · obtain ⟨rfl, hq⟩ := hq
    obtain ⟨rfl, hw⟩ := hq
    refine awx_catch C [] ⟨0, 9, 12, 15⟩ [] htab (fun z hz => nomatch hz) (by decide) (by decide) mC_L_15 (by decide) ?_
    refine aw_astorenR C dL_setBudget_12 (by decide) rfl ?_
    refine aw_iconst (v := 1) C dL_setBudget_13 (by decide) ?_
    exact aw_vx (Nat.le_of_ble_eq_true rfl) (Nat.le_of_ble_eq_true rfl) (aw_lireturn C hr dL_setBudget_14 hE ⟨_, rfl, hw⟩)
def w_L_setBudget_B (K : Int32 → Sh → Gt → Prop) (p0 : Int32) (G0 : Gt) : Prop :=
  w_X10_setBudget_B (fun v G1 => pt (gu G1 83 (0 : Int32).toNatClampNeg v) fun G2 => K 0 shB G2) (fun k G1 => (k = 1 ∧ K 1 shB G1)) p0 G0
set_option maxHeartbeats 4000000 in
set_option maxRecDepth 100000 in
theorem t_L_setBudget_B {l : Launch} (hlf : l.stackTraces = false) (p0 : Int32) (G0 : Gt) (K : Int32 → Sh → Gt → Prop) (hw : w_L_setBudget_B K p0 G0) : CW l yL_setBudget cL_setBudget 4 [(0, 9, 12, 15)] 7 112 1 6 [.ref 0, .int p0, .ref 83] shB G0 (fun r s' G' => ∃ v, r = some (.int v) ∧ K v s' G') := by
  refine CW_of (by decide) (Nat.le_of_ble_eq_true rfl) rfl ?_
  intro p e s m args below meth c D tA ad A C hr htab
  unfold w_L_setBudget_B at hw
  show aw p l e { frames := 7, cells := 1, slots := 6, locals := 112 } s m args below meth c 4 D tA A (vx_MQ below (QL D tA ad A shB (fun r s' G' => ∃ v, r = some (.int v) ∧ K v s' G')) noX args s 1 6 A) 0 0 ad 0 [some (.ref 0), some (.int p0), some (.ref 83), none] [] shB G0
  refine aw_aloadn C dL_setBudget_0 rfl ?_
  refine aw_iconst (v := 0) C dL_setBudget_1 (by decide) ?_
  refine aw_aloadn C dL_setBudget_2 rfl ?_
  refine aw_iloadn C dL_setBudget_3 rfl ?_
  refine aw_callL C dL_setBudget_4 (t_X10_setBudget_B hlf p0 _ _ _ hw).toCL mM_L_30 bX10_setBudget shB_0 rfl rfl ⟨Nat.le_of_ble_eq_true rfl, Nat.le_of_ble_eq_true rfl, Nat.le_of_ble_eq_true rfl, Nat.le_of_ble_eq_true rfl⟩ [.int 0, .ref 83] rfl (Nat.le_of_ble_eq_true rfl) ⟨by decide, by decide, trivial⟩ ⟨by decide, trivial⟩ (fun r ad1 s1 G1 hE hq => ?_) (fun kE ad1 s1 G1 q9 hk3 hE hq => ?_)
  · obtain ⟨rfl, v, rfl, hw⟩ := hq
    refine aw_i2l C dL_setBudget_7 ?_
    refine aw_last (N := 1) C dL_setBudget_8 (sA_83 shOK_B) (by unfold vp_in; decide) hw (fun G2 hw => ?_)
    refine aw_goto (tgt := 15) C dL_setBudget_9 (by decide) ?_
    refine aw_iconst (v := 0) C dL_setBudget_15 (by decide) ?_
    exact aw_vx (Nat.le_of_ble_eq_true rfl) (Nat.le_of_ble_eq_true rfl) (aw_lireturn C hr dL_setBudget_16 hE ⟨_, rfl, hw⟩)
  · obtain ⟨rfl, hq⟩ := hq
    obtain ⟨rfl, hw⟩ := hq
    refine awx_catch C [] ⟨0, 9, 12, 15⟩ [] htab (fun z hz => nomatch hz) (by decide) (by decide) mC_L_15 (by decide) ?_
    refine aw_astorenR C dL_setBudget_12 (by decide) rfl ?_
    refine aw_iconst (v := 1) C dL_setBudget_13 (by decide) ?_
    exact aw_vx (Nat.le_of_ble_eq_true rfl) (Nat.le_of_ble_eq_true rfl) (aw_lireturn C hr dL_setBudget_14 hE ⟨_, rfl, hw⟩)
def w_L_write_A (K : Int32 → Sh → Gt → Prop) (p0 : Int32) (p1 : Int32) (G0 : Gt) : Prop :=
  w_X10_write_A (fun v G1 => pt (gu G1 83 (0 : Int32).toNatClampNeg v) fun G2 => K 0 shA G2) (fun k G1 => (k = 0 ∧ K 1 shA G1) ∨ (k = 1 ∧ K 2 shA G1) ∨ (k = 2 ∧ K 3 shA G1)) p0 p1 G0
set_option maxHeartbeats 4000000 in
set_option maxRecDepth 100000 in
theorem t_L_write_A {l : Launch} (hlf : l.stackTraces = false) (p0 : Int32) (p1 : Int32) (G0 : Gt) (K : Int32 → Sh → Gt → Prop) (hw : w_L_write_A K p0 p1 G0) : CW l yL_write cL_write 5 [(0, 10, 13, 13), (0, 10, 17, 15), (0, 10, 21, 17)] 7 113 1 6 [.ref 0, .int p0, .int p1, .ref 83] shA G0 (fun r s' G' => ∃ v, r = some (.int v) ∧ K v s' G') := by
  refine CW_of (by decide) (Nat.le_of_ble_eq_true rfl) rfl ?_
  intro p e s m args below meth c D tA ad A C hr htab
  unfold w_L_write_A at hw
  show aw p l e { frames := 7, cells := 1, slots := 6, locals := 113 } s m args below meth c 5 D tA A (vx_MQ below (QL D tA ad A shA (fun r s' G' => ∃ v, r = some (.int v) ∧ K v s' G')) noX args s 1 6 A) 0 0 ad 0 [some (.ref 0), some (.int p0), some (.int p1), some (.ref 83), none] [] shA G0
  refine aw_aloadn C dL_write_0 rfl ?_
  refine aw_iconst (v := 0) C dL_write_1 (by decide) ?_
  refine aw_aloadn C dL_write_2 rfl ?_
  refine aw_iloadn C dL_write_3 rfl ?_
  refine aw_iloadn C dL_write_4 rfl ?_
  refine aw_callL C dL_write_5 (t_X10_write_A hlf p0 p1 _ _ _ hw).toCL mM_L_33 bX10_write shA_0 rfl rfl ⟨Nat.le_of_ble_eq_true rfl, Nat.le_of_ble_eq_true rfl, Nat.le_of_ble_eq_true rfl, Nat.le_of_ble_eq_true rfl⟩ [.int 0, .ref 83] rfl (Nat.le_of_ble_eq_true rfl) ⟨by decide, by decide, trivial⟩ ⟨by decide, trivial⟩ (fun r ad1 s1 G1 hE hq => ?_) (fun kE ad1 s1 G1 q9 hk3 hE hq => ?_)
  · obtain ⟨rfl, v, rfl, hw⟩ := hq
    refine aw_i2l C dL_write_8 ?_
    refine aw_last (N := 1) C dL_write_9 (sA_83 shOK_A) (by unfold vp_in; decide) hw (fun G2 hw => ?_)
    refine aw_goto (tgt := 25) C dL_write_10 (by decide) ?_
    refine aw_iconst (v := 0) C dL_write_25 (by decide) ?_
    exact aw_vx (Nat.le_of_ble_eq_true rfl) (Nat.le_of_ble_eq_true rfl) (aw_lireturn C hr dL_write_26 hE ⟨_, rfl, hw⟩)
  · obtain ⟨rfl, hq⟩ := hq
    rcases hq with ⟨rfl, hw⟩ | ⟨rfl, hw⟩ | ⟨rfl, hw⟩
    · refine awx_catch C [] ⟨0, 10, 13, 13⟩ [⟨0, 10, 17, 15⟩, ⟨0, 10, 21, 17⟩] htab (fun z hz => nomatch hz) (by decide) (by decide) mC_L_13 (by decide) ?_
      refine aw_astoreR C dL_write_13 (by decide) rfl ?_
      refine aw_iconst (v := 1) C dL_write_15 (by decide) ?_
      exact aw_vx (Nat.le_of_ble_eq_true rfl) (Nat.le_of_ble_eq_true rfl) (aw_lireturn C hr dL_write_16 hE ⟨_, rfl, hw⟩)
    · refine awx_catch C [⟨0, 10, 13, 13⟩] ⟨0, 10, 17, 15⟩ [⟨0, 10, 21, 17⟩] htab (fun z hz => ?_) (by decide) (by decide) mC_L_15 (by decide) ?_
      · simp only [List.mem_cons, List.not_mem_nil, or_false] at hz
        subst hz
        exact ⟨by decide, exN 0, mC_L_13, by decide⟩
      · refine aw_astoreR C dL_write_17 (by decide) rfl ?_
        refine aw_iconst (v := 2) C dL_write_19 (by decide) ?_
        exact aw_vx (Nat.le_of_ble_eq_true rfl) (Nat.le_of_ble_eq_true rfl) (aw_lireturn C hr dL_write_20 hE ⟨_, rfl, hw⟩)
    · refine awx_catch C [⟨0, 10, 13, 13⟩, ⟨0, 10, 17, 15⟩] ⟨0, 10, 21, 17⟩ [] htab (fun z hz => ?_) (by decide) (by decide) mC_L_17 (by decide) ?_
      · simp only [List.mem_cons, List.not_mem_nil, or_false] at hz
        rcases hz with rfl | rfl
        · exact ⟨by decide, exN 0, mC_L_13, by decide⟩
        · exact ⟨by decide, exN 1, mC_L_15, by decide⟩
      · refine aw_astoreR C dL_write_21 (by decide) rfl ?_
        refine aw_iconst (v := 3) C dL_write_23 (by decide) ?_
        exact aw_vx (Nat.le_of_ble_eq_true rfl) (Nat.le_of_ble_eq_true rfl) (aw_lireturn C hr dL_write_24 hE ⟨_, rfl, hw⟩)
def w_L_write_B (K : Int32 → Sh → Gt → Prop) (p0 : Int32) (p1 : Int32) (G0 : Gt) : Prop :=
  w_X10_write_B (fun v G1 => pt (gu G1 83 (0 : Int32).toNatClampNeg v) fun G2 => K 0 shB G2) (fun k G1 => (k = 0 ∧ K 1 shB G1) ∨ (k = 1 ∧ K 2 shB G1) ∨ (k = 2 ∧ K 3 shB G1)) p0 p1 G0
set_option maxHeartbeats 4000000 in
set_option maxRecDepth 100000 in
theorem t_L_write_B {l : Launch} (hlf : l.stackTraces = false) (p0 : Int32) (p1 : Int32) (G0 : Gt) (K : Int32 → Sh → Gt → Prop) (hw : w_L_write_B K p0 p1 G0) : CW l yL_write cL_write 5 [(0, 10, 13, 13), (0, 10, 17, 15), (0, 10, 21, 17)] 7 113 1 6 [.ref 0, .int p0, .int p1, .ref 83] shB G0 (fun r s' G' => ∃ v, r = some (.int v) ∧ K v s' G') := by
  refine CW_of (by decide) (Nat.le_of_ble_eq_true rfl) rfl ?_
  intro p e s m args below meth c D tA ad A C hr htab
  unfold w_L_write_B at hw
  show aw p l e { frames := 7, cells := 1, slots := 6, locals := 113 } s m args below meth c 5 D tA A (vx_MQ below (QL D tA ad A shB (fun r s' G' => ∃ v, r = some (.int v) ∧ K v s' G')) noX args s 1 6 A) 0 0 ad 0 [some (.ref 0), some (.int p0), some (.int p1), some (.ref 83), none] [] shB G0
  refine aw_aloadn C dL_write_0 rfl ?_
  refine aw_iconst (v := 0) C dL_write_1 (by decide) ?_
  refine aw_aloadn C dL_write_2 rfl ?_
  refine aw_iloadn C dL_write_3 rfl ?_
  refine aw_iloadn C dL_write_4 rfl ?_
  refine aw_callL C dL_write_5 (t_X10_write_B hlf p0 p1 _ _ _ hw).toCL mM_L_33 bX10_write shB_0 rfl rfl ⟨Nat.le_of_ble_eq_true rfl, Nat.le_of_ble_eq_true rfl, Nat.le_of_ble_eq_true rfl, Nat.le_of_ble_eq_true rfl⟩ [.int 0, .ref 83] rfl (Nat.le_of_ble_eq_true rfl) ⟨by decide, by decide, trivial⟩ ⟨by decide, trivial⟩ (fun r ad1 s1 G1 hE hq => ?_) (fun kE ad1 s1 G1 q9 hk3 hE hq => ?_)
  · obtain ⟨rfl, v, rfl, hw⟩ := hq
    refine aw_i2l C dL_write_8 ?_
    refine aw_last (N := 1) C dL_write_9 (sA_83 shOK_B) (by unfold vp_in; decide) hw (fun G2 hw => ?_)
    refine aw_goto (tgt := 25) C dL_write_10 (by decide) ?_
    refine aw_iconst (v := 0) C dL_write_25 (by decide) ?_
    exact aw_vx (Nat.le_of_ble_eq_true rfl) (Nat.le_of_ble_eq_true rfl) (aw_lireturn C hr dL_write_26 hE ⟨_, rfl, hw⟩)
  · obtain ⟨rfl, hq⟩ := hq
    rcases hq with ⟨rfl, hw⟩ | ⟨rfl, hw⟩ | ⟨rfl, hw⟩
    · refine awx_catch C [] ⟨0, 10, 13, 13⟩ [⟨0, 10, 17, 15⟩, ⟨0, 10, 21, 17⟩] htab (fun z hz => nomatch hz) (by decide) (by decide) mC_L_13 (by decide) ?_
      refine aw_astoreR C dL_write_13 (by decide) rfl ?_
      refine aw_iconst (v := 1) C dL_write_15 (by decide) ?_
      exact aw_vx (Nat.le_of_ble_eq_true rfl) (Nat.le_of_ble_eq_true rfl) (aw_lireturn C hr dL_write_16 hE ⟨_, rfl, hw⟩)
    · refine awx_catch C [⟨0, 10, 13, 13⟩] ⟨0, 10, 17, 15⟩ [⟨0, 10, 21, 17⟩] htab (fun z hz => ?_) (by decide) (by decide) mC_L_15 (by decide) ?_
      · simp only [List.mem_cons, List.not_mem_nil, or_false] at hz
        subst hz
        exact ⟨by decide, exN 0, mC_L_13, by decide⟩
      · refine aw_astoreR C dL_write_17 (by decide) rfl ?_
        refine aw_iconst (v := 2) C dL_write_19 (by decide) ?_
        exact aw_vx (Nat.le_of_ble_eq_true rfl) (Nat.le_of_ble_eq_true rfl) (aw_lireturn C hr dL_write_20 hE ⟨_, rfl, hw⟩)
    · refine awx_catch C [⟨0, 10, 13, 13⟩, ⟨0, 10, 17, 15⟩] ⟨0, 10, 21, 17⟩ [] htab (fun z hz => ?_) (by decide) (by decide) mC_L_17 (by decide) ?_
      · simp only [List.mem_cons, List.not_mem_nil, or_false] at hz
        rcases hz with rfl | rfl
        · exact ⟨by decide, exN 0, mC_L_13, by decide⟩
        · exact ⟨by decide, exN 1, mC_L_15, by decide⟩
      · refine aw_astoreR C dL_write_21 (by decide) rfl ?_
        refine aw_iconst (v := 3) C dL_write_23 (by decide) ?_
        exact aw_vx (Nat.le_of_ble_eq_true rfl) (Nat.le_of_ble_eq_true rfl) (aw_lireturn C hr dL_write_24 hE ⟨_, rfl, hw⟩)
def w_L_run_A (K : Int32 → Sh → Gt → Prop) (p0 : Int32) (G0 : Gt) : Prop :=
  w_X10_run_A (fun v G1 => pt (gu G1 83 (0 : Int32).toNatClampNeg v) fun G2 => K 0 shB G2) (fun k G1 => (k = 0 ∧ K 1 shA G1) ∨ (k = 2 ∧ K 2 shA G1)) p0 G0
set_option maxHeartbeats 4000000 in
set_option maxRecDepth 100000 in
theorem t_L_run_A {l : Launch} (hlf : l.stackTraces = false) (p0 : Int32) (G0 : Gt) (K : Int32 → Sh → Gt → Prop) (hw : w_L_run_A K p0 G0) : CW l yL_run cL_run 4 [(0, 9, 12, 13), (0, 9, 15, 17)] 7 202 61 20705 [.ref 0, .int p0, .ref 83] shA G0 (fun r s' G' => ∃ v, r = some (.int v) ∧ K v s' G') := by
  refine CW_of (by decide) (Nat.le_of_ble_eq_true rfl) rfl ?_
  intro p e s m args below meth c D tA ad A C hr htab
  unfold w_L_run_A at hw
  show aw p l e { frames := 7, cells := 61, slots := 20705, locals := 202 } s m args below meth c 4 D tA A (vx_MQ below (QL D tA ad A shA (fun r s' G' => ∃ v, r = some (.int v) ∧ K v s' G')) noX args s 61 20705 A) 0 0 ad 0 [some (.ref 0), some (.int p0), some (.ref 83), none] [] shA G0
  refine aw_aloadn C dL_run_0 rfl ?_
  refine aw_iconst (v := 0) C dL_run_1 (by decide) ?_
  refine aw_aloadn C dL_run_2 rfl ?_
  refine aw_iloadn C dL_run_3 rfl ?_
  refine aw_callL C dL_run_4 (t_X10_run_A hlf p0 _ _ _ hw) mM_L_36 bX10_run shA_0 rfl rfl ⟨Nat.le_of_ble_eq_true rfl, Nat.le_of_ble_eq_true rfl, Nat.le_of_ble_eq_true rfl, Nat.le_of_ble_eq_true rfl⟩ [.int 0, .ref 83] rfl (Nat.le_of_ble_eq_true rfl) ⟨by decide, by decide, trivial⟩ ⟨by decide, trivial⟩ (fun r ad1 s1 G1 hE hq => ?_) (fun kE ad1 s1 G1 q9 hk3 hE hq => ?_)
  · obtain ⟨rfl, v, rfl, hw⟩ := hq
    refine aw_i2l C dL_run_7 ?_
    refine aw_last (N := 1) C dL_run_8 (sA_83 shOK_B) (by unfold vp_in; decide) hw (fun G2 hw => ?_)
    refine aw_goto (tgt := 18) C dL_run_9 (by decide) ?_
    refine aw_iconst (v := 0) C dL_run_18 (by decide) ?_
    exact aw_vx (Nat.le_of_ble_eq_true rfl) (Nat.le_of_ble_eq_true rfl) (aw_lireturn C hr dL_run_19 hE ⟨_, rfl, hw⟩)
  · obtain ⟨rfl, hq⟩ := hq
    rcases hq with ⟨rfl, hw⟩ | ⟨rfl, hw⟩
    · refine awx_catch C [] ⟨0, 9, 12, 13⟩ [⟨0, 9, 15, 17⟩] htab (fun z hz => nomatch hz) (by decide) (by decide) mC_L_13 (by decide) ?_
      refine aw_astorenR C dL_run_12 (by decide) rfl ?_
      refine aw_iconst (v := 1) C dL_run_13 (by decide) ?_
      exact aw_vx (Nat.le_of_ble_eq_true rfl) (Nat.le_of_ble_eq_true rfl) (aw_lireturn C hr dL_run_14 hE ⟨_, rfl, hw⟩)
    · refine awx_catch C [⟨0, 9, 12, 13⟩] ⟨0, 9, 15, 17⟩ [] htab (fun z hz => ?_) (by decide) (by decide) mC_L_17 (by decide) ?_
      · simp only [List.mem_cons, List.not_mem_nil, or_false] at hz
        subst hz
        exact ⟨by decide, exN 0, mC_L_13, by decide⟩
      · refine aw_astorenR C dL_run_15 (by decide) rfl ?_
        refine aw_iconst (v := 2) C dL_run_16 (by decide) ?_
        exact aw_vx (Nat.le_of_ble_eq_true rfl) (Nat.le_of_ble_eq_true rfl) (aw_lireturn C hr dL_run_17 hE ⟨_, rfl, hw⟩)
def w_L_run_B (K : Int32 → Sh → Gt → Prop) (p0 : Int32) (G0 : Gt) : Prop :=
  w_X10_run_B (fun v G1 => pt (gu G1 83 (0 : Int32).toNatClampNeg v) fun G2 => K 0 shB G2) (fun k G1 => (k = 0 ∧ K 1 shB G1) ∨ (k = 2 ∧ K 2 shB G1)) p0 G0
set_option maxHeartbeats 4000000 in
set_option maxRecDepth 100000 in
theorem t_L_run_B {l : Launch} (hlf : l.stackTraces = false) (p0 : Int32) (G0 : Gt) (K : Int32 → Sh → Gt → Prop) (hw : w_L_run_B K p0 G0) : CW l yL_run cL_run 4 [(0, 9, 12, 13), (0, 9, 15, 17)] 7 175 1 6 [.ref 0, .int p0, .ref 83] shB G0 (fun r s' G' => ∃ v, r = some (.int v) ∧ K v s' G') := by
  refine CW_of (by decide) (Nat.le_of_ble_eq_true rfl) rfl ?_
  intro p e s m args below meth c D tA ad A C hr htab
  unfold w_L_run_B at hw
  show aw p l e { frames := 7, cells := 1, slots := 6, locals := 175 } s m args below meth c 4 D tA A (vx_MQ below (QL D tA ad A shB (fun r s' G' => ∃ v, r = some (.int v) ∧ K v s' G')) noX args s 1 6 A) 0 0 ad 0 [some (.ref 0), some (.int p0), some (.ref 83), none] [] shB G0
  refine aw_aloadn C dL_run_0 rfl ?_
  refine aw_iconst (v := 0) C dL_run_1 (by decide) ?_
  refine aw_aloadn C dL_run_2 rfl ?_
  refine aw_iloadn C dL_run_3 rfl ?_
  refine aw_callL C dL_run_4 (t_X10_run_B hlf p0 _ _ _ hw).toCL mM_L_36 bX10_run shB_0 rfl rfl ⟨Nat.le_of_ble_eq_true rfl, Nat.le_of_ble_eq_true rfl, Nat.le_of_ble_eq_true rfl, Nat.le_of_ble_eq_true rfl⟩ [.int 0, .ref 83] rfl (Nat.le_of_ble_eq_true rfl) ⟨by decide, by decide, trivial⟩ ⟨by decide, trivial⟩ (fun r ad1 s1 G1 hE hq => ?_) (fun kE ad1 s1 G1 q9 hk3 hE hq => ?_)
  · obtain ⟨rfl, v, rfl, hw⟩ := hq
    refine aw_i2l C dL_run_7 ?_
    refine aw_last (N := 1) C dL_run_8 (sA_83 shOK_B) (by unfold vp_in; decide) hw (fun G2 hw => ?_)
    refine aw_goto (tgt := 18) C dL_run_9 (by decide) ?_
    refine aw_iconst (v := 0) C dL_run_18 (by decide) ?_
    exact aw_vx (Nat.le_of_ble_eq_true rfl) (Nat.le_of_ble_eq_true rfl) (aw_lireturn C hr dL_run_19 hE ⟨_, rfl, hw⟩)
  · obtain ⟨rfl, hq⟩ := hq
    rcases hq with ⟨rfl, hw⟩ | ⟨rfl, hw⟩
    · refine awx_catch C [] ⟨0, 9, 12, 13⟩ [⟨0, 9, 15, 17⟩] htab (fun z hz => nomatch hz) (by decide) (by decide) mC_L_13 (by decide) ?_
      refine aw_astorenR C dL_run_12 (by decide) rfl ?_
      refine aw_iconst (v := 1) C dL_run_13 (by decide) ?_
      exact aw_vx (Nat.le_of_ble_eq_true rfl) (Nat.le_of_ble_eq_true rfl) (aw_lireturn C hr dL_run_14 hE ⟨_, rfl, hw⟩)
    · refine awx_catch C [⟨0, 9, 12, 13⟩] ⟨0, 9, 15, 17⟩ [] htab (fun z hz => ?_) (by decide) (by decide) mC_L_17 (by decide) ?_
      · simp only [List.mem_cons, List.not_mem_nil, or_false] at hz
        subst hz
        exact ⟨by decide, exN 0, mC_L_13, by decide⟩
      · refine aw_astorenR C dL_run_15 (by decide) rfl ?_
        refine aw_iconst (v := 2) C dL_run_16 (by decide) ?_
        exact aw_vx (Nat.le_of_ble_eq_true rfl) (Nat.le_of_ble_eq_true rfl) (aw_lireturn C hr dL_run_17 hE ⟨_, rfl, hw⟩)
def w_L_runx_A (K : Int32 → Sh → Gt → Prop) (p0 : Int32) (G0 : Gt) : Prop :=
  w_X10_runx_A (fun v G1 => pt (gu G1 83 (0 : Int32).toNatClampNeg v) fun G2 => K 0 shA G2) (fun k G1 => (k = 0 ∧ K 1 shA G1) ∨ (k = 2 ∧ K 2 shA G1)) p0 G0
set_option maxHeartbeats 4000000 in
set_option maxRecDepth 100000 in
theorem t_L_runx_A {l : Launch} (hlf : l.stackTraces = false) (p0 : Int32) (G0 : Gt) (K : Int32 → Sh → Gt → Prop) (hw : w_L_runx_A K p0 G0) : CW l yL_run cL_run 4 [(0, 9, 12, 13), (0, 9, 15, 17)] 7 202 1 6 [.ref 0, .int p0, .ref 83] shA G0 (fun r s' G' => ∃ v, r = some (.int v) ∧ K v s' G') := by
  refine CW_of (by decide) (Nat.le_of_ble_eq_true rfl) rfl ?_
  intro p e s m args below meth c D tA ad A C hr htab
  unfold w_L_runx_A at hw
  show aw p l e { frames := 7, cells := 1, slots := 6, locals := 202 } s m args below meth c 4 D tA A (vx_MQ below (QL D tA ad A shA (fun r s' G' => ∃ v, r = some (.int v) ∧ K v s' G')) noX args s 1 6 A) 0 0 ad 0 [some (.ref 0), some (.int p0), some (.ref 83), none] [] shA G0
  refine aw_aloadn C dL_run_0 rfl ?_
  refine aw_iconst (v := 0) C dL_run_1 (by decide) ?_
  refine aw_aloadn C dL_run_2 rfl ?_
  refine aw_iloadn C dL_run_3 rfl ?_
  refine aw_callL C dL_run_4 (t_X10_runx_A hlf p0 _ _ _ hw).toCL mM_L_36 bX10_run shA_0 rfl rfl ⟨Nat.le_of_ble_eq_true rfl, Nat.le_of_ble_eq_true rfl, Nat.le_of_ble_eq_true rfl, Nat.le_of_ble_eq_true rfl⟩ [.int 0, .ref 83] rfl (Nat.le_of_ble_eq_true rfl) ⟨by decide, by decide, trivial⟩ ⟨by decide, trivial⟩ (fun r ad1 s1 G1 hE hq => ?_) (fun kE ad1 s1 G1 q9 hk3 hE hq => ?_)
  · obtain ⟨rfl, v, rfl, hw⟩ := hq
    refine aw_i2l C dL_run_7 ?_
    refine aw_last (N := 1) C dL_run_8 (sA_83 shOK_A) (by unfold vp_in; decide) hw (fun G2 hw => ?_)
    refine aw_goto (tgt := 18) C dL_run_9 (by decide) ?_
    refine aw_iconst (v := 0) C dL_run_18 (by decide) ?_
    exact aw_vx (Nat.le_of_ble_eq_true rfl) (Nat.le_of_ble_eq_true rfl) (aw_lireturn C hr dL_run_19 hE ⟨_, rfl, hw⟩)
  · obtain ⟨rfl, hq⟩ := hq
    rcases hq with ⟨rfl, hw⟩ | ⟨rfl, hw⟩
    · refine awx_catch C [] ⟨0, 9, 12, 13⟩ [⟨0, 9, 15, 17⟩] htab (fun z hz => nomatch hz) (by decide) (by decide) mC_L_13 (by decide) ?_
      refine aw_astorenR C dL_run_12 (by decide) rfl ?_
      refine aw_iconst (v := 1) C dL_run_13 (by decide) ?_
      exact aw_vx (Nat.le_of_ble_eq_true rfl) (Nat.le_of_ble_eq_true rfl) (aw_lireturn C hr dL_run_14 hE ⟨_, rfl, hw⟩)
    · refine awx_catch C [⟨0, 9, 12, 13⟩] ⟨0, 9, 15, 17⟩ [] htab (fun z hz => ?_) (by decide) (by decide) mC_L_17 (by decide) ?_
      · simp only [List.mem_cons, List.not_mem_nil, or_false] at hz
        subst hz
        exact ⟨by decide, exN 0, mC_L_13, by decide⟩
      · refine aw_astorenR C dL_run_15 (by decide) rfl ?_
        refine aw_iconst (v := 2) C dL_run_16 (by decide) ?_
        exact aw_vx (Nat.le_of_ble_eq_true rfl) (Nat.le_of_ble_eq_true rfl) (aw_lireturn C hr dL_run_17 hE ⟨_, rfl, hw⟩)
def w_L_tried_A (K : Int32 → Sh → Gt → Prop) (p0 : Int32) (G0 : Gt) : Prop :=
  w_X10_tried_A (fun v G1 => pt (gu G1 83 (0 : Int32).toNatClampNeg v) fun G2 => K 0 shB G2) (fun k G1 => (k = 0 ∧ K 1 shA G1) ∨ (k = 2 ∧ K 2 shA G1)) p0 G0
set_option maxHeartbeats 4000000 in
set_option maxRecDepth 100000 in
theorem t_L_tried_A {l : Launch} (hlf : l.stackTraces = false) (p0 : Int32) (G0 : Gt) (K : Int32 → Sh → Gt → Prop) (hw : w_L_tried_A K p0 G0) : CW l yL_tried cL_tried 4 [(0, 9, 12, 13), (0, 9, 15, 17)] 8 223 61 20705 [.ref 0, .int p0, .ref 83] shA G0 (fun r s' G' => ∃ v, r = some (.int v) ∧ K v s' G') := by
  refine CW_of (by decide) (Nat.le_of_ble_eq_true rfl) rfl ?_
  intro p e s m args below meth c D tA ad A C hr htab
  unfold w_L_tried_A at hw
  show aw p l e { frames := 8, cells := 61, slots := 20705, locals := 223 } s m args below meth c 4 D tA A (vx_MQ below (QL D tA ad A shA (fun r s' G' => ∃ v, r = some (.int v) ∧ K v s' G')) noX args s 61 20705 A) 0 0 ad 0 [some (.ref 0), some (.int p0), some (.ref 83), none] [] shA G0
  refine aw_aloadn C dL_tried_0 rfl ?_
  refine aw_iconst (v := 0) C dL_tried_1 (by decide) ?_
  refine aw_aloadn C dL_tried_2 rfl ?_
  refine aw_iloadn C dL_tried_3 rfl ?_
  refine aw_callL C dL_tried_4 (t_X10_tried_A hlf p0 _ _ _ hw) mM_L_39 bX10_tried shA_0 rfl rfl ⟨Nat.le_of_ble_eq_true rfl, Nat.le_of_ble_eq_true rfl, Nat.le_of_ble_eq_true rfl, Nat.le_of_ble_eq_true rfl⟩ [.int 0, .ref 83] rfl (Nat.le_of_ble_eq_true rfl) ⟨by decide, by decide, trivial⟩ ⟨by decide, trivial⟩ (fun r ad1 s1 G1 hE hq => ?_) (fun kE ad1 s1 G1 q9 hk3 hE hq => ?_)
  · obtain ⟨rfl, v, rfl, hw⟩ := hq
    refine aw_i2l C dL_tried_7 ?_
    refine aw_last (N := 1) C dL_tried_8 (sA_83 shOK_B) (by unfold vp_in; decide) hw (fun G2 hw => ?_)
    refine aw_goto (tgt := 18) C dL_tried_9 (by decide) ?_
    refine aw_iconst (v := 0) C dL_tried_18 (by decide) ?_
    exact aw_vx (Nat.le_of_ble_eq_true rfl) (Nat.le_of_ble_eq_true rfl) (aw_lireturn C hr dL_tried_19 hE ⟨_, rfl, hw⟩)
  · obtain ⟨rfl, hq⟩ := hq
    rcases hq with ⟨rfl, hw⟩ | ⟨rfl, hw⟩
    · refine awx_catch C [] ⟨0, 9, 12, 13⟩ [⟨0, 9, 15, 17⟩] htab (fun z hz => nomatch hz) (by decide) (by decide) mC_L_13 (by decide) ?_
      refine aw_astorenR C dL_tried_12 (by decide) rfl ?_
      refine aw_iconst (v := 1) C dL_tried_13 (by decide) ?_
      exact aw_vx (Nat.le_of_ble_eq_true rfl) (Nat.le_of_ble_eq_true rfl) (aw_lireturn C hr dL_tried_14 hE ⟨_, rfl, hw⟩)
    · refine awx_catch C [⟨0, 9, 12, 13⟩] ⟨0, 9, 15, 17⟩ [] htab (fun z hz => ?_) (by decide) (by decide) mC_L_17 (by decide) ?_
      · simp only [List.mem_cons, List.not_mem_nil, or_false] at hz
        subst hz
        exact ⟨by decide, exN 0, mC_L_13, by decide⟩
      · refine aw_astorenR C dL_tried_15 (by decide) rfl ?_
        refine aw_iconst (v := 2) C dL_tried_16 (by decide) ?_
        exact aw_vx (Nat.le_of_ble_eq_true rfl) (Nat.le_of_ble_eq_true rfl) (aw_lireturn C hr dL_tried_17 hE ⟨_, rfl, hw⟩)
def w_L_tried_B (K : Int32 → Sh → Gt → Prop) (p0 : Int32) (G0 : Gt) : Prop :=
  w_X10_tried_B (fun v G1 => pt (gu G1 83 (0 : Int32).toNatClampNeg v) fun G2 => K 0 shB G2) (fun k G1 => (k = 0 ∧ K 1 shB G1) ∨ (k = 2 ∧ K 2 shB G1)) p0 G0
set_option maxHeartbeats 4000000 in
set_option maxRecDepth 100000 in
theorem t_L_tried_B {l : Launch} (hlf : l.stackTraces = false) (p0 : Int32) (G0 : Gt) (K : Int32 → Sh → Gt → Prop) (hw : w_L_tried_B K p0 G0) : CW l yL_tried cL_tried 4 [(0, 9, 12, 13), (0, 9, 15, 17)] 8 196 1 6 [.ref 0, .int p0, .ref 83] shB G0 (fun r s' G' => ∃ v, r = some (.int v) ∧ K v s' G') := by
  refine CW_of (by decide) (Nat.le_of_ble_eq_true rfl) rfl ?_
  intro p e s m args below meth c D tA ad A C hr htab
  unfold w_L_tried_B at hw
  show aw p l e { frames := 8, cells := 1, slots := 6, locals := 196 } s m args below meth c 4 D tA A (vx_MQ below (QL D tA ad A shB (fun r s' G' => ∃ v, r = some (.int v) ∧ K v s' G')) noX args s 1 6 A) 0 0 ad 0 [some (.ref 0), some (.int p0), some (.ref 83), none] [] shB G0
  refine aw_aloadn C dL_tried_0 rfl ?_
  refine aw_iconst (v := 0) C dL_tried_1 (by decide) ?_
  refine aw_aloadn C dL_tried_2 rfl ?_
  refine aw_iloadn C dL_tried_3 rfl ?_
  refine aw_callL C dL_tried_4 (t_X10_tried_B hlf p0 _ _ _ hw).toCL mM_L_39 bX10_tried shB_0 rfl rfl ⟨Nat.le_of_ble_eq_true rfl, Nat.le_of_ble_eq_true rfl, Nat.le_of_ble_eq_true rfl, Nat.le_of_ble_eq_true rfl⟩ [.int 0, .ref 83] rfl (Nat.le_of_ble_eq_true rfl) ⟨by decide, by decide, trivial⟩ ⟨by decide, trivial⟩ (fun r ad1 s1 G1 hE hq => ?_) (fun kE ad1 s1 G1 q9 hk3 hE hq => ?_)
  · obtain ⟨rfl, v, rfl, hw⟩ := hq
    refine aw_i2l C dL_tried_7 ?_
    refine aw_last (N := 1) C dL_tried_8 (sA_83 shOK_B) (by unfold vp_in; decide) hw (fun G2 hw => ?_)
    refine aw_goto (tgt := 18) C dL_tried_9 (by decide) ?_
    refine aw_iconst (v := 0) C dL_tried_18 (by decide) ?_
    exact aw_vx (Nat.le_of_ble_eq_true rfl) (Nat.le_of_ble_eq_true rfl) (aw_lireturn C hr dL_tried_19 hE ⟨_, rfl, hw⟩)
  · obtain ⟨rfl, hq⟩ := hq
    rcases hq with ⟨rfl, hw⟩ | ⟨rfl, hw⟩
    · refine awx_catch C [] ⟨0, 9, 12, 13⟩ [⟨0, 9, 15, 17⟩] htab (fun z hz => nomatch hz) (by decide) (by decide) mC_L_13 (by decide) ?_
      refine aw_astorenR C dL_tried_12 (by decide) rfl ?_
      refine aw_iconst (v := 1) C dL_tried_13 (by decide) ?_
      exact aw_vx (Nat.le_of_ble_eq_true rfl) (Nat.le_of_ble_eq_true rfl) (aw_lireturn C hr dL_tried_14 hE ⟨_, rfl, hw⟩)
    · refine awx_catch C [⟨0, 9, 12, 13⟩] ⟨0, 9, 15, 17⟩ [] htab (fun z hz => ?_) (by decide) (by decide) mC_L_17 (by decide) ?_
      · simp only [List.mem_cons, List.not_mem_nil, or_false] at hz
        subst hz
        exact ⟨by decide, exN 0, mC_L_13, by decide⟩
      · refine aw_astorenR C dL_tried_15 (by decide) rfl ?_
        refine aw_iconst (v := 2) C dL_tried_16 (by decide) ?_
        exact aw_vx (Nat.le_of_ble_eq_true rfl) (Nat.le_of_ble_eq_true rfl) (aw_lireturn C hr dL_tried_17 hE ⟨_, rfl, hw⟩)
def w_L_triedx_A (K : Int32 → Sh → Gt → Prop) (p0 : Int32) (G0 : Gt) : Prop :=
  w_X10_triedx_A (fun v G1 => pt (gu G1 83 (0 : Int32).toNatClampNeg v) fun G2 => K 0 shA G2) (fun k G1 => (k = 0 ∧ K 1 shA G1) ∨ (k = 2 ∧ K 2 shA G1)) p0 G0
set_option maxHeartbeats 4000000 in
set_option maxRecDepth 100000 in
theorem t_L_triedx_A {l : Launch} (hlf : l.stackTraces = false) (p0 : Int32) (G0 : Gt) (K : Int32 → Sh → Gt → Prop) (hw : w_L_triedx_A K p0 G0) : CW l yL_tried cL_tried 4 [(0, 9, 12, 13), (0, 9, 15, 17)] 8 223 1 6 [.ref 0, .int p0, .ref 83] shA G0 (fun r s' G' => ∃ v, r = some (.int v) ∧ K v s' G') := by
  refine CW_of (by decide) (Nat.le_of_ble_eq_true rfl) rfl ?_
  intro p e s m args below meth c D tA ad A C hr htab
  unfold w_L_triedx_A at hw
  show aw p l e { frames := 8, cells := 1, slots := 6, locals := 223 } s m args below meth c 4 D tA A (vx_MQ below (QL D tA ad A shA (fun r s' G' => ∃ v, r = some (.int v) ∧ K v s' G')) noX args s 1 6 A) 0 0 ad 0 [some (.ref 0), some (.int p0), some (.ref 83), none] [] shA G0
  refine aw_aloadn C dL_tried_0 rfl ?_
  refine aw_iconst (v := 0) C dL_tried_1 (by decide) ?_
  refine aw_aloadn C dL_tried_2 rfl ?_
  refine aw_iloadn C dL_tried_3 rfl ?_
  refine aw_callL C dL_tried_4 (t_X10_triedx_A hlf p0 _ _ _ hw).toCL mM_L_39 bX10_tried shA_0 rfl rfl ⟨Nat.le_of_ble_eq_true rfl, Nat.le_of_ble_eq_true rfl, Nat.le_of_ble_eq_true rfl, Nat.le_of_ble_eq_true rfl⟩ [.int 0, .ref 83] rfl (Nat.le_of_ble_eq_true rfl) ⟨by decide, by decide, trivial⟩ ⟨by decide, trivial⟩ (fun r ad1 s1 G1 hE hq => ?_) (fun kE ad1 s1 G1 q9 hk3 hE hq => ?_)
  · obtain ⟨rfl, v, rfl, hw⟩ := hq
    refine aw_i2l C dL_tried_7 ?_
    refine aw_last (N := 1) C dL_tried_8 (sA_83 shOK_A) (by unfold vp_in; decide) hw (fun G2 hw => ?_)
    refine aw_goto (tgt := 18) C dL_tried_9 (by decide) ?_
    refine aw_iconst (v := 0) C dL_tried_18 (by decide) ?_
    exact aw_vx (Nat.le_of_ble_eq_true rfl) (Nat.le_of_ble_eq_true rfl) (aw_lireturn C hr dL_tried_19 hE ⟨_, rfl, hw⟩)
  · obtain ⟨rfl, hq⟩ := hq
    rcases hq with ⟨rfl, hw⟩ | ⟨rfl, hw⟩
    · refine awx_catch C [] ⟨0, 9, 12, 13⟩ [⟨0, 9, 15, 17⟩] htab (fun z hz => nomatch hz) (by decide) (by decide) mC_L_13 (by decide) ?_
      refine aw_astorenR C dL_tried_12 (by decide) rfl ?_
      refine aw_iconst (v := 1) C dL_tried_13 (by decide) ?_
      exact aw_vx (Nat.le_of_ble_eq_true rfl) (Nat.le_of_ble_eq_true rfl) (aw_lireturn C hr dL_tried_14 hE ⟨_, rfl, hw⟩)
    · refine awx_catch C [⟨0, 9, 12, 13⟩] ⟨0, 9, 15, 17⟩ [] htab (fun z hz => ?_) (by decide) (by decide) mC_L_17 (by decide) ?_
      · simp only [List.mem_cons, List.not_mem_nil, or_false] at hz
        subst hz
        exact ⟨by decide, exN 0, mC_L_13, by decide⟩
      · refine aw_astorenR C dL_tried_15 (by decide) rfl ?_
        refine aw_iconst (v := 2) C dL_tried_16 (by decide) ?_
        exact aw_vx (Nat.le_of_ble_eq_true rfl) (Nat.le_of_ble_eq_true rfl) (aw_lireturn C hr dL_tried_17 hE ⟨_, rfl, hw⟩)
def w_L_triedSteps_A (K : Int32 → Sh → Gt → Prop) (p0 : Int32) (G0 : Gt) : Prop :=
  w_X10_triedSteps_A (fun v G1 => pt (gu G1 83 (0 : Int32).toNatClampNeg v) fun G2 => K 0 shB G2) (fun k G1 => (k = 0 ∧ K 1 shA G1) ∨ (k = 2 ∧ K 2 shA G1)) p0 G0
set_option maxHeartbeats 4000000 in
set_option maxRecDepth 100000 in
theorem t_L_triedSteps_A {l : Launch} (hlf : l.stackTraces = false) (p0 : Int32) (G0 : Gt) (K : Int32 → Sh → Gt → Prop) (hw : w_L_triedSteps_A K p0 G0) : CW l yL_triedSteps cL_triedSteps 4 [(0, 9, 12, 13), (0, 9, 15, 17)] 8 223 61 20705 [.ref 0, .int p0, .ref 83] shA G0 (fun r s' G' => ∃ v, r = some (.int v) ∧ K v s' G') := by
  refine CW_of (by decide) (Nat.le_of_ble_eq_true rfl) rfl ?_
  intro p e s m args below meth c D tA ad A C hr htab
  unfold w_L_triedSteps_A at hw
  show aw p l e { frames := 8, cells := 61, slots := 20705, locals := 223 } s m args below meth c 4 D tA A (vx_MQ below (QL D tA ad A shA (fun r s' G' => ∃ v, r = some (.int v) ∧ K v s' G')) noX args s 61 20705 A) 0 0 ad 0 [some (.ref 0), some (.int p0), some (.ref 83), none] [] shA G0
  refine aw_aloadn C dL_triedSteps_0 rfl ?_
  refine aw_iconst (v := 0) C dL_triedSteps_1 (by decide) ?_
  refine aw_aloadn C dL_triedSteps_2 rfl ?_
  refine aw_iloadn C dL_triedSteps_3 rfl ?_
  refine aw_callL C dL_triedSteps_4 (t_X10_triedSteps_A hlf p0 _ _ _ hw) mM_L_42 bX10_triedSteps shA_0 rfl rfl ⟨Nat.le_of_ble_eq_true rfl, Nat.le_of_ble_eq_true rfl, Nat.le_of_ble_eq_true rfl, Nat.le_of_ble_eq_true rfl⟩ [.int 0, .ref 83] rfl (Nat.le_of_ble_eq_true rfl) ⟨by decide, by decide, trivial⟩ ⟨by decide, trivial⟩ (fun r ad1 s1 G1 hE hq => ?_) (fun kE ad1 s1 G1 q9 hk3 hE hq => ?_)
  · obtain ⟨rfl, v, rfl, hw⟩ := hq
    refine aw_i2l C dL_triedSteps_7 ?_
    refine aw_last (N := 1) C dL_triedSteps_8 (sA_83 shOK_B) (by unfold vp_in; decide) hw (fun G2 hw => ?_)
    refine aw_goto (tgt := 18) C dL_triedSteps_9 (by decide) ?_
    refine aw_iconst (v := 0) C dL_triedSteps_18 (by decide) ?_
    exact aw_vx (Nat.le_of_ble_eq_true rfl) (Nat.le_of_ble_eq_true rfl) (aw_lireturn C hr dL_triedSteps_19 hE ⟨_, rfl, hw⟩)
  · obtain ⟨rfl, hq⟩ := hq
    rcases hq with ⟨rfl, hw⟩ | ⟨rfl, hw⟩
    · refine awx_catch C [] ⟨0, 9, 12, 13⟩ [⟨0, 9, 15, 17⟩] htab (fun z hz => nomatch hz) (by decide) (by decide) mC_L_13 (by decide) ?_
      refine aw_astorenR C dL_triedSteps_12 (by decide) rfl ?_
      refine aw_iconst (v := 1) C dL_triedSteps_13 (by decide) ?_
      exact aw_vx (Nat.le_of_ble_eq_true rfl) (Nat.le_of_ble_eq_true rfl) (aw_lireturn C hr dL_triedSteps_14 hE ⟨_, rfl, hw⟩)
    · refine awx_catch C [⟨0, 9, 12, 13⟩] ⟨0, 9, 15, 17⟩ [] htab (fun z hz => ?_) (by decide) (by decide) mC_L_17 (by decide) ?_
      · simp only [List.mem_cons, List.not_mem_nil, or_false] at hz
        subst hz
        exact ⟨by decide, exN 0, mC_L_13, by decide⟩
      · refine aw_astorenR C dL_triedSteps_15 (by decide) rfl ?_
        refine aw_iconst (v := 2) C dL_triedSteps_16 (by decide) ?_
        exact aw_vx (Nat.le_of_ble_eq_true rfl) (Nat.le_of_ble_eq_true rfl) (aw_lireturn C hr dL_triedSteps_17 hE ⟨_, rfl, hw⟩)
def w_L_triedSteps_B (K : Int32 → Sh → Gt → Prop) (p0 : Int32) (G0 : Gt) : Prop :=
  w_X10_triedSteps_B (fun v G1 => pt (gu G1 83 (0 : Int32).toNatClampNeg v) fun G2 => K 0 shB G2) (fun k G1 => (k = 0 ∧ K 1 shB G1) ∨ (k = 2 ∧ K 2 shB G1)) p0 G0
set_option maxHeartbeats 4000000 in
set_option maxRecDepth 100000 in
theorem t_L_triedSteps_B {l : Launch} (hlf : l.stackTraces = false) (p0 : Int32) (G0 : Gt) (K : Int32 → Sh → Gt → Prop) (hw : w_L_triedSteps_B K p0 G0) : CW l yL_triedSteps cL_triedSteps 4 [(0, 9, 12, 13), (0, 9, 15, 17)] 8 196 1 6 [.ref 0, .int p0, .ref 83] shB G0 (fun r s' G' => ∃ v, r = some (.int v) ∧ K v s' G') := by
  refine CW_of (by decide) (Nat.le_of_ble_eq_true rfl) rfl ?_
  intro p e s m args below meth c D tA ad A C hr htab
  unfold w_L_triedSteps_B at hw
  show aw p l e { frames := 8, cells := 1, slots := 6, locals := 196 } s m args below meth c 4 D tA A (vx_MQ below (QL D tA ad A shB (fun r s' G' => ∃ v, r = some (.int v) ∧ K v s' G')) noX args s 1 6 A) 0 0 ad 0 [some (.ref 0), some (.int p0), some (.ref 83), none] [] shB G0
  refine aw_aloadn C dL_triedSteps_0 rfl ?_
  refine aw_iconst (v := 0) C dL_triedSteps_1 (by decide) ?_
  refine aw_aloadn C dL_triedSteps_2 rfl ?_
  refine aw_iloadn C dL_triedSteps_3 rfl ?_
  refine aw_callL C dL_triedSteps_4 (t_X10_triedSteps_B hlf p0 _ _ _ hw).toCL mM_L_42 bX10_triedSteps shB_0 rfl rfl ⟨Nat.le_of_ble_eq_true rfl, Nat.le_of_ble_eq_true rfl, Nat.le_of_ble_eq_true rfl, Nat.le_of_ble_eq_true rfl⟩ [.int 0, .ref 83] rfl (Nat.le_of_ble_eq_true rfl) ⟨by decide, by decide, trivial⟩ ⟨by decide, trivial⟩ (fun r ad1 s1 G1 hE hq => ?_) (fun kE ad1 s1 G1 q9 hk3 hE hq => ?_)
  · obtain ⟨rfl, v, rfl, hw⟩ := hq
    refine aw_i2l C dL_triedSteps_7 ?_
    refine aw_last (N := 1) C dL_triedSteps_8 (sA_83 shOK_B) (by unfold vp_in; decide) hw (fun G2 hw => ?_)
    refine aw_goto (tgt := 18) C dL_triedSteps_9 (by decide) ?_
    refine aw_iconst (v := 0) C dL_triedSteps_18 (by decide) ?_
    exact aw_vx (Nat.le_of_ble_eq_true rfl) (Nat.le_of_ble_eq_true rfl) (aw_lireturn C hr dL_triedSteps_19 hE ⟨_, rfl, hw⟩)
  · obtain ⟨rfl, hq⟩ := hq
    rcases hq with ⟨rfl, hw⟩ | ⟨rfl, hw⟩
    · refine awx_catch C [] ⟨0, 9, 12, 13⟩ [⟨0, 9, 15, 17⟩] htab (fun z hz => nomatch hz) (by decide) (by decide) mC_L_13 (by decide) ?_
      refine aw_astorenR C dL_triedSteps_12 (by decide) rfl ?_
      refine aw_iconst (v := 1) C dL_triedSteps_13 (by decide) ?_
      exact aw_vx (Nat.le_of_ble_eq_true rfl) (Nat.le_of_ble_eq_true rfl) (aw_lireturn C hr dL_triedSteps_14 hE ⟨_, rfl, hw⟩)
    · refine awx_catch C [⟨0, 9, 12, 13⟩] ⟨0, 9, 15, 17⟩ [] htab (fun z hz => ?_) (by decide) (by decide) mC_L_17 (by decide) ?_
      · simp only [List.mem_cons, List.not_mem_nil, or_false] at hz
        subst hz
        exact ⟨by decide, exN 0, mC_L_13, by decide⟩
      · refine aw_astorenR C dL_triedSteps_15 (by decide) rfl ?_
        refine aw_iconst (v := 2) C dL_triedSteps_16 (by decide) ?_
        exact aw_vx (Nat.le_of_ble_eq_true rfl) (Nat.le_of_ble_eq_true rfl) (aw_lireturn C hr dL_triedSteps_17 hE ⟨_, rfl, hw⟩)
def w_L_triedStepsx_A (K : Int32 → Sh → Gt → Prop) (p0 : Int32) (G0 : Gt) : Prop :=
  w_X10_triedStepsx_A (fun v G1 => pt (gu G1 83 (0 : Int32).toNatClampNeg v) fun G2 => K 0 shA G2) (fun k G1 => (k = 0 ∧ K 1 shA G1) ∨ (k = 2 ∧ K 2 shA G1)) p0 G0
set_option maxHeartbeats 4000000 in
set_option maxRecDepth 100000 in
theorem t_L_triedStepsx_A {l : Launch} (hlf : l.stackTraces = false) (p0 : Int32) (G0 : Gt) (K : Int32 → Sh → Gt → Prop) (hw : w_L_triedStepsx_A K p0 G0) : CW l yL_triedSteps cL_triedSteps 4 [(0, 9, 12, 13), (0, 9, 15, 17)] 8 223 1 6 [.ref 0, .int p0, .ref 83] shA G0 (fun r s' G' => ∃ v, r = some (.int v) ∧ K v s' G') := by
  refine CW_of (by decide) (Nat.le_of_ble_eq_true rfl) rfl ?_
  intro p e s m args below meth c D tA ad A C hr htab
  unfold w_L_triedStepsx_A at hw
  show aw p l e { frames := 8, cells := 1, slots := 6, locals := 223 } s m args below meth c 4 D tA A (vx_MQ below (QL D tA ad A shA (fun r s' G' => ∃ v, r = some (.int v) ∧ K v s' G')) noX args s 1 6 A) 0 0 ad 0 [some (.ref 0), some (.int p0), some (.ref 83), none] [] shA G0
  refine aw_aloadn C dL_triedSteps_0 rfl ?_
  refine aw_iconst (v := 0) C dL_triedSteps_1 (by decide) ?_
  refine aw_aloadn C dL_triedSteps_2 rfl ?_
  refine aw_iloadn C dL_triedSteps_3 rfl ?_
  refine aw_callL C dL_triedSteps_4 (t_X10_triedStepsx_A hlf p0 _ _ _ hw).toCL mM_L_42 bX10_triedSteps shA_0 rfl rfl ⟨Nat.le_of_ble_eq_true rfl, Nat.le_of_ble_eq_true rfl, Nat.le_of_ble_eq_true rfl, Nat.le_of_ble_eq_true rfl⟩ [.int 0, .ref 83] rfl (Nat.le_of_ble_eq_true rfl) ⟨by decide, by decide, trivial⟩ ⟨by decide, trivial⟩ (fun r ad1 s1 G1 hE hq => ?_) (fun kE ad1 s1 G1 q9 hk3 hE hq => ?_)
  · obtain ⟨rfl, v, rfl, hw⟩ := hq
    refine aw_i2l C dL_triedSteps_7 ?_
    refine aw_last (N := 1) C dL_triedSteps_8 (sA_83 shOK_A) (by unfold vp_in; decide) hw (fun G2 hw => ?_)
    refine aw_goto (tgt := 18) C dL_triedSteps_9 (by decide) ?_
    refine aw_iconst (v := 0) C dL_triedSteps_18 (by decide) ?_
    exact aw_vx (Nat.le_of_ble_eq_true rfl) (Nat.le_of_ble_eq_true rfl) (aw_lireturn C hr dL_triedSteps_19 hE ⟨_, rfl, hw⟩)
  · obtain ⟨rfl, hq⟩ := hq
    rcases hq with ⟨rfl, hw⟩ | ⟨rfl, hw⟩
    · refine awx_catch C [] ⟨0, 9, 12, 13⟩ [⟨0, 9, 15, 17⟩] htab (fun z hz => nomatch hz) (by decide) (by decide) mC_L_13 (by decide) ?_
      refine aw_astorenR C dL_triedSteps_12 (by decide) rfl ?_
      refine aw_iconst (v := 1) C dL_triedSteps_13 (by decide) ?_
      exact aw_vx (Nat.le_of_ble_eq_true rfl) (Nat.le_of_ble_eq_true rfl) (aw_lireturn C hr dL_triedSteps_14 hE ⟨_, rfl, hw⟩)
    · refine awx_catch C [⟨0, 9, 12, 13⟩] ⟨0, 9, 15, 17⟩ [] htab (fun z hz => ?_) (by decide) (by decide) mC_L_17 (by decide) ?_
      · simp only [List.mem_cons, List.not_mem_nil, or_false] at hz
        subst hz
        exact ⟨by decide, exN 0, mC_L_13, by decide⟩
      · refine aw_astorenR C dL_triedSteps_15 (by decide) rfl ?_
        refine aw_iconst (v := 2) C dL_triedSteps_16 (by decide) ?_
        exact aw_vx (Nat.le_of_ble_eq_true rfl) (Nat.le_of_ble_eq_true rfl) (aw_lireturn C hr dL_triedSteps_17 hE ⟨_, rfl, hw⟩)
def w_L_start_A (K : Int32 → Sh → Gt → Prop) (p0 : Int32) (G0 : Gt) : Prop :=
  w_X10_start_A (K 0 shB) (fun k G1 => (k = 0 ∧ K 1 shA G1) ∨ (k = 2 ∧ K 2 shA G1)) p0 G0
set_option maxHeartbeats 4000000 in
set_option maxRecDepth 100000 in
theorem t_L_start_A {l : Launch} (hlf : l.stackTraces = false) (p0 : Int32) (G0 : Gt) (K : Int32 → Sh → Gt → Prop) (hw : w_L_start_A K p0 G0) : CW l yL_start cL_start 3 [(0, 5, 8, 13), (0, 5, 11, 17)] 7 201 61 20705 [.ref 0, .int p0] shA G0 (fun r s' G' => ∃ v, r = some (.int v) ∧ K v s' G') := by
  refine CW_of (by decide) (Nat.le_of_ble_eq_true rfl) rfl ?_
  intro p e s m args below meth c D tA ad A C hr htab
  unfold w_L_start_A at hw
  show aw p l e { frames := 7, cells := 61, slots := 20705, locals := 201 } s m args below meth c 3 D tA A (vx_MQ below (QL D tA ad A shA (fun r s' G' => ∃ v, r = some (.int v) ∧ K v s' G')) noX args s 61 20705 A) 0 0 ad 0 [some (.ref 0), some (.int p0), none] [] shA G0
  refine aw_aloadn C dL_start_0 rfl ?_
  refine aw_iloadn C dL_start_1 rfl ?_
  refine aw_callL C dL_start_2 (t_X10_start_A hlf p0 _ _ _ hw) mM_L_45 bX10_start shA_0 rfl rfl ⟨Nat.le_of_ble_eq_true rfl, Nat.le_of_ble_eq_true rfl, Nat.le_of_ble_eq_true rfl, Nat.le_of_ble_eq_true rfl⟩ [] rfl (Nat.le_of_ble_eq_true rfl) ⟨by decide, trivial⟩ trivial (fun r ad1 s1 G1 hE hq => ?_) (fun kE ad1 s1 G1 q9 hk3 hE hq => ?_)
  · obtain ⟨rfl, rfl, hw⟩ := hq
    refine aw_goto (tgt := 14) C dL_start_5 (by decide) ?_
    refine aw_iconst (v := 0) C dL_start_14 (by decide) ?_
    exact aw_vx (Nat.le_of_ble_eq_true rfl) (Nat.le_of_ble_eq_true rfl) (aw_lireturn C hr dL_start_15 hE ⟨_, rfl, hw⟩)
  · obtain ⟨rfl, hq⟩ := hq
    rcases hq with ⟨rfl, hw⟩ | ⟨rfl, hw⟩
    · refine awx_catch C [] ⟨0, 5, 8, 13⟩ [⟨0, 5, 11, 17⟩] htab (fun z hz => nomatch hz) (by decide) (by decide) mC_L_13 (by decide) ?_
      refine aw_astorenR C dL_start_8 (by decide) rfl ?_
      refine aw_iconst (v := 1) C dL_start_9 (by decide) ?_
      exact aw_vx (Nat.le_of_ble_eq_true rfl) (Nat.le_of_ble_eq_true rfl) (aw_lireturn C hr dL_start_10 hE ⟨_, rfl, hw⟩)
    · refine awx_catch C [⟨0, 5, 8, 13⟩] ⟨0, 5, 11, 17⟩ [] htab (fun z hz => ?_) (by decide) (by decide) mC_L_17 (by decide) ?_
      · simp only [List.mem_cons, List.not_mem_nil, or_false] at hz
        subst hz
        exact ⟨by decide, exN 0, mC_L_13, by decide⟩
      · refine aw_astorenR C dL_start_11 (by decide) rfl ?_
        refine aw_iconst (v := 2) C dL_start_12 (by decide) ?_
        exact aw_vx (Nat.le_of_ble_eq_true rfl) (Nat.le_of_ble_eq_true rfl) (aw_lireturn C hr dL_start_13 hE ⟨_, rfl, hw⟩)
def w_L_start_B (K : Int32 → Sh → Gt → Prop) (p0 : Int32) (G0 : Gt) : Prop :=
  w_X10_start_B (K 0 shB) (fun k G1 => (k = 0 ∧ K 1 shB G1) ∨ (k = 2 ∧ K 2 shB G1)) p0 G0
set_option maxHeartbeats 4000000 in
set_option maxRecDepth 100000 in
theorem t_L_start_B {l : Launch} (hlf : l.stackTraces = false) (p0 : Int32) (G0 : Gt) (K : Int32 → Sh → Gt → Prop) (hw : w_L_start_B K p0 G0) : CW l yL_start cL_start 3 [(0, 5, 8, 13), (0, 5, 11, 17)] 7 168 1 6 [.ref 0, .int p0] shB G0 (fun r s' G' => ∃ v, r = some (.int v) ∧ K v s' G') := by
  refine CW_of (by decide) (Nat.le_of_ble_eq_true rfl) rfl ?_
  intro p e s m args below meth c D tA ad A C hr htab
  unfold w_L_start_B at hw
  show aw p l e { frames := 7, cells := 1, slots := 6, locals := 168 } s m args below meth c 3 D tA A (vx_MQ below (QL D tA ad A shB (fun r s' G' => ∃ v, r = some (.int v) ∧ K v s' G')) noX args s 1 6 A) 0 0 ad 0 [some (.ref 0), some (.int p0), none] [] shB G0
  refine aw_aloadn C dL_start_0 rfl ?_
  refine aw_iloadn C dL_start_1 rfl ?_
  refine aw_callL C dL_start_2 (t_X10_start_B hlf p0 _ _ _ hw).toCL mM_L_45 bX10_start shB_0 rfl rfl ⟨Nat.le_of_ble_eq_true rfl, Nat.le_of_ble_eq_true rfl, Nat.le_of_ble_eq_true rfl, Nat.le_of_ble_eq_true rfl⟩ [] rfl (Nat.le_of_ble_eq_true rfl) ⟨by decide, trivial⟩ trivial (fun r ad1 s1 G1 hE hq => ?_) (fun kE ad1 s1 G1 q9 hk3 hE hq => ?_)
  · obtain ⟨rfl, rfl, hw⟩ := hq
    refine aw_goto (tgt := 14) C dL_start_5 (by decide) ?_
    refine aw_iconst (v := 0) C dL_start_14 (by decide) ?_
    exact aw_vx (Nat.le_of_ble_eq_true rfl) (Nat.le_of_ble_eq_true rfl) (aw_lireturn C hr dL_start_15 hE ⟨_, rfl, hw⟩)
  · obtain ⟨rfl, hq⟩ := hq
    rcases hq with ⟨rfl, hw⟩ | ⟨rfl, hw⟩
    · refine awx_catch C [] ⟨0, 5, 8, 13⟩ [⟨0, 5, 11, 17⟩] htab (fun z hz => nomatch hz) (by decide) (by decide) mC_L_13 (by decide) ?_
      refine aw_astorenR C dL_start_8 (by decide) rfl ?_
      refine aw_iconst (v := 1) C dL_start_9 (by decide) ?_
      exact aw_vx (Nat.le_of_ble_eq_true rfl) (Nat.le_of_ble_eq_true rfl) (aw_lireturn C hr dL_start_10 hE ⟨_, rfl, hw⟩)
    · refine awx_catch C [⟨0, 5, 8, 13⟩] ⟨0, 5, 11, 17⟩ [] htab (fun z hz => ?_) (by decide) (by decide) mC_L_17 (by decide) ?_
      · simp only [List.mem_cons, List.not_mem_nil, or_false] at hz
        subst hz
        exact ⟨by decide, exN 0, mC_L_13, by decide⟩
      · refine aw_astorenR C dL_start_11 (by decide) rfl ?_
        refine aw_iconst (v := 2) C dL_start_12 (by decide) ?_
        exact aw_vx (Nat.le_of_ble_eq_true rfl) (Nat.le_of_ble_eq_true rfl) (aw_lireturn C hr dL_start_13 hE ⟨_, rfl, hw⟩)
def w_L_startx_A (K : Int32 → Sh → Gt → Prop) (p0 : Int32) (G0 : Gt) : Prop :=
  w_X10_startx_A (K 0 shA) (fun k G1 => (k = 0 ∧ K 1 shA G1) ∨ (k = 2 ∧ K 2 shA G1)) p0 G0
set_option maxHeartbeats 4000000 in
set_option maxRecDepth 100000 in
theorem t_L_startx_A {l : Launch} (hlf : l.stackTraces = false) (p0 : Int32) (G0 : Gt) (K : Int32 → Sh → Gt → Prop) (hw : w_L_startx_A K p0 G0) : CW l yL_start cL_start 3 [(0, 5, 8, 13), (0, 5, 11, 17)] 7 201 1 6 [.ref 0, .int p0] shA G0 (fun r s' G' => ∃ v, r = some (.int v) ∧ K v s' G') := by
  refine CW_of (by decide) (Nat.le_of_ble_eq_true rfl) rfl ?_
  intro p e s m args below meth c D tA ad A C hr htab
  unfold w_L_startx_A at hw
  show aw p l e { frames := 7, cells := 1, slots := 6, locals := 201 } s m args below meth c 3 D tA A (vx_MQ below (QL D tA ad A shA (fun r s' G' => ∃ v, r = some (.int v) ∧ K v s' G')) noX args s 1 6 A) 0 0 ad 0 [some (.ref 0), some (.int p0), none] [] shA G0
  refine aw_aloadn C dL_start_0 rfl ?_
  refine aw_iloadn C dL_start_1 rfl ?_
  refine aw_callL C dL_start_2 (t_X10_startx_A hlf p0 _ _ _ hw).toCL mM_L_45 bX10_start shA_0 rfl rfl ⟨Nat.le_of_ble_eq_true rfl, Nat.le_of_ble_eq_true rfl, Nat.le_of_ble_eq_true rfl, Nat.le_of_ble_eq_true rfl⟩ [] rfl (Nat.le_of_ble_eq_true rfl) ⟨by decide, trivial⟩ trivial (fun r ad1 s1 G1 hE hq => ?_) (fun kE ad1 s1 G1 q9 hk3 hE hq => ?_)
  · obtain ⟨rfl, rfl, hw⟩ := hq
    refine aw_goto (tgt := 14) C dL_start_5 (by decide) ?_
    refine aw_iconst (v := 0) C dL_start_14 (by decide) ?_
    exact aw_vx (Nat.le_of_ble_eq_true rfl) (Nat.le_of_ble_eq_true rfl) (aw_lireturn C hr dL_start_15 hE ⟨_, rfl, hw⟩)
  · obtain ⟨rfl, hq⟩ := hq
    rcases hq with ⟨rfl, hw⟩ | ⟨rfl, hw⟩
    · refine awx_catch C [] ⟨0, 5, 8, 13⟩ [⟨0, 5, 11, 17⟩] htab (fun z hz => nomatch hz) (by decide) (by decide) mC_L_13 (by decide) ?_
      refine aw_astorenR C dL_start_8 (by decide) rfl ?_
      refine aw_iconst (v := 1) C dL_start_9 (by decide) ?_
      exact aw_vx (Nat.le_of_ble_eq_true rfl) (Nat.le_of_ble_eq_true rfl) (aw_lireturn C hr dL_start_10 hE ⟨_, rfl, hw⟩)
    · refine awx_catch C [⟨0, 5, 8, 13⟩] ⟨0, 5, 11, 17⟩ [] htab (fun z hz => ?_) (by decide) (by decide) mC_L_17 (by decide) ?_
      · simp only [List.mem_cons, List.not_mem_nil, or_false] at hz
        subst hz
        exact ⟨by decide, exN 0, mC_L_13, by decide⟩
      · refine aw_astorenR C dL_start_11 (by decide) rfl ?_
        refine aw_iconst (v := 2) C dL_start_12 (by decide) ?_
        exact aw_vx (Nat.le_of_ble_eq_true rfl) (Nat.le_of_ble_eq_true rfl) (aw_lireturn C hr dL_start_13 hE ⟨_, rfl, hw⟩)
def w_L_step_A (K : Int32 → Sh → Gt → Prop) (p0 : Int32) (G0 : Gt) : Prop :=
  w_X10_step_A (fun v G1 => pt (gu G1 83 (0 : Int32).toNatClampNeg v) fun G2 => K 0 shA G2) (fun k G1 => (k = 1 ∧ K 1 shA G1) ∨ (k = 2 ∧ K 2 shA G1)) p0 G0
set_option maxHeartbeats 4000000 in
set_option maxRecDepth 100000 in
theorem t_L_step_A {l : Launch} (hlf : l.stackTraces = false) (p0 : Int32) (G0 : Gt) (K : Int32 → Sh → Gt → Prop) (hw : w_L_step_A K p0 G0) : CW l yL_step cL_step 4 [(0, 9, 12, 15), (0, 9, 15, 17)] 7 112 1 6 [.ref 0, .int p0, .ref 83] shA G0 (fun r s' G' => ∃ v, r = some (.int v) ∧ K v s' G') := by
  refine CW_of (by decide) (Nat.le_of_ble_eq_true rfl) rfl ?_
  intro p e s m args below meth c D tA ad A C hr htab
  unfold w_L_step_A at hw
  show aw p l e { frames := 7, cells := 1, slots := 6, locals := 112 } s m args below meth c 4 D tA A (vx_MQ below (QL D tA ad A shA (fun r s' G' => ∃ v, r = some (.int v) ∧ K v s' G')) noX args s 1 6 A) 0 0 ad 0 [some (.ref 0), some (.int p0), some (.ref 83), none] [] shA G0
  refine aw_aloadn C dL_step_0 rfl ?_
  refine aw_iconst (v := 0) C dL_step_1 (by decide) ?_
  refine aw_aloadn C dL_step_2 rfl ?_
  refine aw_iloadn C dL_step_3 rfl ?_
  refine aw_callL C dL_step_4 (t_X10_step_A hlf p0 _ _ _ hw).toCL mM_L_49 bX10_step shA_0 rfl rfl ⟨Nat.le_of_ble_eq_true rfl, Nat.le_of_ble_eq_true rfl, Nat.le_of_ble_eq_true rfl, Nat.le_of_ble_eq_true rfl⟩ [.int 0, .ref 83] rfl (Nat.le_of_ble_eq_true rfl) ⟨by decide, by decide, trivial⟩ ⟨by decide, trivial⟩ (fun r ad1 s1 G1 hE hq => ?_) (fun kE ad1 s1 G1 q9 hk3 hE hq => ?_)
  · obtain ⟨rfl, v, rfl, hw⟩ := hq
    refine aw_i2l C dL_step_7 ?_
    refine aw_last (N := 1) C dL_step_8 (sA_83 shOK_A) (by unfold vp_in; decide) hw (fun G2 hw => ?_)
    refine aw_goto (tgt := 18) C dL_step_9 (by decide) ?_
    refine aw_iconst (v := 0) C dL_step_18 (by decide) ?_
    exact aw_vx (Nat.le_of_ble_eq_true rfl) (Nat.le_of_ble_eq_true rfl) (aw_lireturn C hr dL_step_19 hE ⟨_, rfl, hw⟩)
  · obtain ⟨rfl, hq⟩ := hq
    rcases hq with ⟨rfl, hw⟩ | ⟨rfl, hw⟩
    · refine awx_catch C [] ⟨0, 9, 12, 15⟩ [⟨0, 9, 15, 17⟩] htab (fun z hz => nomatch hz) (by decide) (by decide) mC_L_15 (by decide) ?_
      refine aw_astorenR C dL_step_12 (by decide) rfl ?_
      refine aw_iconst (v := 1) C dL_step_13 (by decide) ?_
      exact aw_vx (Nat.le_of_ble_eq_true rfl) (Nat.le_of_ble_eq_true rfl) (aw_lireturn C hr dL_step_14 hE ⟨_, rfl, hw⟩)
    · refine awx_catch C [⟨0, 9, 12, 15⟩] ⟨0, 9, 15, 17⟩ [] htab (fun z hz => ?_) (by decide) (by decide) mC_L_17 (by decide) ?_
      · simp only [List.mem_cons, List.not_mem_nil, or_false] at hz
        subst hz
        exact ⟨by decide, exN 1, mC_L_15, by decide⟩
      · refine aw_astorenR C dL_step_15 (by decide) rfl ?_
        refine aw_iconst (v := 2) C dL_step_16 (by decide) ?_
        exact aw_vx (Nat.le_of_ble_eq_true rfl) (Nat.le_of_ble_eq_true rfl) (aw_lireturn C hr dL_step_17 hE ⟨_, rfl, hw⟩)
def w_L_step_B (K : Int32 → Sh → Gt → Prop) (p0 : Int32) (G0 : Gt) : Prop :=
  w_X10_step_B (fun v G1 => pt (gu G1 83 (0 : Int32).toNatClampNeg v) fun G2 => K 0 shB G2) (fun k G1 => (k = 1 ∧ K 1 shB G1) ∨ (k = 2 ∧ K 2 shB G1)) p0 G0
set_option maxHeartbeats 4000000 in
set_option maxRecDepth 100000 in
theorem t_L_step_B {l : Launch} (hlf : l.stackTraces = false) (p0 : Int32) (G0 : Gt) (K : Int32 → Sh → Gt → Prop) (hw : w_L_step_B K p0 G0) : CW l yL_step cL_step 4 [(0, 9, 12, 15), (0, 9, 15, 17)] 7 175 1 6 [.ref 0, .int p0, .ref 83] shB G0 (fun r s' G' => ∃ v, r = some (.int v) ∧ K v s' G') := by
  refine CW_of (by decide) (Nat.le_of_ble_eq_true rfl) rfl ?_
  intro p e s m args below meth c D tA ad A C hr htab
  unfold w_L_step_B at hw
  show aw p l e { frames := 7, cells := 1, slots := 6, locals := 175 } s m args below meth c 4 D tA A (vx_MQ below (QL D tA ad A shB (fun r s' G' => ∃ v, r = some (.int v) ∧ K v s' G')) noX args s 1 6 A) 0 0 ad 0 [some (.ref 0), some (.int p0), some (.ref 83), none] [] shB G0
  refine aw_aloadn C dL_step_0 rfl ?_
  refine aw_iconst (v := 0) C dL_step_1 (by decide) ?_
  refine aw_aloadn C dL_step_2 rfl ?_
  refine aw_iloadn C dL_step_3 rfl ?_
  refine aw_callL C dL_step_4 (t_X10_step_B hlf p0 _ _ _ hw).toCL mM_L_49 bX10_step shB_0 rfl rfl ⟨Nat.le_of_ble_eq_true rfl, Nat.le_of_ble_eq_true rfl, Nat.le_of_ble_eq_true rfl, Nat.le_of_ble_eq_true rfl⟩ [.int 0, .ref 83] rfl (Nat.le_of_ble_eq_true rfl) ⟨by decide, by decide, trivial⟩ ⟨by decide, trivial⟩ (fun r ad1 s1 G1 hE hq => ?_) (fun kE ad1 s1 G1 q9 hk3 hE hq => ?_)
  · obtain ⟨rfl, v, rfl, hw⟩ := hq
    refine aw_i2l C dL_step_7 ?_
    refine aw_last (N := 1) C dL_step_8 (sA_83 shOK_B) (by unfold vp_in; decide) hw (fun G2 hw => ?_)
    refine aw_goto (tgt := 18) C dL_step_9 (by decide) ?_
    refine aw_iconst (v := 0) C dL_step_18 (by decide) ?_
    exact aw_vx (Nat.le_of_ble_eq_true rfl) (Nat.le_of_ble_eq_true rfl) (aw_lireturn C hr dL_step_19 hE ⟨_, rfl, hw⟩)
  · obtain ⟨rfl, hq⟩ := hq
    rcases hq with ⟨rfl, hw⟩ | ⟨rfl, hw⟩
    · refine awx_catch C [] ⟨0, 9, 12, 15⟩ [⟨0, 9, 15, 17⟩] htab (fun z hz => nomatch hz) (by decide) (by decide) mC_L_15 (by decide) ?_
      refine aw_astorenR C dL_step_12 (by decide) rfl ?_
      refine aw_iconst (v := 1) C dL_step_13 (by decide) ?_
      exact aw_vx (Nat.le_of_ble_eq_true rfl) (Nat.le_of_ble_eq_true rfl) (aw_lireturn C hr dL_step_14 hE ⟨_, rfl, hw⟩)
    · refine awx_catch C [⟨0, 9, 12, 15⟩] ⟨0, 9, 15, 17⟩ [] htab (fun z hz => ?_) (by decide) (by decide) mC_L_17 (by decide) ?_
      · simp only [List.mem_cons, List.not_mem_nil, or_false] at hz
        subst hz
        exact ⟨by decide, exN 1, mC_L_15, by decide⟩
      · refine aw_astorenR C dL_step_15 (by decide) rfl ?_
        refine aw_iconst (v := 2) C dL_step_16 (by decide) ?_
        exact aw_vx (Nat.le_of_ble_eq_true rfl) (Nat.le_of_ble_eq_true rfl) (aw_lireturn C hr dL_step_17 hE ⟨_, rfl, hw⟩)
def w_L_giveUp_A (K : Int32 → Sh → Gt → Prop) (G0 : Gt) : Prop :=
  w_X10_giveUp_A (fun v G1 => pt (gu G1 83 (0 : Int32).toNatClampNeg v) fun G2 => K 0 shA G2) (fun k G1 => (k = 2 ∧ K 1 shA G1)) G0
set_option maxHeartbeats 4000000 in
set_option maxRecDepth 100000 in
theorem t_L_giveUp_A {l : Launch} (hlf : l.stackTraces = false) (G0 : Gt) (K : Int32 → Sh → Gt → Prop) (hw : w_L_giveUp_A K G0) : CW l yL_giveUp cL_giveUp 3 [(0, 8, 11, 17)] 7 111 1 6 [.ref 0, .ref 83] shA G0 (fun r s' G' => ∃ v, r = some (.int v) ∧ K v s' G') := by
  refine CW_of (by decide) (Nat.le_of_ble_eq_true rfl) rfl ?_
  intro p e s m args below meth c D tA ad A C hr htab
  unfold w_L_giveUp_A at hw
  show aw p l e { frames := 7, cells := 1, slots := 6, locals := 111 } s m args below meth c 3 D tA A (vx_MQ below (QL D tA ad A shA (fun r s' G' => ∃ v, r = some (.int v) ∧ K v s' G')) noX args s 1 6 A) 0 0 ad 0 [some (.ref 0), some (.ref 83), none] [] shA G0
  refine aw_aloadn C dL_giveUp_0 rfl ?_
  refine aw_iconst (v := 0) C dL_giveUp_1 (by decide) ?_
  refine aw_aloadn C dL_giveUp_2 rfl ?_
  refine aw_callL C dL_giveUp_3 (t_X10_giveUp_A hlf _ _ _ hw).toCL mM_L_52 bX10_giveUp shA_0 rfl rfl ⟨Nat.le_of_ble_eq_true rfl, Nat.le_of_ble_eq_true rfl, Nat.le_of_ble_eq_true rfl, Nat.le_of_ble_eq_true rfl⟩ [.int 0, .ref 83] rfl (Nat.le_of_ble_eq_true rfl) ⟨by decide, by decide, trivial⟩ ⟨by decide, trivial⟩ (fun r ad1 s1 G1 hE hq => ?_) (fun kE ad1 s1 G1 q9 hk3 hE hq => ?_)
  · obtain ⟨rfl, v, rfl, hw⟩ := hq
    refine aw_i2l C dL_giveUp_6 ?_
    refine aw_last (N := 1) C dL_giveUp_7 (sA_83 shOK_A) (by unfold vp_in; decide) hw (fun G2 hw => ?_)
    refine aw_goto (tgt := 14) C dL_giveUp_8 (by decide) ?_
    refine aw_iconst (v := 0) C dL_giveUp_14 (by decide) ?_
    exact aw_vx (Nat.le_of_ble_eq_true rfl) (Nat.le_of_ble_eq_true rfl) (aw_lireturn C hr dL_giveUp_15 hE ⟨_, rfl, hw⟩)
  · obtain ⟨rfl, hq⟩ := hq
    obtain ⟨rfl, hw⟩ := hq
    refine awx_catch C [] ⟨0, 8, 11, 17⟩ [] htab (fun z hz => nomatch hz) (by decide) (by decide) mC_L_17 (by decide) ?_
    refine aw_astorenR C dL_giveUp_11 (by decide) rfl ?_
    refine aw_iconst (v := 1) C dL_giveUp_12 (by decide) ?_
    exact aw_vx (Nat.le_of_ble_eq_true rfl) (Nat.le_of_ble_eq_true rfl) (aw_lireturn C hr dL_giveUp_13 hE ⟨_, rfl, hw⟩)
def w_L_giveUp_B (K : Int32 → Sh → Gt → Prop) (G0 : Gt) : Prop :=
  w_X10_giveUp_B (fun v G1 => pt (gu G1 83 (0 : Int32).toNatClampNeg v) fun G2 => K 0 shB G2) (fun k G1 => (k = 2 ∧ K 1 shB G1)) G0
set_option maxHeartbeats 4000000 in
set_option maxRecDepth 100000 in
theorem t_L_giveUp_B {l : Launch} (hlf : l.stackTraces = false) (G0 : Gt) (K : Int32 → Sh → Gt → Prop) (hw : w_L_giveUp_B K G0) : CW l yL_giveUp cL_giveUp 3 [(0, 8, 11, 17)] 7 144 1 6 [.ref 0, .ref 83] shB G0 (fun r s' G' => ∃ v, r = some (.int v) ∧ K v s' G') := by
  refine CW_of (by decide) (Nat.le_of_ble_eq_true rfl) rfl ?_
  intro p e s m args below meth c D tA ad A C hr htab
  unfold w_L_giveUp_B at hw
  show aw p l e { frames := 7, cells := 1, slots := 6, locals := 144 } s m args below meth c 3 D tA A (vx_MQ below (QL D tA ad A shB (fun r s' G' => ∃ v, r = some (.int v) ∧ K v s' G')) noX args s 1 6 A) 0 0 ad 0 [some (.ref 0), some (.ref 83), none] [] shB G0
  refine aw_aloadn C dL_giveUp_0 rfl ?_
  refine aw_iconst (v := 0) C dL_giveUp_1 (by decide) ?_
  refine aw_aloadn C dL_giveUp_2 rfl ?_
  refine aw_callL C dL_giveUp_3 (t_X10_giveUp_B hlf _ _ _ hw).toCL mM_L_52 bX10_giveUp shB_0 rfl rfl ⟨Nat.le_of_ble_eq_true rfl, Nat.le_of_ble_eq_true rfl, Nat.le_of_ble_eq_true rfl, Nat.le_of_ble_eq_true rfl⟩ [.int 0, .ref 83] rfl (Nat.le_of_ble_eq_true rfl) ⟨by decide, by decide, trivial⟩ ⟨by decide, trivial⟩ (fun r ad1 s1 G1 hE hq => ?_) (fun kE ad1 s1 G1 q9 hk3 hE hq => ?_)
  · obtain ⟨rfl, v, rfl, hw⟩ := hq
    refine aw_i2l C dL_giveUp_6 ?_
    refine aw_last (N := 1) C dL_giveUp_7 (sA_83 shOK_B) (by unfold vp_in; decide) hw (fun G2 hw => ?_)
    refine aw_goto (tgt := 14) C dL_giveUp_8 (by decide) ?_
    refine aw_iconst (v := 0) C dL_giveUp_14 (by decide) ?_
    exact aw_vx (Nat.le_of_ble_eq_true rfl) (Nat.le_of_ble_eq_true rfl) (aw_lireturn C hr dL_giveUp_15 hE ⟨_, rfl, hw⟩)
  · obtain ⟨rfl, hq⟩ := hq
    obtain ⟨rfl, hw⟩ := hq
    refine awx_catch C [] ⟨0, 8, 11, 17⟩ [] htab (fun z hz => nomatch hz) (by decide) (by decide) mC_L_17 (by decide) ?_
    refine aw_astorenR C dL_giveUp_11 (by decide) rfl ?_
    refine aw_iconst (v := 1) C dL_giveUp_12 (by decide) ?_
    exact aw_vx (Nat.le_of_ble_eq_true rfl) (Nat.le_of_ble_eq_true rfl) (aw_lireturn C hr dL_giveUp_13 hE ⟨_, rfl, hw⟩)
def w_L_breakAt_A (K : Int32 → Sh → Gt → Prop) (p0 : Int32) (p1 : Int32) (G0 : Gt) : Prop :=
  w_X10_breakAt_A (fun v G1 => pif (v = 0) (pt (gu G1 83 (0 : Int32).toNatClampNeg 0) fun G2 => K 0 shA G2) (pt (gu G1 83 (0 : Int32).toNatClampNeg 1) fun G2 => K 0 shA G2)) (fun k G1 => (k = 0 ∧ K 1 shA G1)) p0 p1 G0
set_option maxHeartbeats 4000000 in
set_option maxRecDepth 100000 in
theorem t_L_breakAt_A {l : Launch} (hlf : l.stackTraces = false) (p0 : Int32) (p1 : Int32) (G0 : Gt) (K : Int32 → Sh → Gt → Prop) (hw : w_L_breakAt_A K p0 p1 G0) : CW l yL_breakAt cL_breakAt 5 [(0, 17, 20, 13)] 7 113 1 6 [.ref 0, .int p0, .int p1, .ref 83] shA G0 (fun r s' G' => ∃ v, r = some (.int v) ∧ K v s' G') := by
  refine CW_of (by decide) (Nat.le_of_ble_eq_true rfl) rfl ?_
  intro p e s m args below meth c D tA ad A C hr htab
  unfold w_L_breakAt_A at hw
  show aw p l e { frames := 7, cells := 1, slots := 6, locals := 113 } s m args below meth c 5 D tA A (vx_MQ below (QL D tA ad A shA (fun r s' G' => ∃ v, r = some (.int v) ∧ K v s' G')) noX args s 1 6 A) 0 0 ad 0 [some (.ref 0), some (.int p0), some (.int p1), some (.ref 83), none] [] shA G0
  refine aw_aloadn C dL_breakAt_0 rfl ?_
  refine aw_iconst (v := 0) C dL_breakAt_1 (by decide) ?_
  refine aw_aloadn C dL_breakAt_2 rfl ?_
  refine aw_iloadn C dL_breakAt_3 rfl ?_
  refine aw_iloadn C dL_breakAt_4 rfl ?_
  refine aw_callL C dL_breakAt_5 (t_X10_breakAt_A hlf p0 p1 _ _ _ hw).toCL mM_L_56 bX10_breakAt shA_0 rfl rfl ⟨Nat.le_of_ble_eq_true rfl, Nat.le_of_ble_eq_true rfl, Nat.le_of_ble_eq_true rfl, Nat.le_of_ble_eq_true rfl⟩ [.int 0, .ref 83] rfl (Nat.le_of_ble_eq_true rfl) ⟨by decide, by decide, trivial⟩ ⟨by decide, trivial⟩ (fun r ad1 s1 G1 hE hq => ?_) (fun kE ad1 s1 G1 q9 hk3 hE hq => ?_)
  · obtain ⟨rfl, v, rfl, hw⟩ := hq
    refine aw_if_eq C dL_breakAt_8 15 (by decide) hw (fun hv hw => ?_) (fun hv hw => ?_)
    · refine aw_lconst (v := (0 : Int32).toInt64) C dL_breakAt_15 (by decide) ?_
      refine aw_last (N := 1) (x := 0) C dL_breakAt_16 (sA_83 shOK_A) (by unfold vp_in; decide) hw (fun G2 hw => ?_)
      refine aw_goto (tgt := 24) C dL_breakAt_17 (by decide) ?_
      refine aw_iconst (v := 0) C dL_breakAt_24 (by decide) ?_
      exact aw_vx (Nat.le_of_ble_eq_true rfl) (Nat.le_of_ble_eq_true rfl) (aw_lireturn C hr dL_breakAt_25 hE ⟨_, rfl, hw⟩)
    · refine aw_lconst (v := (1 : Int32).toInt64) C dL_breakAt_11 (by decide) ?_
      refine aw_goto (tgt := 16) C dL_breakAt_12 (by decide) ?_
      refine aw_last (N := 1) (x := 1) C dL_breakAt_16 (sA_83 shOK_A) (by unfold vp_in; decide) hw (fun G2 hw => ?_)
      refine aw_goto (tgt := 24) C dL_breakAt_17 (by decide) ?_
      refine aw_iconst (v := 0) C dL_breakAt_24 (by decide) ?_
      exact aw_vx (Nat.le_of_ble_eq_true rfl) (Nat.le_of_ble_eq_true rfl) (aw_lireturn C hr dL_breakAt_25 hE ⟨_, rfl, hw⟩)
  · obtain ⟨rfl, hq⟩ := hq
    obtain ⟨rfl, hw⟩ := hq
    refine awx_catch C [] ⟨0, 17, 20, 13⟩ [] htab (fun z hz => nomatch hz) (by decide) (by decide) mC_L_13 (by decide) ?_
    refine aw_astoreR C dL_breakAt_20 (by decide) rfl ?_
    refine aw_iconst (v := 1) C dL_breakAt_22 (by decide) ?_
    exact aw_vx (Nat.le_of_ble_eq_true rfl) (Nat.le_of_ble_eq_true rfl) (aw_lireturn C hr dL_breakAt_23 hE ⟨_, rfl, hw⟩)
def w_L_breakAt_B (K : Int32 → Sh → Gt → Prop) (p0 : Int32) (p1 : Int32) (G0 : Gt) : Prop :=
  w_X10_breakAt_B (fun v G1 => pif (v = 0) (pt (gu G1 83 (0 : Int32).toNatClampNeg 0) fun G2 => K 0 shB G2) (pt (gu G1 83 (0 : Int32).toNatClampNeg 1) fun G2 => K 0 shB G2)) (fun k G1 => (k = 0 ∧ K 1 shB G1)) p0 p1 G0
set_option maxHeartbeats 4000000 in
set_option maxRecDepth 100000 in
theorem t_L_breakAt_B {l : Launch} (hlf : l.stackTraces = false) (p0 : Int32) (p1 : Int32) (G0 : Gt) (K : Int32 → Sh → Gt → Prop) (hw : w_L_breakAt_B K p0 p1 G0) : CW l yL_breakAt cL_breakAt 5 [(0, 17, 20, 13)] 7 113 1 6 [.ref 0, .int p0, .int p1, .ref 83] shB G0 (fun r s' G' => ∃ v, r = some (.int v) ∧ K v s' G') := by
  refine CW_of (by decide) (Nat.le_of_ble_eq_true rfl) rfl ?_
  intro p e s m args below meth c D tA ad A C hr htab
  unfold w_L_breakAt_B at hw
  show aw p l e { frames := 7, cells := 1, slots := 6, locals := 113 } s m args below meth c 5 D tA A (vx_MQ below (QL D tA ad A shB (fun r s' G' => ∃ v, r = some (.int v) ∧ K v s' G')) noX args s 1 6 A) 0 0 ad 0 [some (.ref 0), some (.int p0), some (.int p1), some (.ref 83), none] [] shB G0
  refine aw_aloadn C dL_breakAt_0 rfl ?_
  refine aw_iconst (v := 0) C dL_breakAt_1 (by decide) ?_
  refine aw_aloadn C dL_breakAt_2 rfl ?_
  refine aw_iloadn C dL_breakAt_3 rfl ?_
  refine aw_iloadn C dL_breakAt_4 rfl ?_
  refine aw_callL C dL_breakAt_5 (t_X10_breakAt_B hlf p0 p1 _ _ _ hw).toCL mM_L_56 bX10_breakAt shB_0 rfl rfl ⟨Nat.le_of_ble_eq_true rfl, Nat.le_of_ble_eq_true rfl, Nat.le_of_ble_eq_true rfl, Nat.le_of_ble_eq_true rfl⟩ [.int 0, .ref 83] rfl (Nat.le_of_ble_eq_true rfl) ⟨by decide, by decide, trivial⟩ ⟨by decide, trivial⟩ (fun r ad1 s1 G1 hE hq => ?_) (fun kE ad1 s1 G1 q9 hk3 hE hq => ?_)
  · obtain ⟨rfl, v, rfl, hw⟩ := hq
    refine aw_if_eq C dL_breakAt_8 15 (by decide) hw (fun hv hw => ?_) (fun hv hw => ?_)
    · refine aw_lconst (v := (0 : Int32).toInt64) C dL_breakAt_15 (by decide) ?_
      refine aw_last (N := 1) (x := 0) C dL_breakAt_16 (sA_83 shOK_B) (by unfold vp_in; decide) hw (fun G2 hw => ?_)
      refine aw_goto (tgt := 24) C dL_breakAt_17 (by decide) ?_
      refine aw_iconst (v := 0) C dL_breakAt_24 (by decide) ?_
      exact aw_vx (Nat.le_of_ble_eq_true rfl) (Nat.le_of_ble_eq_true rfl) (aw_lireturn C hr dL_breakAt_25 hE ⟨_, rfl, hw⟩)
    · refine aw_lconst (v := (1 : Int32).toInt64) C dL_breakAt_11 (by decide) ?_
      refine aw_goto (tgt := 16) C dL_breakAt_12 (by decide) ?_
      refine aw_last (N := 1) (x := 1) C dL_breakAt_16 (sA_83 shOK_B) (by unfold vp_in; decide) hw (fun G2 hw => ?_)
      refine aw_goto (tgt := 24) C dL_breakAt_17 (by decide) ?_
      refine aw_iconst (v := 0) C dL_breakAt_24 (by decide) ?_
      exact aw_vx (Nat.le_of_ble_eq_true rfl) (Nat.le_of_ble_eq_true rfl) (aw_lireturn C hr dL_breakAt_25 hE ⟨_, rfl, hw⟩)
  · obtain ⟨rfl, hq⟩ := hq
    obtain ⟨rfl, hw⟩ := hq
    refine awx_catch C [] ⟨0, 17, 20, 13⟩ [] htab (fun z hz => nomatch hz) (by decide) (by decide) mC_L_13 (by decide) ?_
    refine aw_astoreR C dL_breakAt_20 (by decide) rfl ?_
    refine aw_iconst (v := 1) C dL_breakAt_22 (by decide) ?_
    exact aw_vx (Nat.le_of_ble_eq_true rfl) (Nat.le_of_ble_eq_true rfl) (aw_lireturn C hr dL_breakAt_23 hE ⟨_, rfl, hw⟩)
def w_L_look_A (K : Int32 → Sh → Gt → Prop) (p0 : Int32) (G0 : Gt) : Prop :=
  w_X10_look_A (fun v G1 => pt (gu G1 83 (0 : Int32).toNatClampNeg v) fun G2 => K 0 shA G2) (fun k G1 => (k = 0 ∧ K 1 shA G1) ∨ (k = 2 ∧ K 2 shA G1)) p0 G0
set_option maxHeartbeats 4000000 in
set_option maxRecDepth 100000 in
theorem t_L_look_A {l : Launch} (hlf : l.stackTraces = false) (p0 : Int32) (G0 : Gt) (K : Int32 → Sh → Gt → Prop) (hw : w_L_look_A K p0 G0) : CW l yL_look cL_look 4 [(0, 9, 12, 13), (0, 9, 15, 17)] 7 112 1 6 [.ref 0, .int p0, .ref 83] shA G0 (fun r s' G' => ∃ v, r = some (.int v) ∧ K v s' G') := by
  refine CW_of (by decide) (Nat.le_of_ble_eq_true rfl) rfl ?_
  intro p e s m args below meth c D tA ad A C hr htab
  unfold w_L_look_A at hw
  show aw p l e { frames := 7, cells := 1, slots := 6, locals := 112 } s m args below meth c 4 D tA A (vx_MQ below (QL D tA ad A shA (fun r s' G' => ∃ v, r = some (.int v) ∧ K v s' G')) noX args s 1 6 A) 0 0 ad 0 [some (.ref 0), some (.int p0), some (.ref 83), none] [] shA G0
  refine aw_aloadn C dL_look_0 rfl ?_
  refine aw_iconst (v := 0) C dL_look_1 (by decide) ?_
  refine aw_aloadn C dL_look_2 rfl ?_
  refine aw_iloadn C dL_look_3 rfl ?_
  refine aw_callL C dL_look_4 (t_X10_look_A hlf p0 _ _ _ hw).toCL mM_L_60 bX10_look shA_0 rfl rfl ⟨Nat.le_of_ble_eq_true rfl, Nat.le_of_ble_eq_true rfl, Nat.le_of_ble_eq_true rfl, Nat.le_of_ble_eq_true rfl⟩ [.int 0, .ref 83] rfl (Nat.le_of_ble_eq_true rfl) ⟨by decide, by decide, trivial⟩ ⟨by decide, trivial⟩ (fun r ad1 s1 G1 hE hq => ?_) (fun kE ad1 s1 G1 q9 hk3 hE hq => ?_)
  · obtain ⟨rfl, v, rfl, hw⟩ := hq
    refine aw_i2l C dL_look_7 ?_
    refine aw_last (N := 1) C dL_look_8 (sA_83 shOK_A) (by unfold vp_in; decide) hw (fun G2 hw => ?_)
    refine aw_goto (tgt := 18) C dL_look_9 (by decide) ?_
    refine aw_iconst (v := 0) C dL_look_18 (by decide) ?_
    exact aw_vx (Nat.le_of_ble_eq_true rfl) (Nat.le_of_ble_eq_true rfl) (aw_lireturn C hr dL_look_19 hE ⟨_, rfl, hw⟩)
  · obtain ⟨rfl, hq⟩ := hq
    rcases hq with ⟨rfl, hw⟩ | ⟨rfl, hw⟩
    · refine awx_catch C [] ⟨0, 9, 12, 13⟩ [⟨0, 9, 15, 17⟩] htab (fun z hz => nomatch hz) (by decide) (by decide) mC_L_13 (by decide) ?_
      refine aw_astorenR C dL_look_12 (by decide) rfl ?_
      refine aw_iconst (v := 1) C dL_look_13 (by decide) ?_
      exact aw_vx (Nat.le_of_ble_eq_true rfl) (Nat.le_of_ble_eq_true rfl) (aw_lireturn C hr dL_look_14 hE ⟨_, rfl, hw⟩)
    · refine awx_catch C [⟨0, 9, 12, 13⟩] ⟨0, 9, 15, 17⟩ [] htab (fun z hz => ?_) (by decide) (by decide) mC_L_17 (by decide) ?_
      · simp only [List.mem_cons, List.not_mem_nil, or_false] at hz
        subst hz
        exact ⟨by decide, exN 0, mC_L_13, by decide⟩
      · refine aw_astorenR C dL_look_15 (by decide) rfl ?_
        refine aw_iconst (v := 2) C dL_look_16 (by decide) ?_
        exact aw_vx (Nat.le_of_ble_eq_true rfl) (Nat.le_of_ble_eq_true rfl) (aw_lireturn C hr dL_look_17 hE ⟨_, rfl, hw⟩)
def w_L_look_B (K : Int32 → Sh → Gt → Prop) (p0 : Int32) (G0 : Gt) : Prop :=
  w_X10_look_B (fun v G1 => pt (gu G1 83 (0 : Int32).toNatClampNeg v) fun G2 => K 0 shB G2) (fun k G1 => (k = 0 ∧ K 1 shB G1) ∨ (k = 2 ∧ K 2 shB G1)) p0 G0
set_option maxHeartbeats 4000000 in
set_option maxRecDepth 100000 in
theorem t_L_look_B {l : Launch} (hlf : l.stackTraces = false) (p0 : Int32) (G0 : Gt) (K : Int32 → Sh → Gt → Prop) (hw : w_L_look_B K p0 G0) : CW l yL_look cL_look 4 [(0, 9, 12, 13), (0, 9, 15, 17)] 7 112 1 6 [.ref 0, .int p0, .ref 83] shB G0 (fun r s' G' => ∃ v, r = some (.int v) ∧ K v s' G') := by
  refine CW_of (by decide) (Nat.le_of_ble_eq_true rfl) rfl ?_
  intro p e s m args below meth c D tA ad A C hr htab
  unfold w_L_look_B at hw
  show aw p l e { frames := 7, cells := 1, slots := 6, locals := 112 } s m args below meth c 4 D tA A (vx_MQ below (QL D tA ad A shB (fun r s' G' => ∃ v, r = some (.int v) ∧ K v s' G')) noX args s 1 6 A) 0 0 ad 0 [some (.ref 0), some (.int p0), some (.ref 83), none] [] shB G0
  refine aw_aloadn C dL_look_0 rfl ?_
  refine aw_iconst (v := 0) C dL_look_1 (by decide) ?_
  refine aw_aloadn C dL_look_2 rfl ?_
  refine aw_iloadn C dL_look_3 rfl ?_
  refine aw_callL C dL_look_4 (t_X10_look_B hlf p0 _ _ _ hw).toCL mM_L_60 bX10_look shB_0 rfl rfl ⟨Nat.le_of_ble_eq_true rfl, Nat.le_of_ble_eq_true rfl, Nat.le_of_ble_eq_true rfl, Nat.le_of_ble_eq_true rfl⟩ [.int 0, .ref 83] rfl (Nat.le_of_ble_eq_true rfl) ⟨by decide, by decide, trivial⟩ ⟨by decide, trivial⟩ (fun r ad1 s1 G1 hE hq => ?_) (fun kE ad1 s1 G1 q9 hk3 hE hq => ?_)
  · obtain ⟨rfl, v, rfl, hw⟩ := hq
    refine aw_i2l C dL_look_7 ?_
    refine aw_last (N := 1) C dL_look_8 (sA_83 shOK_B) (by unfold vp_in; decide) hw (fun G2 hw => ?_)
    refine aw_goto (tgt := 18) C dL_look_9 (by decide) ?_
    refine aw_iconst (v := 0) C dL_look_18 (by decide) ?_
    exact aw_vx (Nat.le_of_ble_eq_true rfl) (Nat.le_of_ble_eq_true rfl) (aw_lireturn C hr dL_look_19 hE ⟨_, rfl, hw⟩)
  · obtain ⟨rfl, hq⟩ := hq
    rcases hq with ⟨rfl, hw⟩ | ⟨rfl, hw⟩
    · refine awx_catch C [] ⟨0, 9, 12, 13⟩ [⟨0, 9, 15, 17⟩] htab (fun z hz => nomatch hz) (by decide) (by decide) mC_L_13 (by decide) ?_
      refine aw_astorenR C dL_look_12 (by decide) rfl ?_
      refine aw_iconst (v := 1) C dL_look_13 (by decide) ?_
      exact aw_vx (Nat.le_of_ble_eq_true rfl) (Nat.le_of_ble_eq_true rfl) (aw_lireturn C hr dL_look_14 hE ⟨_, rfl, hw⟩)
    · refine awx_catch C [⟨0, 9, 12, 13⟩] ⟨0, 9, 15, 17⟩ [] htab (fun z hz => ?_) (by decide) (by decide) mC_L_17 (by decide) ?_
      · simp only [List.mem_cons, List.not_mem_nil, or_false] at hz
        subst hz
        exact ⟨by decide, exN 0, mC_L_13, by decide⟩
      · refine aw_astorenR C dL_look_15 (by decide) rfl ?_
        refine aw_iconst (v := 2) C dL_look_16 (by decide) ?_
        exact aw_vx (Nat.le_of_ble_eq_true rfl) (Nat.le_of_ble_eq_true rfl) (aw_lireturn C hr dL_look_17 hE ⟨_, rfl, hw⟩)
def w_L_traceAt_A (K : Int32 → Sh → Gt → Prop) (p0 : Int32) (G0 : Gt) : Prop :=
  w_X10_traceAt_A (fun v G1 => pt (gu G1 83 (0 : Int32).toNatClampNeg v) fun G2 => K 0 shA G2) (fun k G1 => (k = 0 ∧ K 1 shA G1)) p0 G0
set_option maxHeartbeats 4000000 in
set_option maxRecDepth 100000 in
theorem t_L_traceAt_A {l : Launch} (hlf : l.stackTraces = false) (p0 : Int32) (G0 : Gt) (K : Int32 → Sh → Gt → Prop) (hw : w_L_traceAt_A K p0 G0) : CW l yL_traceAt cL_traceAt 4 [(0, 9, 12, 13)] 7 111 1 6 [.ref 0, .int p0, .ref 83] shA G0 (fun r s' G' => ∃ v, r = some (.int v) ∧ K v s' G') := by
  refine CW_of (by decide) (Nat.le_of_ble_eq_true rfl) rfl ?_
  intro p e s m args below meth c D tA ad A C hr htab
  unfold w_L_traceAt_A at hw
  show aw p l e { frames := 7, cells := 1, slots := 6, locals := 111 } s m args below meth c 4 D tA A (vx_MQ below (QL D tA ad A shA (fun r s' G' => ∃ v, r = some (.int v) ∧ K v s' G')) noX args s 1 6 A) 0 0 ad 0 [some (.ref 0), some (.int p0), some (.ref 83), none] [] shA G0
  refine aw_aloadn C dL_traceAt_0 rfl ?_
  refine aw_iconst (v := 0) C dL_traceAt_1 (by decide) ?_
  refine aw_aloadn C dL_traceAt_2 rfl ?_
  refine aw_iloadn C dL_traceAt_3 rfl ?_
  refine aw_callL C dL_traceAt_4 (t_X10_traceAt_A hlf p0 _ _ _ hw).toCL mM_L_63 bX10_traceAt shA_0 rfl rfl ⟨Nat.le_of_ble_eq_true rfl, Nat.le_of_ble_eq_true rfl, Nat.le_of_ble_eq_true rfl, Nat.le_of_ble_eq_true rfl⟩ [.int 0, .ref 83] rfl (Nat.le_of_ble_eq_true rfl) ⟨by decide, by decide, trivial⟩ ⟨by decide, trivial⟩ (fun r ad1 s1 G1 hE hq => ?_) (fun kE ad1 s1 G1 q9 hk3 hE hq => ?_)
  · obtain ⟨rfl, v, rfl, hw⟩ := hq
    refine aw_i2l C dL_traceAt_7 ?_
    refine aw_last (N := 1) C dL_traceAt_8 (sA_83 shOK_A) (by unfold vp_in; decide) hw (fun G2 hw => ?_)
    refine aw_goto (tgt := 15) C dL_traceAt_9 (by decide) ?_
    refine aw_iconst (v := 0) C dL_traceAt_15 (by decide) ?_
    exact aw_vx (Nat.le_of_ble_eq_true rfl) (Nat.le_of_ble_eq_true rfl) (aw_lireturn C hr dL_traceAt_16 hE ⟨_, rfl, hw⟩)
  · obtain ⟨rfl, hq⟩ := hq
    obtain ⟨rfl, hw⟩ := hq
    refine awx_catch C [] ⟨0, 9, 12, 13⟩ [] htab (fun z hz => nomatch hz) (by decide) (by decide) mC_L_13 (by decide) ?_
    refine aw_astorenR C dL_traceAt_12 (by decide) rfl ?_
    refine aw_iconst (v := 1) C dL_traceAt_13 (by decide) ?_
    exact aw_vx (Nat.le_of_ble_eq_true rfl) (Nat.le_of_ble_eq_true rfl) (aw_lireturn C hr dL_traceAt_14 hE ⟨_, rfl, hw⟩)
def w_L_traceAt_B (K : Int32 → Sh → Gt → Prop) (p0 : Int32) (G0 : Gt) : Prop :=
  w_X10_traceAt_B (fun v G1 => pt (gu G1 83 (0 : Int32).toNatClampNeg v) fun G2 => K 0 shB G2) (fun k G1 => (k = 0 ∧ K 1 shB G1)) p0 G0
set_option maxHeartbeats 4000000 in
set_option maxRecDepth 100000 in
theorem t_L_traceAt_B {l : Launch} (hlf : l.stackTraces = false) (p0 : Int32) (G0 : Gt) (K : Int32 → Sh → Gt → Prop) (hw : w_L_traceAt_B K p0 G0) : CW l yL_traceAt cL_traceAt 4 [(0, 9, 12, 13)] 7 111 1 6 [.ref 0, .int p0, .ref 83] shB G0 (fun r s' G' => ∃ v, r = some (.int v) ∧ K v s' G') := by
  refine CW_of (by decide) (Nat.le_of_ble_eq_true rfl) rfl ?_
  intro p e s m args below meth c D tA ad A C hr htab
  unfold w_L_traceAt_B at hw
  show aw p l e { frames := 7, cells := 1, slots := 6, locals := 111 } s m args below meth c 4 D tA A (vx_MQ below (QL D tA ad A shB (fun r s' G' => ∃ v, r = some (.int v) ∧ K v s' G')) noX args s 1 6 A) 0 0 ad 0 [some (.ref 0), some (.int p0), some (.ref 83), none] [] shB G0
  refine aw_aloadn C dL_traceAt_0 rfl ?_
  refine aw_iconst (v := 0) C dL_traceAt_1 (by decide) ?_
  refine aw_aloadn C dL_traceAt_2 rfl ?_
  refine aw_iloadn C dL_traceAt_3 rfl ?_
  refine aw_callL C dL_traceAt_4 (t_X10_traceAt_B hlf p0 _ _ _ hw).toCL mM_L_63 bX10_traceAt shB_0 rfl rfl ⟨Nat.le_of_ble_eq_true rfl, Nat.le_of_ble_eq_true rfl, Nat.le_of_ble_eq_true rfl, Nat.le_of_ble_eq_true rfl⟩ [.int 0, .ref 83] rfl (Nat.le_of_ble_eq_true rfl) ⟨by decide, by decide, trivial⟩ ⟨by decide, trivial⟩ (fun r ad1 s1 G1 hE hq => ?_) (fun kE ad1 s1 G1 q9 hk3 hE hq => ?_)
  · obtain ⟨rfl, v, rfl, hw⟩ := hq
    refine aw_i2l C dL_traceAt_7 ?_
    refine aw_last (N := 1) C dL_traceAt_8 (sA_83 shOK_B) (by unfold vp_in; decide) hw (fun G2 hw => ?_)
    refine aw_goto (tgt := 15) C dL_traceAt_9 (by decide) ?_
    refine aw_iconst (v := 0) C dL_traceAt_15 (by decide) ?_
    exact aw_vx (Nat.le_of_ble_eq_true rfl) (Nat.le_of_ble_eq_true rfl) (aw_lireturn C hr dL_traceAt_16 hE ⟨_, rfl, hw⟩)
  · obtain ⟨rfl, hq⟩ := hq
    obtain ⟨rfl, hw⟩ := hq
    refine awx_catch C [] ⟨0, 9, 12, 13⟩ [] htab (fun z hz => nomatch hz) (by decide) (by decide) mC_L_13 (by decide) ?_
    refine aw_astorenR C dL_traceAt_12 (by decide) rfl ?_
    refine aw_iconst (v := 1) C dL_traceAt_13 (by decide) ?_
    exact aw_vx (Nat.le_of_ble_eq_true rfl) (Nat.le_of_ble_eq_true rfl) (aw_lireturn C hr dL_traceAt_14 hE ⟨_, rfl, hw⟩)
def w_L_length_A (K : Int32 → Sh → Gt → Prop) (p0 : Int32) (G0 : Gt) : Prop :=
  w_X10_length_A (fun v G1 => pt (gu G1 83 (0 : Int32).toNatClampNeg v) fun G2 => K 0 shA G2) (fun k G1 => (k = 0 ∧ K 1 shA G1)) p0 G0
set_option maxHeartbeats 4000000 in
set_option maxRecDepth 100000 in
theorem t_L_length_A {l : Launch} (hlf : l.stackTraces = false) (p0 : Int32) (G0 : Gt) (K : Int32 → Sh → Gt → Prop) (hw : w_L_length_A K p0 G0) : CW l yL_length cL_length 4 [(0, 9, 12, 13)] 7 111 1 6 [.ref 0, .int p0, .ref 83] shA G0 (fun r s' G' => ∃ v, r = some (.int v) ∧ K v s' G') := by
  refine CW_of (by decide) (Nat.le_of_ble_eq_true rfl) rfl ?_
  intro p e s m args below meth c D tA ad A C hr htab
  unfold w_L_length_A at hw
  show aw p l e { frames := 7, cells := 1, slots := 6, locals := 111 } s m args below meth c 4 D tA A (vx_MQ below (QL D tA ad A shA (fun r s' G' => ∃ v, r = some (.int v) ∧ K v s' G')) noX args s 1 6 A) 0 0 ad 0 [some (.ref 0), some (.int p0), some (.ref 83), none] [] shA G0
  refine aw_aloadn C dL_length_0 rfl ?_
  refine aw_iconst (v := 0) C dL_length_1 (by decide) ?_
  refine aw_aloadn C dL_length_2 rfl ?_
  refine aw_iloadn C dL_length_3 rfl ?_
  refine aw_callL C dL_length_4 (t_X10_length_A hlf p0 _ _ _ hw).toCL mM_L_66 bX10_length shA_0 rfl rfl ⟨Nat.le_of_ble_eq_true rfl, Nat.le_of_ble_eq_true rfl, Nat.le_of_ble_eq_true rfl, Nat.le_of_ble_eq_true rfl⟩ [.int 0, .ref 83] rfl (Nat.le_of_ble_eq_true rfl) ⟨by decide, by decide, trivial⟩ ⟨by decide, trivial⟩ (fun r ad1 s1 G1 hE hq => ?_) (fun kE ad1 s1 G1 q9 hk3 hE hq => ?_)
  · obtain ⟨rfl, v, rfl, hw⟩ := hq
    refine aw_i2l C dL_length_7 ?_
    refine aw_last (N := 1) C dL_length_8 (sA_83 shOK_A) (by unfold vp_in; decide) hw (fun G2 hw => ?_)
    refine aw_goto (tgt := 15) C dL_length_9 (by decide) ?_
    refine aw_iconst (v := 0) C dL_length_15 (by decide) ?_
    exact aw_vx (Nat.le_of_ble_eq_true rfl) (Nat.le_of_ble_eq_true rfl) (aw_lireturn C hr dL_length_16 hE ⟨_, rfl, hw⟩)
  · obtain ⟨rfl, hq⟩ := hq
    obtain ⟨rfl, hw⟩ := hq
    refine awx_catch C [] ⟨0, 9, 12, 13⟩ [] htab (fun z hz => nomatch hz) (by decide) (by decide) mC_L_13 (by decide) ?_
    refine aw_astorenR C dL_length_12 (by decide) rfl ?_
    refine aw_iconst (v := 1) C dL_length_13 (by decide) ?_
    exact aw_vx (Nat.le_of_ble_eq_true rfl) (Nat.le_of_ble_eq_true rfl) (aw_lireturn C hr dL_length_14 hE ⟨_, rfl, hw⟩)
def w_L_length_B (K : Int32 → Sh → Gt → Prop) (p0 : Int32) (G0 : Gt) : Prop :=
  w_X10_length_B (fun v G1 => pt (gu G1 83 (0 : Int32).toNatClampNeg v) fun G2 => K 0 shB G2) (fun k G1 => (k = 0 ∧ K 1 shB G1)) p0 G0
set_option maxHeartbeats 4000000 in
set_option maxRecDepth 100000 in
theorem t_L_length_B {l : Launch} (hlf : l.stackTraces = false) (p0 : Int32) (G0 : Gt) (K : Int32 → Sh → Gt → Prop) (hw : w_L_length_B K p0 G0) : CW l yL_length cL_length 4 [(0, 9, 12, 13)] 7 111 1 6 [.ref 0, .int p0, .ref 83] shB G0 (fun r s' G' => ∃ v, r = some (.int v) ∧ K v s' G') := by
  refine CW_of (by decide) (Nat.le_of_ble_eq_true rfl) rfl ?_
  intro p e s m args below meth c D tA ad A C hr htab
  unfold w_L_length_B at hw
  show aw p l e { frames := 7, cells := 1, slots := 6, locals := 111 } s m args below meth c 4 D tA A (vx_MQ below (QL D tA ad A shB (fun r s' G' => ∃ v, r = some (.int v) ∧ K v s' G')) noX args s 1 6 A) 0 0 ad 0 [some (.ref 0), some (.int p0), some (.ref 83), none] [] shB G0
  refine aw_aloadn C dL_length_0 rfl ?_
  refine aw_iconst (v := 0) C dL_length_1 (by decide) ?_
  refine aw_aloadn C dL_length_2 rfl ?_
  refine aw_iloadn C dL_length_3 rfl ?_
  refine aw_callL C dL_length_4 (t_X10_length_B hlf p0 _ _ _ hw).toCL mM_L_66 bX10_length shB_0 rfl rfl ⟨Nat.le_of_ble_eq_true rfl, Nat.le_of_ble_eq_true rfl, Nat.le_of_ble_eq_true rfl, Nat.le_of_ble_eq_true rfl⟩ [.int 0, .ref 83] rfl (Nat.le_of_ble_eq_true rfl) ⟨by decide, by decide, trivial⟩ ⟨by decide, trivial⟩ (fun r ad1 s1 G1 hE hq => ?_) (fun kE ad1 s1 G1 q9 hk3 hE hq => ?_)
  · obtain ⟨rfl, v, rfl, hw⟩ := hq
    refine aw_i2l C dL_length_7 ?_
    refine aw_last (N := 1) C dL_length_8 (sA_83 shOK_B) (by unfold vp_in; decide) hw (fun G2 hw => ?_)
    refine aw_goto (tgt := 15) C dL_length_9 (by decide) ?_
    refine aw_iconst (v := 0) C dL_length_15 (by decide) ?_
    exact aw_vx (Nat.le_of_ble_eq_true rfl) (Nat.le_of_ble_eq_true rfl) (aw_lireturn C hr dL_length_16 hE ⟨_, rfl, hw⟩)
  · obtain ⟨rfl, hq⟩ := hq
    obtain ⟨rfl, hw⟩ := hq
    refine awx_catch C [] ⟨0, 9, 12, 13⟩ [] htab (fun z hz => nomatch hz) (by decide) (by decide) mC_L_13 (by decide) ?_
    refine aw_astorenR C dL_length_12 (by decide) rfl ?_
    refine aw_iconst (v := 1) C dL_length_13 (by decide) ?_
    exact aw_vx (Nat.le_of_ble_eq_true rfl) (Nat.le_of_ble_eq_true rfl) (aw_lireturn C hr dL_length_14 hE ⟨_, rfl, hw⟩)
def w_L_letter_A (K : Int32 → Sh → Gt → Prop) (p0 : Int32) (p1 : Int32) (G0 : Gt) : Prop :=
  w_X10_letter_A (fun v G1 => pt (gu G1 83 (0 : Int32).toNatClampNeg v) fun G2 => K 0 shA G2) (fun k G1 => (k = 0 ∧ K 1 shA G1)) p0 p1 G0
set_option maxHeartbeats 4000000 in
set_option maxRecDepth 100000 in
theorem t_L_letter_A {l : Launch} (hlf : l.stackTraces = false) (p0 : Int32) (p1 : Int32) (G0 : Gt) (K : Int32 → Sh → Gt → Prop) (hw : w_L_letter_A K p0 p1 G0) : CW l yL_letter cL_letter 5 [(0, 10, 13, 13)] 7 112 1 6 [.ref 0, .int p0, .int p1, .ref 83] shA G0 (fun r s' G' => ∃ v, r = some (.int v) ∧ K v s' G') := by
  refine CW_of (by decide) (Nat.le_of_ble_eq_true rfl) rfl ?_
  intro p e s m args below meth c D tA ad A C hr htab
  unfold w_L_letter_A at hw
  show aw p l e { frames := 7, cells := 1, slots := 6, locals := 112 } s m args below meth c 5 D tA A (vx_MQ below (QL D tA ad A shA (fun r s' G' => ∃ v, r = some (.int v) ∧ K v s' G')) noX args s 1 6 A) 0 0 ad 0 [some (.ref 0), some (.int p0), some (.int p1), some (.ref 83), none] [] shA G0
  refine aw_aloadn C dL_letter_0 rfl ?_
  refine aw_iconst (v := 0) C dL_letter_1 (by decide) ?_
  refine aw_aloadn C dL_letter_2 rfl ?_
  refine aw_iloadn C dL_letter_3 rfl ?_
  refine aw_iloadn C dL_letter_4 rfl ?_
  refine aw_callL C dL_letter_5 (t_X10_letter_A hlf p0 p1 _ _ _ hw).toCL mM_L_69 bX10_letter shA_0 rfl rfl ⟨Nat.le_of_ble_eq_true rfl, Nat.le_of_ble_eq_true rfl, Nat.le_of_ble_eq_true rfl, Nat.le_of_ble_eq_true rfl⟩ [.int 0, .ref 83] rfl (Nat.le_of_ble_eq_true rfl) ⟨by decide, by decide, trivial⟩ ⟨by decide, trivial⟩ (fun r ad1 s1 G1 hE hq => ?_) (fun kE ad1 s1 G1 q9 hk3 hE hq => ?_)
  · obtain ⟨rfl, v, rfl, hw⟩ := hq
    refine aw_i2l C dL_letter_8 ?_
    refine aw_last (N := 1) C dL_letter_9 (sA_83 shOK_A) (by unfold vp_in; decide) hw (fun G2 hw => ?_)
    refine aw_goto (tgt := 17) C dL_letter_10 (by decide) ?_
    refine aw_iconst (v := 0) C dL_letter_17 (by decide) ?_
    exact aw_vx (Nat.le_of_ble_eq_true rfl) (Nat.le_of_ble_eq_true rfl) (aw_lireturn C hr dL_letter_18 hE ⟨_, rfl, hw⟩)
  · obtain ⟨rfl, hq⟩ := hq
    obtain ⟨rfl, hw⟩ := hq
    refine awx_catch C [] ⟨0, 10, 13, 13⟩ [] htab (fun z hz => nomatch hz) (by decide) (by decide) mC_L_13 (by decide) ?_
    refine aw_astoreR C dL_letter_13 (by decide) rfl ?_
    refine aw_iconst (v := 1) C dL_letter_15 (by decide) ?_
    exact aw_vx (Nat.le_of_ble_eq_true rfl) (Nat.le_of_ble_eq_true rfl) (aw_lireturn C hr dL_letter_16 hE ⟨_, rfl, hw⟩)
def w_L_letter_B (K : Int32 → Sh → Gt → Prop) (p0 : Int32) (p1 : Int32) (G0 : Gt) : Prop :=
  w_X10_letter_B (fun v G1 => pt (gu G1 83 (0 : Int32).toNatClampNeg v) fun G2 => K 0 shB G2) (fun k G1 => (k = 0 ∧ K 1 shB G1)) p0 p1 G0
set_option maxHeartbeats 4000000 in
set_option maxRecDepth 100000 in
theorem t_L_letter_B {l : Launch} (hlf : l.stackTraces = false) (p0 : Int32) (p1 : Int32) (G0 : Gt) (K : Int32 → Sh → Gt → Prop) (hw : w_L_letter_B K p0 p1 G0) : CW l yL_letter cL_letter 5 [(0, 10, 13, 13)] 7 112 1 6 [.ref 0, .int p0, .int p1, .ref 83] shB G0 (fun r s' G' => ∃ v, r = some (.int v) ∧ K v s' G') := by
  refine CW_of (by decide) (Nat.le_of_ble_eq_true rfl) rfl ?_
  intro p e s m args below meth c D tA ad A C hr htab
  unfold w_L_letter_B at hw
  show aw p l e { frames := 7, cells := 1, slots := 6, locals := 112 } s m args below meth c 5 D tA A (vx_MQ below (QL D tA ad A shB (fun r s' G' => ∃ v, r = some (.int v) ∧ K v s' G')) noX args s 1 6 A) 0 0 ad 0 [some (.ref 0), some (.int p0), some (.int p1), some (.ref 83), none] [] shB G0
  refine aw_aloadn C dL_letter_0 rfl ?_
  refine aw_iconst (v := 0) C dL_letter_1 (by decide) ?_
  refine aw_aloadn C dL_letter_2 rfl ?_
  refine aw_iloadn C dL_letter_3 rfl ?_
  refine aw_iloadn C dL_letter_4 rfl ?_
  refine aw_callL C dL_letter_5 (t_X10_letter_B hlf p0 p1 _ _ _ hw).toCL mM_L_69 bX10_letter shB_0 rfl rfl ⟨Nat.le_of_ble_eq_true rfl, Nat.le_of_ble_eq_true rfl, Nat.le_of_ble_eq_true rfl, Nat.le_of_ble_eq_true rfl⟩ [.int 0, .ref 83] rfl (Nat.le_of_ble_eq_true rfl) ⟨by decide, by decide, trivial⟩ ⟨by decide, trivial⟩ (fun r ad1 s1 G1 hE hq => ?_) (fun kE ad1 s1 G1 q9 hk3 hE hq => ?_)
  · obtain ⟨rfl, v, rfl, hw⟩ := hq
    refine aw_i2l C dL_letter_8 ?_
    refine aw_last (N := 1) C dL_letter_9 (sA_83 shOK_B) (by unfold vp_in; decide) hw (fun G2 hw => ?_)
    refine aw_goto (tgt := 17) C dL_letter_10 (by decide) ?_
    refine aw_iconst (v := 0) C dL_letter_17 (by decide) ?_
    exact aw_vx (Nat.le_of_ble_eq_true rfl) (Nat.le_of_ble_eq_true rfl) (aw_lireturn C hr dL_letter_18 hE ⟨_, rfl, hw⟩)
  · obtain ⟨rfl, hq⟩ := hq
    obtain ⟨rfl, hw⟩ := hq
    refine awx_catch C [] ⟨0, 10, 13, 13⟩ [] htab (fun z hz => nomatch hz) (by decide) (by decide) mC_L_13 (by decide) ?_
    refine aw_astoreR C dL_letter_13 (by decide) rfl ?_
    refine aw_iconst (v := 1) C dL_letter_15 (by decide) ?_
    exact aw_vx (Nat.le_of_ble_eq_true rfl) (Nat.le_of_ble_eq_true rfl) (aw_lireturn C hr dL_letter_16 hE ⟨_, rfl, hw⟩)
def w_L_cursor_A (K : Int32 → Sh → Gt → Prop) (p0 : Int32) (p1 : Int32) (G0 : Gt) : Prop :=
  w_X10_cursor_A (fun v G1 => pt (gu G1 83 (0 : Int32).toNatClampNeg v) fun G2 => K 0 shA G2) (fun k G1 => (k = 0 ∧ K 1 shA G1)) p0 p1 G0
set_option maxHeartbeats 4000000 in
set_option maxRecDepth 100000 in
theorem t_L_cursor_A {l : Launch} (hlf : l.stackTraces = false) (p0 : Int32) (p1 : Int32) (G0 : Gt) (K : Int32 → Sh → Gt → Prop) (hw : w_L_cursor_A K p0 p1 G0) : CW l yL_cursor cL_cursor 5 [(0, 10, 13, 13)] 7 112 1 6 [.ref 0, .int p0, .int p1, .ref 83] shA G0 (fun r s' G' => ∃ v, r = some (.int v) ∧ K v s' G') := by
  refine CW_of (by decide) (Nat.le_of_ble_eq_true rfl) rfl ?_
  intro p e s m args below meth c D tA ad A C hr htab
  unfold w_L_cursor_A at hw
  show aw p l e { frames := 7, cells := 1, slots := 6, locals := 112 } s m args below meth c 5 D tA A (vx_MQ below (QL D tA ad A shA (fun r s' G' => ∃ v, r = some (.int v) ∧ K v s' G')) noX args s 1 6 A) 0 0 ad 0 [some (.ref 0), some (.int p0), some (.int p1), some (.ref 83), none] [] shA G0
  refine aw_aloadn C dL_cursor_0 rfl ?_
  refine aw_iconst (v := 0) C dL_cursor_1 (by decide) ?_
  refine aw_aloadn C dL_cursor_2 rfl ?_
  refine aw_iloadn C dL_cursor_3 rfl ?_
  refine aw_iloadn C dL_cursor_4 rfl ?_
  refine aw_callL C dL_cursor_5 (t_X10_cursor_A hlf p0 p1 _ _ _ hw).toCL mM_L_72 bX10_cursor shA_0 rfl rfl ⟨Nat.le_of_ble_eq_true rfl, Nat.le_of_ble_eq_true rfl, Nat.le_of_ble_eq_true rfl, Nat.le_of_ble_eq_true rfl⟩ [.int 0, .ref 83] rfl (Nat.le_of_ble_eq_true rfl) ⟨by decide, by decide, trivial⟩ ⟨by decide, trivial⟩ (fun r ad1 s1 G1 hE hq => ?_) (fun kE ad1 s1 G1 q9 hk3 hE hq => ?_)
  · obtain ⟨rfl, v, rfl, hw⟩ := hq
    refine aw_i2l C dL_cursor_8 ?_
    refine aw_last (N := 1) C dL_cursor_9 (sA_83 shOK_A) (by unfold vp_in; decide) hw (fun G2 hw => ?_)
    refine aw_goto (tgt := 17) C dL_cursor_10 (by decide) ?_
    refine aw_iconst (v := 0) C dL_cursor_17 (by decide) ?_
    exact aw_vx (Nat.le_of_ble_eq_true rfl) (Nat.le_of_ble_eq_true rfl) (aw_lireturn C hr dL_cursor_18 hE ⟨_, rfl, hw⟩)
  · obtain ⟨rfl, hq⟩ := hq
    obtain ⟨rfl, hw⟩ := hq
    refine awx_catch C [] ⟨0, 10, 13, 13⟩ [] htab (fun z hz => nomatch hz) (by decide) (by decide) mC_L_13 (by decide) ?_
    refine aw_astoreR C dL_cursor_13 (by decide) rfl ?_
    refine aw_iconst (v := 1) C dL_cursor_15 (by decide) ?_
    exact aw_vx (Nat.le_of_ble_eq_true rfl) (Nat.le_of_ble_eq_true rfl) (aw_lireturn C hr dL_cursor_16 hE ⟨_, rfl, hw⟩)
def w_L_cursor_B (K : Int32 → Sh → Gt → Prop) (p0 : Int32) (p1 : Int32) (G0 : Gt) : Prop :=
  w_X10_cursor_B (fun v G1 => pt (gu G1 83 (0 : Int32).toNatClampNeg v) fun G2 => K 0 shB G2) (fun k G1 => (k = 0 ∧ K 1 shB G1)) p0 p1 G0
set_option maxHeartbeats 4000000 in
set_option maxRecDepth 100000 in
theorem t_L_cursor_B {l : Launch} (hlf : l.stackTraces = false) (p0 : Int32) (p1 : Int32) (G0 : Gt) (K : Int32 → Sh → Gt → Prop) (hw : w_L_cursor_B K p0 p1 G0) : CW l yL_cursor cL_cursor 5 [(0, 10, 13, 13)] 7 112 1 6 [.ref 0, .int p0, .int p1, .ref 83] shB G0 (fun r s' G' => ∃ v, r = some (.int v) ∧ K v s' G') := by
  refine CW_of (by decide) (Nat.le_of_ble_eq_true rfl) rfl ?_
  intro p e s m args below meth c D tA ad A C hr htab
  unfold w_L_cursor_B at hw
  show aw p l e { frames := 7, cells := 1, slots := 6, locals := 112 } s m args below meth c 5 D tA A (vx_MQ below (QL D tA ad A shB (fun r s' G' => ∃ v, r = some (.int v) ∧ K v s' G')) noX args s 1 6 A) 0 0 ad 0 [some (.ref 0), some (.int p0), some (.int p1), some (.ref 83), none] [] shB G0
  refine aw_aloadn C dL_cursor_0 rfl ?_
  refine aw_iconst (v := 0) C dL_cursor_1 (by decide) ?_
  refine aw_aloadn C dL_cursor_2 rfl ?_
  refine aw_iloadn C dL_cursor_3 rfl ?_
  refine aw_iloadn C dL_cursor_4 rfl ?_
  refine aw_callL C dL_cursor_5 (t_X10_cursor_B hlf p0 p1 _ _ _ hw).toCL mM_L_72 bX10_cursor shB_0 rfl rfl ⟨Nat.le_of_ble_eq_true rfl, Nat.le_of_ble_eq_true rfl, Nat.le_of_ble_eq_true rfl, Nat.le_of_ble_eq_true rfl⟩ [.int 0, .ref 83] rfl (Nat.le_of_ble_eq_true rfl) ⟨by decide, by decide, trivial⟩ ⟨by decide, trivial⟩ (fun r ad1 s1 G1 hE hq => ?_) (fun kE ad1 s1 G1 q9 hk3 hE hq => ?_)
  · obtain ⟨rfl, v, rfl, hw⟩ := hq
    refine aw_i2l C dL_cursor_8 ?_
    refine aw_last (N := 1) C dL_cursor_9 (sA_83 shOK_B) (by unfold vp_in; decide) hw (fun G2 hw => ?_)
    refine aw_goto (tgt := 17) C dL_cursor_10 (by decide) ?_
    refine aw_iconst (v := 0) C dL_cursor_17 (by decide) ?_
    exact aw_vx (Nat.le_of_ble_eq_true rfl) (Nat.le_of_ble_eq_true rfl) (aw_lireturn C hr dL_cursor_18 hE ⟨_, rfl, hw⟩)
  · obtain ⟨rfl, hq⟩ := hq
    obtain ⟨rfl, hw⟩ := hq
    refine awx_catch C [] ⟨0, 10, 13, 13⟩ [] htab (fun z hz => nomatch hz) (by decide) (by decide) mC_L_13 (by decide) ?_
    refine aw_astoreR C dL_cursor_13 (by decide) rfl ?_
    refine aw_iconst (v := 1) C dL_cursor_15 (by decide) ?_
    exact aw_vx (Nat.le_of_ble_eq_true rfl) (Nat.le_of_ble_eq_true rfl) (aw_lireturn C hr dL_cursor_16 hE ⟨_, rfl, hw⟩)
def w_L_activeCursor_A (K : Int32 → Sh → Gt → Prop) (p0 : Int32) (G0 : Gt) : Prop :=
  w_X10_activeCursor_A (fun v G1 => pt (gu G1 83 (0 : Int32).toNatClampNeg v) fun G2 => K 0 shA G2) (fun k G1 => (k = 0 ∧ K 1 shA G1)) p0 G0
set_option maxHeartbeats 4000000 in
set_option maxRecDepth 100000 in
theorem t_L_activeCursor_A {l : Launch} (hlf : l.stackTraces = false) (p0 : Int32) (G0 : Gt) (K : Int32 → Sh → Gt → Prop) (hw : w_L_activeCursor_A K p0 G0) : CW l yL_activeCursor cL_activeCursor 4 [(0, 9, 12, 13)] 7 111 1 6 [.ref 0, .int p0, .ref 83] shA G0 (fun r s' G' => ∃ v, r = some (.int v) ∧ K v s' G') := by
  refine CW_of (by decide) (Nat.le_of_ble_eq_true rfl) rfl ?_
  intro p e s m args below meth c D tA ad A C hr htab
  unfold w_L_activeCursor_A at hw
  show aw p l e { frames := 7, cells := 1, slots := 6, locals := 111 } s m args below meth c 4 D tA A (vx_MQ below (QL D tA ad A shA (fun r s' G' => ∃ v, r = some (.int v) ∧ K v s' G')) noX args s 1 6 A) 0 0 ad 0 [some (.ref 0), some (.int p0), some (.ref 83), none] [] shA G0
  refine aw_aloadn C dL_activeCursor_0 rfl ?_
  refine aw_iconst (v := 0) C dL_activeCursor_1 (by decide) ?_
  refine aw_aloadn C dL_activeCursor_2 rfl ?_
  refine aw_iloadn C dL_activeCursor_3 rfl ?_
  refine aw_callL C dL_activeCursor_4 (t_X10_activeCursor_A hlf p0 _ _ _ hw).toCL mM_L_75 bX10_activeCursor shA_0 rfl rfl ⟨Nat.le_of_ble_eq_true rfl, Nat.le_of_ble_eq_true rfl, Nat.le_of_ble_eq_true rfl, Nat.le_of_ble_eq_true rfl⟩ [.int 0, .ref 83] rfl (Nat.le_of_ble_eq_true rfl) ⟨by decide, by decide, trivial⟩ ⟨by decide, trivial⟩ (fun r ad1 s1 G1 hE hq => ?_) (fun kE ad1 s1 G1 q9 hk3 hE hq => ?_)
  · obtain ⟨rfl, v, rfl, hw⟩ := hq
    refine aw_i2l C dL_activeCursor_7 ?_
    refine aw_last (N := 1) C dL_activeCursor_8 (sA_83 shOK_A) (by unfold vp_in; decide) hw (fun G2 hw => ?_)
    refine aw_goto (tgt := 15) C dL_activeCursor_9 (by decide) ?_
    refine aw_iconst (v := 0) C dL_activeCursor_15 (by decide) ?_
    exact aw_vx (Nat.le_of_ble_eq_true rfl) (Nat.le_of_ble_eq_true rfl) (aw_lireturn C hr dL_activeCursor_16 hE ⟨_, rfl, hw⟩)
  · obtain ⟨rfl, hq⟩ := hq
    obtain ⟨rfl, hw⟩ := hq
    refine awx_catch C [] ⟨0, 9, 12, 13⟩ [] htab (fun z hz => nomatch hz) (by decide) (by decide) mC_L_13 (by decide) ?_
    refine aw_astorenR C dL_activeCursor_12 (by decide) rfl ?_
    refine aw_iconst (v := 1) C dL_activeCursor_13 (by decide) ?_
    exact aw_vx (Nat.le_of_ble_eq_true rfl) (Nat.le_of_ble_eq_true rfl) (aw_lireturn C hr dL_activeCursor_14 hE ⟨_, rfl, hw⟩)
def w_L_activeCursor_B (K : Int32 → Sh → Gt → Prop) (p0 : Int32) (G0 : Gt) : Prop :=
  w_X10_activeCursor_B (fun v G1 => pt (gu G1 83 (0 : Int32).toNatClampNeg v) fun G2 => K 0 shB G2) (fun k G1 => (k = 0 ∧ K 1 shB G1)) p0 G0
set_option maxHeartbeats 4000000 in
set_option maxRecDepth 100000 in
theorem t_L_activeCursor_B {l : Launch} (hlf : l.stackTraces = false) (p0 : Int32) (G0 : Gt) (K : Int32 → Sh → Gt → Prop) (hw : w_L_activeCursor_B K p0 G0) : CW l yL_activeCursor cL_activeCursor 4 [(0, 9, 12, 13)] 7 111 1 6 [.ref 0, .int p0, .ref 83] shB G0 (fun r s' G' => ∃ v, r = some (.int v) ∧ K v s' G') := by
  refine CW_of (by decide) (Nat.le_of_ble_eq_true rfl) rfl ?_
  intro p e s m args below meth c D tA ad A C hr htab
  unfold w_L_activeCursor_B at hw
  show aw p l e { frames := 7, cells := 1, slots := 6, locals := 111 } s m args below meth c 4 D tA A (vx_MQ below (QL D tA ad A shB (fun r s' G' => ∃ v, r = some (.int v) ∧ K v s' G')) noX args s 1 6 A) 0 0 ad 0 [some (.ref 0), some (.int p0), some (.ref 83), none] [] shB G0
  refine aw_aloadn C dL_activeCursor_0 rfl ?_
  refine aw_iconst (v := 0) C dL_activeCursor_1 (by decide) ?_
  refine aw_aloadn C dL_activeCursor_2 rfl ?_
  refine aw_iloadn C dL_activeCursor_3 rfl ?_
  refine aw_callL C dL_activeCursor_4 (t_X10_activeCursor_B hlf p0 _ _ _ hw).toCL mM_L_75 bX10_activeCursor shB_0 rfl rfl ⟨Nat.le_of_ble_eq_true rfl, Nat.le_of_ble_eq_true rfl, Nat.le_of_ble_eq_true rfl, Nat.le_of_ble_eq_true rfl⟩ [.int 0, .ref 83] rfl (Nat.le_of_ble_eq_true rfl) ⟨by decide, by decide, trivial⟩ ⟨by decide, trivial⟩ (fun r ad1 s1 G1 hE hq => ?_) (fun kE ad1 s1 G1 q9 hk3 hE hq => ?_)
  · obtain ⟨rfl, v, rfl, hw⟩ := hq
    refine aw_i2l C dL_activeCursor_7 ?_
    refine aw_last (N := 1) C dL_activeCursor_8 (sA_83 shOK_B) (by unfold vp_in; decide) hw (fun G2 hw => ?_)
    refine aw_goto (tgt := 15) C dL_activeCursor_9 (by decide) ?_
    refine aw_iconst (v := 0) C dL_activeCursor_15 (by decide) ?_
    exact aw_vx (Nat.le_of_ble_eq_true rfl) (Nat.le_of_ble_eq_true rfl) (aw_lireturn C hr dL_activeCursor_16 hE ⟨_, rfl, hw⟩)
  · obtain ⟨rfl, hq⟩ := hq
    obtain ⟨rfl, hw⟩ := hq
    refine awx_catch C [] ⟨0, 9, 12, 13⟩ [] htab (fun z hz => nomatch hz) (by decide) (by decide) mC_L_13 (by decide) ?_
    refine aw_astorenR C dL_activeCursor_12 (by decide) rfl ?_
    refine aw_iconst (v := 1) C dL_activeCursor_13 (by decide) ?_
    exact aw_vx (Nat.le_of_ble_eq_true rfl) (Nat.le_of_ble_eq_true rfl) (aw_lireturn C hr dL_activeCursor_14 hE ⟨_, rfl, hw⟩)
def w_L_option_A (K : Int32 → Sh → Gt → Prop) (p0 : Int32) (G0 : Gt) : Prop :=
  w_X10_option_A (fun v G1 => pt (gu G1 83 (0 : Int32).toNatClampNeg v) fun G2 => K 0 shA G2) (fun k G1 => (k = 0 ∧ K 1 shA G1)) p0 G0
set_option maxHeartbeats 4000000 in
set_option maxRecDepth 100000 in
theorem t_L_option_A {l : Launch} (hlf : l.stackTraces = false) (p0 : Int32) (G0 : Gt) (K : Int32 → Sh → Gt → Prop) (hw : w_L_option_A K p0 G0) : CW l yL_option cL_option 4 [(0, 9, 12, 13)] 7 111 1 6 [.ref 0, .int p0, .ref 83] shA G0 (fun r s' G' => ∃ v, r = some (.int v) ∧ K v s' G') := by
  refine CW_of (by decide) (Nat.le_of_ble_eq_true rfl) rfl ?_
  intro p e s m args below meth c D tA ad A C hr htab
  unfold w_L_option_A at hw
  show aw p l e { frames := 7, cells := 1, slots := 6, locals := 111 } s m args below meth c 4 D tA A (vx_MQ below (QL D tA ad A shA (fun r s' G' => ∃ v, r = some (.int v) ∧ K v s' G')) noX args s 1 6 A) 0 0 ad 0 [some (.ref 0), some (.int p0), some (.ref 83), none] [] shA G0
  refine aw_aloadn C dL_option_0 rfl ?_
  refine aw_iconst (v := 0) C dL_option_1 (by decide) ?_
  refine aw_aloadn C dL_option_2 rfl ?_
  refine aw_iloadn C dL_option_3 rfl ?_
  refine aw_callL C dL_option_4 (t_X10_option_A hlf p0 _ _ _ hw).toCL mM_L_78 bX10_option shA_0 rfl rfl ⟨Nat.le_of_ble_eq_true rfl, Nat.le_of_ble_eq_true rfl, Nat.le_of_ble_eq_true rfl, Nat.le_of_ble_eq_true rfl⟩ [.int 0, .ref 83] rfl (Nat.le_of_ble_eq_true rfl) ⟨by decide, by decide, trivial⟩ ⟨by decide, trivial⟩ (fun r ad1 s1 G1 hE hq => ?_) (fun kE ad1 s1 G1 q9 hk3 hE hq => ?_)
  · obtain ⟨rfl, v, rfl, hw⟩ := hq
    refine aw_i2l C dL_option_7 ?_
    refine aw_last (N := 1) C dL_option_8 (sA_83 shOK_A) (by unfold vp_in; decide) hw (fun G2 hw => ?_)
    refine aw_goto (tgt := 15) C dL_option_9 (by decide) ?_
    refine aw_iconst (v := 0) C dL_option_15 (by decide) ?_
    exact aw_vx (Nat.le_of_ble_eq_true rfl) (Nat.le_of_ble_eq_true rfl) (aw_lireturn C hr dL_option_16 hE ⟨_, rfl, hw⟩)
  · obtain ⟨rfl, hq⟩ := hq
    obtain ⟨rfl, hw⟩ := hq
    refine awx_catch C [] ⟨0, 9, 12, 13⟩ [] htab (fun z hz => nomatch hz) (by decide) (by decide) mC_L_13 (by decide) ?_
    refine aw_astorenR C dL_option_12 (by decide) rfl ?_
    refine aw_iconst (v := 1) C dL_option_13 (by decide) ?_
    exact aw_vx (Nat.le_of_ble_eq_true rfl) (Nat.le_of_ble_eq_true rfl) (aw_lireturn C hr dL_option_14 hE ⟨_, rfl, hw⟩)
def w_L_option_B (K : Int32 → Sh → Gt → Prop) (p0 : Int32) (G0 : Gt) : Prop :=
  w_X10_option_B (fun v G1 => pt (gu G1 83 (0 : Int32).toNatClampNeg v) fun G2 => K 0 shB G2) (fun k G1 => (k = 0 ∧ K 1 shB G1)) p0 G0
set_option maxHeartbeats 4000000 in
set_option maxRecDepth 100000 in
theorem t_L_option_B {l : Launch} (hlf : l.stackTraces = false) (p0 : Int32) (G0 : Gt) (K : Int32 → Sh → Gt → Prop) (hw : w_L_option_B K p0 G0) : CW l yL_option cL_option 4 [(0, 9, 12, 13)] 7 111 1 6 [.ref 0, .int p0, .ref 83] shB G0 (fun r s' G' => ∃ v, r = some (.int v) ∧ K v s' G') := by
  refine CW_of (by decide) (Nat.le_of_ble_eq_true rfl) rfl ?_
  intro p e s m args below meth c D tA ad A C hr htab
  unfold w_L_option_B at hw
  show aw p l e { frames := 7, cells := 1, slots := 6, locals := 111 } s m args below meth c 4 D tA A (vx_MQ below (QL D tA ad A shB (fun r s' G' => ∃ v, r = some (.int v) ∧ K v s' G')) noX args s 1 6 A) 0 0 ad 0 [some (.ref 0), some (.int p0), some (.ref 83), none] [] shB G0
  refine aw_aloadn C dL_option_0 rfl ?_
  refine aw_iconst (v := 0) C dL_option_1 (by decide) ?_
  refine aw_aloadn C dL_option_2 rfl ?_
  refine aw_iloadn C dL_option_3 rfl ?_
  refine aw_callL C dL_option_4 (t_X10_option_B hlf p0 _ _ _ hw).toCL mM_L_78 bX10_option shB_0 rfl rfl ⟨Nat.le_of_ble_eq_true rfl, Nat.le_of_ble_eq_true rfl, Nat.le_of_ble_eq_true rfl, Nat.le_of_ble_eq_true rfl⟩ [.int 0, .ref 83] rfl (Nat.le_of_ble_eq_true rfl) ⟨by decide, by decide, trivial⟩ ⟨by decide, trivial⟩ (fun r ad1 s1 G1 hE hq => ?_) (fun kE ad1 s1 G1 q9 hk3 hE hq => ?_)
  · obtain ⟨rfl, v, rfl, hw⟩ := hq
    refine aw_i2l C dL_option_7 ?_
    refine aw_last (N := 1) C dL_option_8 (sA_83 shOK_B) (by unfold vp_in; decide) hw (fun G2 hw => ?_)
    refine aw_goto (tgt := 15) C dL_option_9 (by decide) ?_
    refine aw_iconst (v := 0) C dL_option_15 (by decide) ?_
    exact aw_vx (Nat.le_of_ble_eq_true rfl) (Nat.le_of_ble_eq_true rfl) (aw_lireturn C hr dL_option_16 hE ⟨_, rfl, hw⟩)
  · obtain ⟨rfl, hq⟩ := hq
    obtain ⟨rfl, hw⟩ := hq
    refine awx_catch C [] ⟨0, 9, 12, 13⟩ [] htab (fun z hz => nomatch hz) (by decide) (by decide) mC_L_13 (by decide) ?_
    refine aw_astorenR C dL_option_12 (by decide) rfl ?_
    refine aw_iconst (v := 1) C dL_option_13 (by decide) ?_
    exact aw_vx (Nat.le_of_ble_eq_true rfl) (Nat.le_of_ble_eq_true rfl) (aw_lireturn C hr dL_option_14 hE ⟨_, rfl, hw⟩)
def w_L_register_A (K : Int32 → Sh → Gt → Prop) (p0 : Int32) (G0 : Gt) : Prop :=
  w_X10_register_A (fun v G1 => pt (gu G1 83 (0 : Int32).toNatClampNeg v) fun G2 => K 0 shA G2) (fun k G1 => (k = 0 ∧ K 1 shA G1)) p0 G0
set_option maxHeartbeats 4000000 in
set_option maxRecDepth 100000 in
theorem t_L_register_A {l : Launch} (hlf : l.stackTraces = false) (p0 : Int32) (G0 : Gt) (K : Int32 → Sh → Gt → Prop) (hw : w_L_register_A K p0 G0) : CW l yL_register cL_register 4 [(0, 9, 12, 13)] 7 111 1 6 [.ref 0, .int p0, .ref 83] shA G0 (fun r s' G' => ∃ v, r = some (.int v) ∧ K v s' G') := by
  refine CW_of (by decide) (Nat.le_of_ble_eq_true rfl) rfl ?_
  intro p e s m args below meth c D tA ad A C hr htab
  unfold w_L_register_A at hw
  show aw p l e { frames := 7, cells := 1, slots := 6, locals := 111 } s m args below meth c 4 D tA A (vx_MQ below (QL D tA ad A shA (fun r s' G' => ∃ v, r = some (.int v) ∧ K v s' G')) noX args s 1 6 A) 0 0 ad 0 [some (.ref 0), some (.int p0), some (.ref 83), none] [] shA G0
  refine aw_aloadn C dL_register_0 rfl ?_
  refine aw_iconst (v := 0) C dL_register_1 (by decide) ?_
  refine aw_aloadn C dL_register_2 rfl ?_
  refine aw_iloadn C dL_register_3 rfl ?_
  refine aw_callL C dL_register_4 (t_X10_register_A hlf p0 _ _ _ hw).toCL mM_L_81 bX10_register shA_0 rfl rfl ⟨Nat.le_of_ble_eq_true rfl, Nat.le_of_ble_eq_true rfl, Nat.le_of_ble_eq_true rfl, Nat.le_of_ble_eq_true rfl⟩ [.int 0, .ref 83] rfl (Nat.le_of_ble_eq_true rfl) ⟨by decide, by decide, trivial⟩ ⟨by decide, trivial⟩ (fun r ad1 s1 G1 hE hq => ?_) (fun kE ad1 s1 G1 q9 hk3 hE hq => ?_)
  · obtain ⟨rfl, v, rfl, hw⟩ := hq
    refine aw_i2l C dL_register_7 ?_
    refine aw_last (N := 1) C dL_register_8 (sA_83 shOK_A) (by unfold vp_in; decide) hw (fun G2 hw => ?_)
    refine aw_goto (tgt := 15) C dL_register_9 (by decide) ?_
    refine aw_iconst (v := 0) C dL_register_15 (by decide) ?_
    exact aw_vx (Nat.le_of_ble_eq_true rfl) (Nat.le_of_ble_eq_true rfl) (aw_lireturn C hr dL_register_16 hE ⟨_, rfl, hw⟩)
  · obtain ⟨rfl, hq⟩ := hq
    obtain ⟨rfl, hw⟩ := hq
    refine awx_catch C [] ⟨0, 9, 12, 13⟩ [] htab (fun z hz => nomatch hz) (by decide) (by decide) mC_L_13 (by decide) ?_
    refine aw_astorenR C dL_register_12 (by decide) rfl ?_
    refine aw_iconst (v := 1) C dL_register_13 (by decide) ?_
    exact aw_vx (Nat.le_of_ble_eq_true rfl) (Nat.le_of_ble_eq_true rfl) (aw_lireturn C hr dL_register_14 hE ⟨_, rfl, hw⟩)
def w_L_register_B (K : Int32 → Sh → Gt → Prop) (p0 : Int32) (G0 : Gt) : Prop :=
  w_X10_register_B (fun v G1 => pt (gu G1 83 (0 : Int32).toNatClampNeg v) fun G2 => K 0 shB G2) (fun k G1 => (k = 0 ∧ K 1 shB G1)) p0 G0
set_option maxHeartbeats 4000000 in
set_option maxRecDepth 100000 in
theorem t_L_register_B {l : Launch} (hlf : l.stackTraces = false) (p0 : Int32) (G0 : Gt) (K : Int32 → Sh → Gt → Prop) (hw : w_L_register_B K p0 G0) : CW l yL_register cL_register 4 [(0, 9, 12, 13)] 7 111 1 6 [.ref 0, .int p0, .ref 83] shB G0 (fun r s' G' => ∃ v, r = some (.int v) ∧ K v s' G') := by
  refine CW_of (by decide) (Nat.le_of_ble_eq_true rfl) rfl ?_
  intro p e s m args below meth c D tA ad A C hr htab
  unfold w_L_register_B at hw
  show aw p l e { frames := 7, cells := 1, slots := 6, locals := 111 } s m args below meth c 4 D tA A (vx_MQ below (QL D tA ad A shB (fun r s' G' => ∃ v, r = some (.int v) ∧ K v s' G')) noX args s 1 6 A) 0 0 ad 0 [some (.ref 0), some (.int p0), some (.ref 83), none] [] shB G0
  refine aw_aloadn C dL_register_0 rfl ?_
  refine aw_iconst (v := 0) C dL_register_1 (by decide) ?_
  refine aw_aloadn C dL_register_2 rfl ?_
  refine aw_iloadn C dL_register_3 rfl ?_
  refine aw_callL C dL_register_4 (t_X10_register_B hlf p0 _ _ _ hw).toCL mM_L_81 bX10_register shB_0 rfl rfl ⟨Nat.le_of_ble_eq_true rfl, Nat.le_of_ble_eq_true rfl, Nat.le_of_ble_eq_true rfl, Nat.le_of_ble_eq_true rfl⟩ [.int 0, .ref 83] rfl (Nat.le_of_ble_eq_true rfl) ⟨by decide, by decide, trivial⟩ ⟨by decide, trivial⟩ (fun r ad1 s1 G1 hE hq => ?_) (fun kE ad1 s1 G1 q9 hk3 hE hq => ?_)
  · obtain ⟨rfl, v, rfl, hw⟩ := hq
    refine aw_i2l C dL_register_7 ?_
    refine aw_last (N := 1) C dL_register_8 (sA_83 shOK_B) (by unfold vp_in; decide) hw (fun G2 hw => ?_)
    refine aw_goto (tgt := 15) C dL_register_9 (by decide) ?_
    refine aw_iconst (v := 0) C dL_register_15 (by decide) ?_
    exact aw_vx (Nat.le_of_ble_eq_true rfl) (Nat.le_of_ble_eq_true rfl) (aw_lireturn C hr dL_register_16 hE ⟨_, rfl, hw⟩)
  · obtain ⟨rfl, hq⟩ := hq
    obtain ⟨rfl, hw⟩ := hq
    refine awx_catch C [] ⟨0, 9, 12, 13⟩ [] htab (fun z hz => nomatch hz) (by decide) (by decide) mC_L_13 (by decide) ?_
    refine aw_astorenR C dL_register_12 (by decide) rfl ?_
    refine aw_iconst (v := 1) C dL_register_13 (by decide) ?_
    exact aw_vx (Nat.le_of_ble_eq_true rfl) (Nat.le_of_ble_eq_true rfl) (aw_lireturn C hr dL_register_14 hE ⟨_, rfl, hw⟩)
def w_L_body_A (K : Int32 → Sh → Gt → Prop) (p0 : Int32) (G0 : Gt) : Prop :=
  w_X10_body_A (fun v G1 => pt (gu G1 83 (0 : Int32).toNatClampNeg v) fun G2 => K 0 shA G2) (fun k G1 => (k = 0 ∧ K 1 shA G1)) p0 G0
set_option maxHeartbeats 4000000 in
set_option maxRecDepth 100000 in
theorem t_L_body_A {l : Launch} (hlf : l.stackTraces = false) (p0 : Int32) (G0 : Gt) (K : Int32 → Sh → Gt → Prop) (hw : w_L_body_A K p0 G0) : CW l yL_body cL_body 4 [(0, 9, 12, 13)] 7 111 1 6 [.ref 0, .int p0, .ref 83] shA G0 (fun r s' G' => ∃ v, r = some (.int v) ∧ K v s' G') := by
  refine CW_of (by decide) (Nat.le_of_ble_eq_true rfl) rfl ?_
  intro p e s m args below meth c D tA ad A C hr htab
  unfold w_L_body_A at hw
  show aw p l e { frames := 7, cells := 1, slots := 6, locals := 111 } s m args below meth c 4 D tA A (vx_MQ below (QL D tA ad A shA (fun r s' G' => ∃ v, r = some (.int v) ∧ K v s' G')) noX args s 1 6 A) 0 0 ad 0 [some (.ref 0), some (.int p0), some (.ref 83), none] [] shA G0
  refine aw_aloadn C dL_body_0 rfl ?_
  refine aw_iconst (v := 0) C dL_body_1 (by decide) ?_
  refine aw_aloadn C dL_body_2 rfl ?_
  refine aw_iloadn C dL_body_3 rfl ?_
  refine aw_callL C dL_body_4 (t_X10_body_A hlf p0 _ _ _ hw).toCL mM_L_84 bX10_body shA_0 rfl rfl ⟨Nat.le_of_ble_eq_true rfl, Nat.le_of_ble_eq_true rfl, Nat.le_of_ble_eq_true rfl, Nat.le_of_ble_eq_true rfl⟩ [.int 0, .ref 83] rfl (Nat.le_of_ble_eq_true rfl) ⟨by decide, by decide, trivial⟩ ⟨by decide, trivial⟩ (fun r ad1 s1 G1 hE hq => ?_) (fun kE ad1 s1 G1 q9 hk3 hE hq => ?_)
  · obtain ⟨rfl, v, rfl, hw⟩ := hq
    refine aw_i2l C dL_body_7 ?_
    refine aw_last (N := 1) C dL_body_8 (sA_83 shOK_A) (by unfold vp_in; decide) hw (fun G2 hw => ?_)
    refine aw_goto (tgt := 15) C dL_body_9 (by decide) ?_
    refine aw_iconst (v := 0) C dL_body_15 (by decide) ?_
    exact aw_vx (Nat.le_of_ble_eq_true rfl) (Nat.le_of_ble_eq_true rfl) (aw_lireturn C hr dL_body_16 hE ⟨_, rfl, hw⟩)
  · obtain ⟨rfl, hq⟩ := hq
    obtain ⟨rfl, hw⟩ := hq
    refine awx_catch C [] ⟨0, 9, 12, 13⟩ [] htab (fun z hz => nomatch hz) (by decide) (by decide) mC_L_13 (by decide) ?_
    refine aw_astorenR C dL_body_12 (by decide) rfl ?_
    refine aw_iconst (v := 1) C dL_body_13 (by decide) ?_
    exact aw_vx (Nat.le_of_ble_eq_true rfl) (Nat.le_of_ble_eq_true rfl) (aw_lireturn C hr dL_body_14 hE ⟨_, rfl, hw⟩)
def w_L_body_B (K : Int32 → Sh → Gt → Prop) (p0 : Int32) (G0 : Gt) : Prop :=
  w_X10_body_B (fun v G1 => pt (gu G1 83 (0 : Int32).toNatClampNeg v) fun G2 => K 0 shB G2) (fun k G1 => (k = 0 ∧ K 1 shB G1)) p0 G0
set_option maxHeartbeats 4000000 in
set_option maxRecDepth 100000 in
theorem t_L_body_B {l : Launch} (hlf : l.stackTraces = false) (p0 : Int32) (G0 : Gt) (K : Int32 → Sh → Gt → Prop) (hw : w_L_body_B K p0 G0) : CW l yL_body cL_body 4 [(0, 9, 12, 13)] 7 111 1 6 [.ref 0, .int p0, .ref 83] shB G0 (fun r s' G' => ∃ v, r = some (.int v) ∧ K v s' G') := by
  refine CW_of (by decide) (Nat.le_of_ble_eq_true rfl) rfl ?_
  intro p e s m args below meth c D tA ad A C hr htab
  unfold w_L_body_B at hw
  show aw p l e { frames := 7, cells := 1, slots := 6, locals := 111 } s m args below meth c 4 D tA A (vx_MQ below (QL D tA ad A shB (fun r s' G' => ∃ v, r = some (.int v) ∧ K v s' G')) noX args s 1 6 A) 0 0 ad 0 [some (.ref 0), some (.int p0), some (.ref 83), none] [] shB G0
  refine aw_aloadn C dL_body_0 rfl ?_
  refine aw_iconst (v := 0) C dL_body_1 (by decide) ?_
  refine aw_aloadn C dL_body_2 rfl ?_
  refine aw_iloadn C dL_body_3 rfl ?_
  refine aw_callL C dL_body_4 (t_X10_body_B hlf p0 _ _ _ hw).toCL mM_L_84 bX10_body shB_0 rfl rfl ⟨Nat.le_of_ble_eq_true rfl, Nat.le_of_ble_eq_true rfl, Nat.le_of_ble_eq_true rfl, Nat.le_of_ble_eq_true rfl⟩ [.int 0, .ref 83] rfl (Nat.le_of_ble_eq_true rfl) ⟨by decide, by decide, trivial⟩ ⟨by decide, trivial⟩ (fun r ad1 s1 G1 hE hq => ?_) (fun kE ad1 s1 G1 q9 hk3 hE hq => ?_)
  · obtain ⟨rfl, v, rfl, hw⟩ := hq
    refine aw_i2l C dL_body_7 ?_
    refine aw_last (N := 1) C dL_body_8 (sA_83 shOK_B) (by unfold vp_in; decide) hw (fun G2 hw => ?_)
    refine aw_goto (tgt := 15) C dL_body_9 (by decide) ?_
    refine aw_iconst (v := 0) C dL_body_15 (by decide) ?_
    exact aw_vx (Nat.le_of_ble_eq_true rfl) (Nat.le_of_ble_eq_true rfl) (aw_lireturn C hr dL_body_16 hE ⟨_, rfl, hw⟩)
  · obtain ⟨rfl, hq⟩ := hq
    obtain ⟨rfl, hw⟩ := hq
    refine awx_catch C [] ⟨0, 9, 12, 13⟩ [] htab (fun z hz => nomatch hz) (by decide) (by decide) mC_L_13 (by decide) ?_
    refine aw_astorenR C dL_body_12 (by decide) rfl ?_
    refine aw_iconst (v := 1) C dL_body_13 (by decide) ?_
    exact aw_vx (Nat.le_of_ble_eq_true rfl) (Nat.le_of_ble_eq_true rfl) (aw_lireturn C hr dL_body_14 hE ⟨_, rfl, hw⟩)
