theorem mW_length : Cond.codeWith yL_length cL_length 3 (some .int) [(0, 5, 6, 16)] ∈ GW := gw_t (tb2 (List.mem_of_getElem? (i := 13) rfl)) rfl
theorem mW_cursor : Cond.codeWith yL_cursor cL_cursor 4 (some .int) [(0, 6, 7, 16)] ∈ GW := gw_t (tb2 (List.mem_of_getElem? (i := 97) rfl)) rfl
theorem mW_activeCursor : Cond.codeWith yL_activeCursor cL_activeCursor 3 (some .int) [(0, 5, 6, 16)] ∈ GW := gw_t (tb2 (List.mem_of_getElem? (i := 109) rfl)) rfl
theorem mW_letter : Cond.codeWith yL_letter cL_letter 4 (some .int) [(0, 6, 7, 16)] ∈ GW := gw_t (tb2 (List.mem_of_getElem? (i := 116) rfl)) rfl
theorem mW_option : Cond.codeWith yL_option cL_option 3 (some .int) [(0, 5, 6, 16)] ∈ GW := gw_t (tb2 (List.mem_of_getElem? (i := 124) rfl)) rfl
theorem mW_body : Cond.codeWith yL_body cL_body 3 (some .int) [(0, 5, 6, 16)] ∈ GW := gw_t (tb2 (List.mem_of_getElem? (i := 132) rfl)) rfl
theorem mW_node : Cond.codeWith yL_node cL_node 6 (some .int) [(0, 9, 10, 16), (0, 9, 15, 19), (0, 9, 20, 22)] ∈ GW := gw_t (tb2 (List.mem_of_getElem? (i := 167) rfl)) rfl
theorem mW_size : Cond.codeWith yL_size cL_size 3 (some .int) [(0, 5, 6, 16)] ∈ GW := gw_t (tb3 (List.mem_of_getElem? (i := 104) rfl)) rfl
theorem mW_traceAt : Cond.codeWith yL_traceAt cL_traceAt 3 (some .int) [(0, 5, 6, 16)] ∈ GW := gw_t (tb3 (List.mem_of_getElem? (i := 150) rfl)) rfl
theorem mW_register : Cond.codeWith yL_register cL_register 3 (some .int) [(0, 5, 6, 16)] ∈ GW := gw_t (tb3 (List.mem_of_getElem? (i := 164) rfl)) rfl
theorem mW_tried : Cond.codeWith yL_tried cL_tried 3 (some .int) [(0, 5, 6, 16), (0, 5, 10, 22)] ∈ GW := gw_t (tb3 (List.mem_of_getElem? (i := 172) rfl)) rfl
theorem mW_triedSteps : Cond.codeWith yL_triedSteps cL_triedSteps 3 (some .int) [(0, 5, 6, 16), (0, 5, 10, 22)] ∈ GW := gw_t (tb5 (List.mem_of_getElem? (i := 195) rfl)) rfl
theorem mW_run : Cond.codeWith yL_run cL_run 3 (some .int) [(0, 5, 6, 16), (0, 5, 10, 22)] ∈ GW := gw_t (tb5 (List.mem_of_getElem? (i := 210) rfl)) rfl
theorem mW_start : Cond.codeWith yL_start cL_start 3 (some .int) [(0, 6, 7, 16), (0, 6, 11, 22)] ∈ GW := gw_t (tb5 (List.mem_of_getElem? (i := 217) rfl)) rfl
theorem mW_look : Cond.codeWith yL_look cL_look 3 (some .int) [(0, 5, 6, 16), (0, 5, 10, 22)] ∈ GW := gw_t (tb5 (List.mem_of_getElem? (i := 224) rfl)) rfl
theorem mW_setOption : Cond.codeWith yL_setOption cL_setOption 4 (some .int) [(0, 6, 7, 16), (0, 6, 11, 19), (0, 6, 15, 22)] ∈ GW := gw_t (tb5 (List.mem_of_getElem? (i := 238) rfl)) rfl
theorem mW_write : Cond.codeWith yL_write cL_write 4 (some .int) [(0, 6, 7, 16), (0, 6, 11, 19), (0, 6, 15, 22)] ∈ GW := gw_t (tb6 (List.mem_of_getElem? (i := 8) rfl)) rfl
theorem mW_define : Cond.codeWith yL_define cL_define 6 (some .int) [(0, 9, 10, 16), (0, 9, 15, 19), (0, 9, 20, 22)] ∈ GW := gw_t (tb6 (List.mem_of_getElem? (i := 21) rfl)) rfl
theorem mW_step : Cond.codeWith yL_step cL_step 3 (some .int) [(0, 5, 6, 19), (0, 5, 10, 22)] ∈ GW := gw_t (tb6 (List.mem_of_getElem? (i := 30) rfl)) rfl
theorem mW_giveUp : Cond.codeWith yL_giveUp cL_giveUp 2 (some .int) [(0, 4, 5, 22)] ∈ GW := gw_t (tb6 (List.mem_of_getElem? (i := 41) rfl)) rfl
theorem mW_setBudget : Cond.codeWith yL_setBudget cL_setBudget 3 (some .int) [(0, 5, 6, 19)] ∈ GW := gw_t (tb6 (List.mem_of_getElem? (i := 56) rfl)) rfl
theorem mW_breakAt : Cond.codeWith yL_breakAt cL_breakAt 4 (some .int) [(0, 14, 15, 16)] ∈ GW := gw_t (tb6 (List.mem_of_getElem? (i := 67) rfl)) rfl
theorem mT_length : Cond.static yL_length ∈ GW := gw_t (tb2 (List.mem_of_getElem? (i := 12) rfl)) rfl
theorem mT_cursor : Cond.static yL_cursor ∈ GW := gw_t (tb2 (List.mem_of_getElem? (i := 96) rfl)) rfl
theorem mT_activeCursor : Cond.static yL_activeCursor ∈ GW := gw_t (tb2 (List.mem_of_getElem? (i := 108) rfl)) rfl
theorem mT_letter : Cond.static yL_letter ∈ GW := gw_t (tb2 (List.mem_of_getElem? (i := 115) rfl)) rfl
theorem mT_option : Cond.static yL_option ∈ GW := gw_t (tb2 (List.mem_of_getElem? (i := 123) rfl)) rfl
theorem mT_body : Cond.static yL_body ∈ GW := gw_t (tb2 (List.mem_of_getElem? (i := 131) rfl)) rfl
theorem mT_node : Cond.static yL_node ∈ GW := gw_t (tb2 (List.mem_of_getElem? (i := 166) rfl)) rfl
theorem mT_size : Cond.static yL_size ∈ GW := gw_t (tb3 (List.mem_of_getElem? (i := 103) rfl)) rfl
theorem mT_traceAt : Cond.static yL_traceAt ∈ GW := gw_t (tb3 (List.mem_of_getElem? (i := 149) rfl)) rfl
theorem mT_register : Cond.static yL_register ∈ GW := gw_t (tb3 (List.mem_of_getElem? (i := 163) rfl)) rfl
theorem mT_tried : Cond.static yL_tried ∈ GW := gw_t (tb3 (List.mem_of_getElem? (i := 171) rfl)) rfl
theorem mT_triedSteps : Cond.static yL_triedSteps ∈ GW := gw_t (tb5 (List.mem_of_getElem? (i := 194) rfl)) rfl
theorem mT_run : Cond.static yL_run ∈ GW := gw_t (tb5 (List.mem_of_getElem? (i := 209) rfl)) rfl
theorem mT_start : Cond.static yL_start ∈ GW := gw_t (tb5 (List.mem_of_getElem? (i := 216) rfl)) rfl
theorem mT_look : Cond.static yL_look ∈ GW := gw_t (tb5 (List.mem_of_getElem? (i := 223) rfl)) rfl
theorem mT_setOption : Cond.static yL_setOption ∈ GW := gw_t (tb5 (List.mem_of_getElem? (i := 237) rfl)) rfl
theorem mT_write : Cond.static yL_write ∈ GW := gw_t (tb6 (List.mem_of_getElem? (i := 7) rfl)) rfl
theorem mT_define : Cond.static yL_define ∈ GW := gw_t (tb6 (List.mem_of_getElem? (i := 20) rfl)) rfl
theorem mT_step : Cond.static yL_step ∈ GW := gw_t (tb6 (List.mem_of_getElem? (i := 29) rfl)) rfl
theorem mT_giveUp : Cond.static yL_giveUp ∈ GW := gw_t (tb6 (List.mem_of_getElem? (i := 40) rfl)) rfl
theorem mT_setBudget : Cond.static yL_setBudget ∈ GW := gw_t (tb6 (List.mem_of_getElem? (i := 55) rfl)) rfl
theorem mT_breakAt : Cond.static yL_breakAt ∈ GW := gw_t (tb6 (List.mem_of_getElem? (i := 66) rfl)) rfl
def w_L_length_A (K : Int32 → Sh → Gt → Prop) (p0 : Int32) (G0 : Gt) : Prop :=
  w_X10_length_A (fun v G1 => K v shA G1) (fun k G1 => (k = 0 ∧ K (-1000001) shA G1)) p0 G0
set_option maxHeartbeats 4000000 in
set_option maxRecDepth 100000 in
theorem t_L_length_A {l : Launch} (hlf : l.stackTraces = false) (p0 : Int32) (G0 : Gt) (K : Int32 → Sh → Gt → Prop) (hw : w_L_length_A K p0 G0) : CW l yL_length cL_length 3 [(0, 5, 6, 16)] 7 111 1 6 [.ref 0, .int p0] shA G0 (fun r s' G' => ∃ v, r = some (.int v) ∧ K v s' G') := by
  refine CW_of (by decide) (Nat.le_of_ble_eq_true rfl) rfl ?_
  intro p e s m args below meth c D tA ad A C hr htab
  unfold w_L_length_A at hw
  show aw p l e { frames := 7, cells := 1, slots := 6, locals := 111 } s m args below meth c 3 D tA A (vx_MQ below (QL D tA ad A shA (fun r s' G' => ∃ v, r = some (.int v) ∧ K v s' G')) noX args s 1 6 A) 0 0 ad 0 [some (.ref 0), some (.int p0), none] [] shA G0
  refine aw_aloadn C dL_length_0 rfl ?_
  refine aw_iloadn C dL_length_1 rfl ?_
  refine aw_callL C dL_length_2 (t_X10_length_A hlf p0 _ _ _ hw).toCL mM_L_72 bX10_length shA_0 rfl rfl ⟨Nat.le_of_ble_eq_true rfl, Nat.le_of_ble_eq_true rfl, Nat.le_of_ble_eq_true rfl, Nat.le_of_ble_eq_true rfl⟩ [] rfl (Nat.le_of_ble_eq_true rfl) ⟨by decide, trivial⟩ trivial (fun r ad1 s1 G1 hE hq => ?_) (fun kE ad1 s1 G1 q9 hk3 hE hq => ?_)
  · obtain ⟨rfl, v, rfl, hw⟩ := hq
    exact aw_vx (Nat.le_of_ble_eq_true rfl) (Nat.le_of_ble_eq_true rfl) (aw_lireturn C hr dL_length_5 hE ⟨_, rfl, hw⟩)
  · obtain ⟨rfl, hq⟩ := hq
    obtain ⟨rfl, hw⟩ := hq
    refine awx_catch C [] ⟨0, 5, 6, 16⟩ [] htab (fun z hz => nomatch hz) (by decide) (by decide) mC_L_16 (by decide) ?_
    refine aw_astorenR C dL_length_6 (by decide) rfl ?_
    refine aw_ldc (v := -1000001) C dL_length_7 mK_L_18 ?_
    exact aw_vx (Nat.le_of_ble_eq_true rfl) (Nat.le_of_ble_eq_true rfl) (aw_lireturn C hr dL_length_9 hE ⟨_, rfl, hw⟩)
def w_L_length_B (K : Int32 → Sh → Gt → Prop) (p0 : Int32) (G0 : Gt) : Prop :=
  w_X10_length_B (fun v G1 => K v shB G1) (fun k G1 => (k = 0 ∧ K (-1000001) shB G1)) p0 G0
set_option maxHeartbeats 4000000 in
set_option maxRecDepth 100000 in
theorem t_L_length_B {l : Launch} (hlf : l.stackTraces = false) (p0 : Int32) (G0 : Gt) (K : Int32 → Sh → Gt → Prop) (hw : w_L_length_B K p0 G0) : CW l yL_length cL_length 3 [(0, 5, 6, 16)] 7 111 1 6 [.ref 0, .int p0] shB G0 (fun r s' G' => ∃ v, r = some (.int v) ∧ K v s' G') := by
  refine CW_of (by decide) (Nat.le_of_ble_eq_true rfl) rfl ?_
  intro p e s m args below meth c D tA ad A C hr htab
  unfold w_L_length_B at hw
  show aw p l e { frames := 7, cells := 1, slots := 6, locals := 111 } s m args below meth c 3 D tA A (vx_MQ below (QL D tA ad A shB (fun r s' G' => ∃ v, r = some (.int v) ∧ K v s' G')) noX args s 1 6 A) 0 0 ad 0 [some (.ref 0), some (.int p0), none] [] shB G0
  refine aw_aloadn C dL_length_0 rfl ?_
  refine aw_iloadn C dL_length_1 rfl ?_
  refine aw_callL C dL_length_2 (t_X10_length_B hlf p0 _ _ _ hw).toCL mM_L_72 bX10_length shB_0 rfl rfl ⟨Nat.le_of_ble_eq_true rfl, Nat.le_of_ble_eq_true rfl, Nat.le_of_ble_eq_true rfl, Nat.le_of_ble_eq_true rfl⟩ [] rfl (Nat.le_of_ble_eq_true rfl) ⟨by decide, trivial⟩ trivial (fun r ad1 s1 G1 hE hq => ?_) (fun kE ad1 s1 G1 q9 hk3 hE hq => ?_)
  · obtain ⟨rfl, v, rfl, hw⟩ := hq
    exact aw_vx (Nat.le_of_ble_eq_true rfl) (Nat.le_of_ble_eq_true rfl) (aw_lireturn C hr dL_length_5 hE ⟨_, rfl, hw⟩)
  · obtain ⟨rfl, hq⟩ := hq
    obtain ⟨rfl, hw⟩ := hq
    refine awx_catch C [] ⟨0, 5, 6, 16⟩ [] htab (fun z hz => nomatch hz) (by decide) (by decide) mC_L_16 (by decide) ?_
    refine aw_astorenR C dL_length_6 (by decide) rfl ?_
    refine aw_ldc (v := -1000001) C dL_length_7 mK_L_18 ?_
    exact aw_vx (Nat.le_of_ble_eq_true rfl) (Nat.le_of_ble_eq_true rfl) (aw_lireturn C hr dL_length_9 hE ⟨_, rfl, hw⟩)
def w_L_cursor_A (K : Int32 → Sh → Gt → Prop) (p0 : Int32) (p1 : Int32) (G0 : Gt) : Prop :=
  w_X10_cursor_A (fun v G1 => K v shA G1) (fun k G1 => (k = 0 ∧ K (-1000001) shA G1)) p0 p1 G0
set_option maxHeartbeats 4000000 in
set_option maxRecDepth 100000 in
theorem t_L_cursor_A {l : Launch} (hlf : l.stackTraces = false) (p0 : Int32) (p1 : Int32) (G0 : Gt) (K : Int32 → Sh → Gt → Prop) (hw : w_L_cursor_A K p0 p1 G0) : CW l yL_cursor cL_cursor 4 [(0, 6, 7, 16)] 7 112 1 6 [.ref 0, .int p0, .int p1] shA G0 (fun r s' G' => ∃ v, r = some (.int v) ∧ K v s' G') := by
  refine CW_of (by decide) (Nat.le_of_ble_eq_true rfl) rfl ?_
  intro p e s m args below meth c D tA ad A C hr htab
  unfold w_L_cursor_A at hw
  show aw p l e { frames := 7, cells := 1, slots := 6, locals := 112 } s m args below meth c 4 D tA A (vx_MQ below (QL D tA ad A shA (fun r s' G' => ∃ v, r = some (.int v) ∧ K v s' G')) noX args s 1 6 A) 0 0 ad 0 [some (.ref 0), some (.int p0), some (.int p1), none] [] shA G0
  refine aw_aloadn C dL_cursor_0 rfl ?_
  refine aw_iloadn C dL_cursor_1 rfl ?_
  refine aw_iloadn C dL_cursor_2 rfl ?_
  refine aw_callL C dL_cursor_3 (t_X10_cursor_A hlf p0 p1 _ _ _ hw).toCL mM_L_78 bX10_cursor shA_0 rfl rfl ⟨Nat.le_of_ble_eq_true rfl, Nat.le_of_ble_eq_true rfl, Nat.le_of_ble_eq_true rfl, Nat.le_of_ble_eq_true rfl⟩ [] rfl (Nat.le_of_ble_eq_true rfl) ⟨by decide, trivial⟩ trivial (fun r ad1 s1 G1 hE hq => ?_) (fun kE ad1 s1 G1 q9 hk3 hE hq => ?_)
  · obtain ⟨rfl, v, rfl, hw⟩ := hq
    exact aw_vx (Nat.le_of_ble_eq_true rfl) (Nat.le_of_ble_eq_true rfl) (aw_lireturn C hr dL_cursor_6 hE ⟨_, rfl, hw⟩)
  · obtain ⟨rfl, hq⟩ := hq
    obtain ⟨rfl, hw⟩ := hq
    refine awx_catch C [] ⟨0, 6, 7, 16⟩ [] htab (fun z hz => nomatch hz) (by decide) (by decide) mC_L_16 (by decide) ?_
    refine aw_astorenR C dL_cursor_7 (by decide) rfl ?_
    refine aw_ldc (v := -1000001) C dL_cursor_8 mK_L_18 ?_
    exact aw_vx (Nat.le_of_ble_eq_true rfl) (Nat.le_of_ble_eq_true rfl) (aw_lireturn C hr dL_cursor_10 hE ⟨_, rfl, hw⟩)
def w_L_cursor_B (K : Int32 → Sh → Gt → Prop) (p0 : Int32) (p1 : Int32) (G0 : Gt) : Prop :=
  w_X10_cursor_B (fun v G1 => K v shB G1) (fun k G1 => (k = 0 ∧ K (-1000001) shB G1)) p0 p1 G0
set_option maxHeartbeats 4000000 in
set_option maxRecDepth 100000 in
theorem t_L_cursor_B {l : Launch} (hlf : l.stackTraces = false) (p0 : Int32) (p1 : Int32) (G0 : Gt) (K : Int32 → Sh → Gt → Prop) (hw : w_L_cursor_B K p0 p1 G0) : CW l yL_cursor cL_cursor 4 [(0, 6, 7, 16)] 7 112 1 6 [.ref 0, .int p0, .int p1] shB G0 (fun r s' G' => ∃ v, r = some (.int v) ∧ K v s' G') := by
  refine CW_of (by decide) (Nat.le_of_ble_eq_true rfl) rfl ?_
  intro p e s m args below meth c D tA ad A C hr htab
  unfold w_L_cursor_B at hw
  show aw p l e { frames := 7, cells := 1, slots := 6, locals := 112 } s m args below meth c 4 D tA A (vx_MQ below (QL D tA ad A shB (fun r s' G' => ∃ v, r = some (.int v) ∧ K v s' G')) noX args s 1 6 A) 0 0 ad 0 [some (.ref 0), some (.int p0), some (.int p1), none] [] shB G0
  refine aw_aloadn C dL_cursor_0 rfl ?_
  refine aw_iloadn C dL_cursor_1 rfl ?_
  refine aw_iloadn C dL_cursor_2 rfl ?_
  refine aw_callL C dL_cursor_3 (t_X10_cursor_B hlf p0 p1 _ _ _ hw).toCL mM_L_78 bX10_cursor shB_0 rfl rfl ⟨Nat.le_of_ble_eq_true rfl, Nat.le_of_ble_eq_true rfl, Nat.le_of_ble_eq_true rfl, Nat.le_of_ble_eq_true rfl⟩ [] rfl (Nat.le_of_ble_eq_true rfl) ⟨by decide, trivial⟩ trivial (fun r ad1 s1 G1 hE hq => ?_) (fun kE ad1 s1 G1 q9 hk3 hE hq => ?_)
  · obtain ⟨rfl, v, rfl, hw⟩ := hq
    exact aw_vx (Nat.le_of_ble_eq_true rfl) (Nat.le_of_ble_eq_true rfl) (aw_lireturn C hr dL_cursor_6 hE ⟨_, rfl, hw⟩)
  · obtain ⟨rfl, hq⟩ := hq
    obtain ⟨rfl, hw⟩ := hq
    refine awx_catch C [] ⟨0, 6, 7, 16⟩ [] htab (fun z hz => nomatch hz) (by decide) (by decide) mC_L_16 (by decide) ?_
    refine aw_astorenR C dL_cursor_7 (by decide) rfl ?_
    refine aw_ldc (v := -1000001) C dL_cursor_8 mK_L_18 ?_
    exact aw_vx (Nat.le_of_ble_eq_true rfl) (Nat.le_of_ble_eq_true rfl) (aw_lireturn C hr dL_cursor_10 hE ⟨_, rfl, hw⟩)
def w_L_activeCursor_A (K : Int32 → Sh → Gt → Prop) (p0 : Int32) (G0 : Gt) : Prop :=
  w_X10_activeCursor_A (fun v G1 => K v shA G1) (fun k G1 => (k = 0 ∧ K (-1000001) shA G1)) p0 G0
set_option maxHeartbeats 4000000 in
set_option maxRecDepth 100000 in
theorem t_L_activeCursor_A {l : Launch} (hlf : l.stackTraces = false) (p0 : Int32) (G0 : Gt) (K : Int32 → Sh → Gt → Prop) (hw : w_L_activeCursor_A K p0 G0) : CW l yL_activeCursor cL_activeCursor 3 [(0, 5, 6, 16)] 7 111 1 6 [.ref 0, .int p0] shA G0 (fun r s' G' => ∃ v, r = some (.int v) ∧ K v s' G') := by
  refine CW_of (by decide) (Nat.le_of_ble_eq_true rfl) rfl ?_
  intro p e s m args below meth c D tA ad A C hr htab
  unfold w_L_activeCursor_A at hw
  show aw p l e { frames := 7, cells := 1, slots := 6, locals := 111 } s m args below meth c 3 D tA A (vx_MQ below (QL D tA ad A shA (fun r s' G' => ∃ v, r = some (.int v) ∧ K v s' G')) noX args s 1 6 A) 0 0 ad 0 [some (.ref 0), some (.int p0), none] [] shA G0
  refine aw_aloadn C dL_activeCursor_0 rfl ?_
  refine aw_iloadn C dL_activeCursor_1 rfl ?_
  refine aw_callL C dL_activeCursor_2 (t_X10_activeCursor_A hlf p0 _ _ _ hw).toCL mM_L_81 bX10_activeCursor shA_0 rfl rfl ⟨Nat.le_of_ble_eq_true rfl, Nat.le_of_ble_eq_true rfl, Nat.le_of_ble_eq_true rfl, Nat.le_of_ble_eq_true rfl⟩ [] rfl (Nat.le_of_ble_eq_true rfl) ⟨by decide, trivial⟩ trivial (fun r ad1 s1 G1 hE hq => ?_) (fun kE ad1 s1 G1 q9 hk3 hE hq => ?_)
  · obtain ⟨rfl, v, rfl, hw⟩ := hq
    exact aw_vx (Nat.le_of_ble_eq_true rfl) (Nat.le_of_ble_eq_true rfl) (aw_lireturn C hr dL_activeCursor_5 hE ⟨_, rfl, hw⟩)
  · obtain ⟨rfl, hq⟩ := hq
    obtain ⟨rfl, hw⟩ := hq
    refine awx_catch C [] ⟨0, 5, 6, 16⟩ [] htab (fun z hz => nomatch hz) (by decide) (by decide) mC_L_16 (by decide) ?_
    refine aw_astorenR C dL_activeCursor_6 (by decide) rfl ?_
    refine aw_ldc (v := -1000001) C dL_activeCursor_7 mK_L_18 ?_
    exact aw_vx (Nat.le_of_ble_eq_true rfl) (Nat.le_of_ble_eq_true rfl) (aw_lireturn C hr dL_activeCursor_9 hE ⟨_, rfl, hw⟩)
def w_L_activeCursor_B (K : Int32 → Sh → Gt → Prop) (p0 : Int32) (G0 : Gt) : Prop :=
  w_X10_activeCursor_B (fun v G1 => K v shB G1) (fun k G1 => (k = 0 ∧ K (-1000001) shB G1)) p0 G0
set_option maxHeartbeats 4000000 in
set_option maxRecDepth 100000 in
theorem t_L_activeCursor_B {l : Launch} (hlf : l.stackTraces = false) (p0 : Int32) (G0 : Gt) (K : Int32 → Sh → Gt → Prop) (hw : w_L_activeCursor_B K p0 G0) : CW l yL_activeCursor cL_activeCursor 3 [(0, 5, 6, 16)] 7 111 1 6 [.ref 0, .int p0] shB G0 (fun r s' G' => ∃ v, r = some (.int v) ∧ K v s' G') := by
  refine CW_of (by decide) (Nat.le_of_ble_eq_true rfl) rfl ?_
  intro p e s m args below meth c D tA ad A C hr htab
  unfold w_L_activeCursor_B at hw
  show aw p l e { frames := 7, cells := 1, slots := 6, locals := 111 } s m args below meth c 3 D tA A (vx_MQ below (QL D tA ad A shB (fun r s' G' => ∃ v, r = some (.int v) ∧ K v s' G')) noX args s 1 6 A) 0 0 ad 0 [some (.ref 0), some (.int p0), none] [] shB G0
  refine aw_aloadn C dL_activeCursor_0 rfl ?_
  refine aw_iloadn C dL_activeCursor_1 rfl ?_
  refine aw_callL C dL_activeCursor_2 (t_X10_activeCursor_B hlf p0 _ _ _ hw).toCL mM_L_81 bX10_activeCursor shB_0 rfl rfl ⟨Nat.le_of_ble_eq_true rfl, Nat.le_of_ble_eq_true rfl, Nat.le_of_ble_eq_true rfl, Nat.le_of_ble_eq_true rfl⟩ [] rfl (Nat.le_of_ble_eq_true rfl) ⟨by decide, trivial⟩ trivial (fun r ad1 s1 G1 hE hq => ?_) (fun kE ad1 s1 G1 q9 hk3 hE hq => ?_)
  · obtain ⟨rfl, v, rfl, hw⟩ := hq
    exact aw_vx (Nat.le_of_ble_eq_true rfl) (Nat.le_of_ble_eq_true rfl) (aw_lireturn C hr dL_activeCursor_5 hE ⟨_, rfl, hw⟩)
  · obtain ⟨rfl, hq⟩ := hq
    obtain ⟨rfl, hw⟩ := hq
    refine awx_catch C [] ⟨0, 5, 6, 16⟩ [] htab (fun z hz => nomatch hz) (by decide) (by decide) mC_L_16 (by decide) ?_
    refine aw_astorenR C dL_activeCursor_6 (by decide) rfl ?_
    refine aw_ldc (v := -1000001) C dL_activeCursor_7 mK_L_18 ?_
    exact aw_vx (Nat.le_of_ble_eq_true rfl) (Nat.le_of_ble_eq_true rfl) (aw_lireturn C hr dL_activeCursor_9 hE ⟨_, rfl, hw⟩)
def w_L_letter_A (K : Int32 → Sh → Gt → Prop) (p0 : Int32) (p1 : Int32) (G0 : Gt) : Prop :=
  w_X10_letter_A (fun v G1 => K v shA G1) (fun k G1 => (k = 0 ∧ K (-1000001) shA G1)) p0 p1 G0
set_option maxHeartbeats 4000000 in
set_option maxRecDepth 100000 in
theorem t_L_letter_A {l : Launch} (hlf : l.stackTraces = false) (p0 : Int32) (p1 : Int32) (G0 : Gt) (K : Int32 → Sh → Gt → Prop) (hw : w_L_letter_A K p0 p1 G0) : CW l yL_letter cL_letter 4 [(0, 6, 7, 16)] 7 112 1 6 [.ref 0, .int p0, .int p1] shA G0 (fun r s' G' => ∃ v, r = some (.int v) ∧ K v s' G') := by
  refine CW_of (by decide) (Nat.le_of_ble_eq_true rfl) rfl ?_
  intro p e s m args below meth c D tA ad A C hr htab
  unfold w_L_letter_A at hw
  show aw p l e { frames := 7, cells := 1, slots := 6, locals := 112 } s m args below meth c 4 D tA A (vx_MQ below (QL D tA ad A shA (fun r s' G' => ∃ v, r = some (.int v) ∧ K v s' G')) noX args s 1 6 A) 0 0 ad 0 [some (.ref 0), some (.int p0), some (.int p1), none] [] shA G0
  refine aw_aloadn C dL_letter_0 rfl ?_
  refine aw_iloadn C dL_letter_1 rfl ?_
  refine aw_iloadn C dL_letter_2 rfl ?_
  refine aw_callL C dL_letter_3 (t_X10_letter_A hlf p0 p1 _ _ _ hw).toCL mM_L_75 bX10_letter shA_0 rfl rfl ⟨Nat.le_of_ble_eq_true rfl, Nat.le_of_ble_eq_true rfl, Nat.le_of_ble_eq_true rfl, Nat.le_of_ble_eq_true rfl⟩ [] rfl (Nat.le_of_ble_eq_true rfl) ⟨by decide, trivial⟩ trivial (fun r ad1 s1 G1 hE hq => ?_) (fun kE ad1 s1 G1 q9 hk3 hE hq => ?_)
  · obtain ⟨rfl, v, rfl, hw⟩ := hq
    exact aw_vx (Nat.le_of_ble_eq_true rfl) (Nat.le_of_ble_eq_true rfl) (aw_lireturn C hr dL_letter_6 hE ⟨_, rfl, hw⟩)
  · obtain ⟨rfl, hq⟩ := hq
    obtain ⟨rfl, hw⟩ := hq
    refine awx_catch C [] ⟨0, 6, 7, 16⟩ [] htab (fun z hz => nomatch hz) (by decide) (by decide) mC_L_16 (by decide) ?_
    refine aw_astorenR C dL_letter_7 (by decide) rfl ?_
    refine aw_ldc (v := -1000001) C dL_letter_8 mK_L_18 ?_
    exact aw_vx (Nat.le_of_ble_eq_true rfl) (Nat.le_of_ble_eq_true rfl) (aw_lireturn C hr dL_letter_10 hE ⟨_, rfl, hw⟩)
def w_L_letter_B (K : Int32 → Sh → Gt → Prop) (p0 : Int32) (p1 : Int32) (G0 : Gt) : Prop :=
  w_X10_letter_B (fun v G1 => K v shB G1) (fun k G1 => (k = 0 ∧ K (-1000001) shB G1)) p0 p1 G0
set_option maxHeartbeats 4000000 in
set_option maxRecDepth 100000 in
theorem t_L_letter_B {l : Launch} (hlf : l.stackTraces = false) (p0 : Int32) (p1 : Int32) (G0 : Gt) (K : Int32 → Sh → Gt → Prop) (hw : w_L_letter_B K p0 p1 G0) : CW l yL_letter cL_letter 4 [(0, 6, 7, 16)] 7 112 1 6 [.ref 0, .int p0, .int p1] shB G0 (fun r s' G' => ∃ v, r = some (.int v) ∧ K v s' G') := by
  refine CW_of (by decide) (Nat.le_of_ble_eq_true rfl) rfl ?_
  intro p e s m args below meth c D tA ad A C hr htab
  unfold w_L_letter_B at hw
  show aw p l e { frames := 7, cells := 1, slots := 6, locals := 112 } s m args below meth c 4 D tA A (vx_MQ below (QL D tA ad A shB (fun r s' G' => ∃ v, r = some (.int v) ∧ K v s' G')) noX args s 1 6 A) 0 0 ad 0 [some (.ref 0), some (.int p0), some (.int p1), none] [] shB G0
  refine aw_aloadn C dL_letter_0 rfl ?_
  refine aw_iloadn C dL_letter_1 rfl ?_
  refine aw_iloadn C dL_letter_2 rfl ?_
  refine aw_callL C dL_letter_3 (t_X10_letter_B hlf p0 p1 _ _ _ hw).toCL mM_L_75 bX10_letter shB_0 rfl rfl ⟨Nat.le_of_ble_eq_true rfl, Nat.le_of_ble_eq_true rfl, Nat.le_of_ble_eq_true rfl, Nat.le_of_ble_eq_true rfl⟩ [] rfl (Nat.le_of_ble_eq_true rfl) ⟨by decide, trivial⟩ trivial (fun r ad1 s1 G1 hE hq => ?_) (fun kE ad1 s1 G1 q9 hk3 hE hq => ?_)
  · obtain ⟨rfl, v, rfl, hw⟩ := hq
    exact aw_vx (Nat.le_of_ble_eq_true rfl) (Nat.le_of_ble_eq_true rfl) (aw_lireturn C hr dL_letter_6 hE ⟨_, rfl, hw⟩)
  · obtain ⟨rfl, hq⟩ := hq
    obtain ⟨rfl, hw⟩ := hq
    refine awx_catch C [] ⟨0, 6, 7, 16⟩ [] htab (fun z hz => nomatch hz) (by decide) (by decide) mC_L_16 (by decide) ?_
    refine aw_astorenR C dL_letter_7 (by decide) rfl ?_
    refine aw_ldc (v := -1000001) C dL_letter_8 mK_L_18 ?_
    exact aw_vx (Nat.le_of_ble_eq_true rfl) (Nat.le_of_ble_eq_true rfl) (aw_lireturn C hr dL_letter_10 hE ⟨_, rfl, hw⟩)
def w_L_option_A (K : Int32 → Sh → Gt → Prop) (p0 : Int32) (G0 : Gt) : Prop :=
  w_X10_option_A (fun v G1 => K v shA G1) (fun k G1 => (k = 0 ∧ K (-1000001) shA G1)) p0 G0
set_option maxHeartbeats 4000000 in
set_option maxRecDepth 100000 in
theorem t_L_option_A {l : Launch} (hlf : l.stackTraces = false) (p0 : Int32) (G0 : Gt) (K : Int32 → Sh → Gt → Prop) (hw : w_L_option_A K p0 G0) : CW l yL_option cL_option 3 [(0, 5, 6, 16)] 7 111 1 6 [.ref 0, .int p0] shA G0 (fun r s' G' => ∃ v, r = some (.int v) ∧ K v s' G') := by
  refine CW_of (by decide) (Nat.le_of_ble_eq_true rfl) rfl ?_
  intro p e s m args below meth c D tA ad A C hr htab
  unfold w_L_option_A at hw
  show aw p l e { frames := 7, cells := 1, slots := 6, locals := 111 } s m args below meth c 3 D tA A (vx_MQ below (QL D tA ad A shA (fun r s' G' => ∃ v, r = some (.int v) ∧ K v s' G')) noX args s 1 6 A) 0 0 ad 0 [some (.ref 0), some (.int p0), none] [] shA G0
  refine aw_aloadn C dL_option_0 rfl ?_
  refine aw_iloadn C dL_option_1 rfl ?_
  refine aw_callL C dL_option_2 (t_X10_option_A hlf p0 _ _ _ hw).toCL mM_L_84 bX10_option shA_0 rfl rfl ⟨Nat.le_of_ble_eq_true rfl, Nat.le_of_ble_eq_true rfl, Nat.le_of_ble_eq_true rfl, Nat.le_of_ble_eq_true rfl⟩ [] rfl (Nat.le_of_ble_eq_true rfl) ⟨by decide, trivial⟩ trivial (fun r ad1 s1 G1 hE hq => ?_) (fun kE ad1 s1 G1 q9 hk3 hE hq => ?_)
  · obtain ⟨rfl, v, rfl, hw⟩ := hq
    exact aw_vx (Nat.le_of_ble_eq_true rfl) (Nat.le_of_ble_eq_true rfl) (aw_lireturn C hr dL_option_5 hE ⟨_, rfl, hw⟩)
  · obtain ⟨rfl, hq⟩ := hq
    obtain ⟨rfl, hw⟩ := hq
    refine awx_catch C [] ⟨0, 5, 6, 16⟩ [] htab (fun z hz => nomatch hz) (by decide) (by decide) mC_L_16 (by decide) ?_
    refine aw_astorenR C dL_option_6 (by decide) rfl ?_
    refine aw_ldc (v := -1000001) C dL_option_7 mK_L_18 ?_
    exact aw_vx (Nat.le_of_ble_eq_true rfl) (Nat.le_of_ble_eq_true rfl) (aw_lireturn C hr dL_option_9 hE ⟨_, rfl, hw⟩)
def w_L_option_B (K : Int32 → Sh → Gt → Prop) (p0 : Int32) (G0 : Gt) : Prop :=
  w_X10_option_B (fun v G1 => K v shB G1) (fun k G1 => (k = 0 ∧ K (-1000001) shB G1)) p0 G0
set_option maxHeartbeats 4000000 in
set_option maxRecDepth 100000 in
theorem t_L_option_B {l : Launch} (hlf : l.stackTraces = false) (p0 : Int32) (G0 : Gt) (K : Int32 → Sh → Gt → Prop) (hw : w_L_option_B K p0 G0) : CW l yL_option cL_option 3 [(0, 5, 6, 16)] 7 111 1 6 [.ref 0, .int p0] shB G0 (fun r s' G' => ∃ v, r = some (.int v) ∧ K v s' G') := by
  refine CW_of (by decide) (Nat.le_of_ble_eq_true rfl) rfl ?_
  intro p e s m args below meth c D tA ad A C hr htab
  unfold w_L_option_B at hw
  show aw p l e { frames := 7, cells := 1, slots := 6, locals := 111 } s m args below meth c 3 D tA A (vx_MQ below (QL D tA ad A shB (fun r s' G' => ∃ v, r = some (.int v) ∧ K v s' G')) noX args s 1 6 A) 0 0 ad 0 [some (.ref 0), some (.int p0), none] [] shB G0
  refine aw_aloadn C dL_option_0 rfl ?_
  refine aw_iloadn C dL_option_1 rfl ?_
  refine aw_callL C dL_option_2 (t_X10_option_B hlf p0 _ _ _ hw).toCL mM_L_84 bX10_option shB_0 rfl rfl ⟨Nat.le_of_ble_eq_true rfl, Nat.le_of_ble_eq_true rfl, Nat.le_of_ble_eq_true rfl, Nat.le_of_ble_eq_true rfl⟩ [] rfl (Nat.le_of_ble_eq_true rfl) ⟨by decide, trivial⟩ trivial (fun r ad1 s1 G1 hE hq => ?_) (fun kE ad1 s1 G1 q9 hk3 hE hq => ?_)
  · obtain ⟨rfl, v, rfl, hw⟩ := hq
    exact aw_vx (Nat.le_of_ble_eq_true rfl) (Nat.le_of_ble_eq_true rfl) (aw_lireturn C hr dL_option_5 hE ⟨_, rfl, hw⟩)
  · obtain ⟨rfl, hq⟩ := hq
    obtain ⟨rfl, hw⟩ := hq
    refine awx_catch C [] ⟨0, 5, 6, 16⟩ [] htab (fun z hz => nomatch hz) (by decide) (by decide) mC_L_16 (by decide) ?_
    refine aw_astorenR C dL_option_6 (by decide) rfl ?_
    refine aw_ldc (v := -1000001) C dL_option_7 mK_L_18 ?_
    exact aw_vx (Nat.le_of_ble_eq_true rfl) (Nat.le_of_ble_eq_true rfl) (aw_lireturn C hr dL_option_9 hE ⟨_, rfl, hw⟩)
def w_L_body_A (K : Int32 → Sh → Gt → Prop) (p0 : Int32) (G0 : Gt) : Prop :=
  w_X10_body_A (fun v G1 => K v shA G1) (fun k G1 => (k = 0 ∧ K (-1000001) shA G1)) p0 G0
set_option maxHeartbeats 4000000 in
set_option maxRecDepth 100000 in
theorem t_L_body_A {l : Launch} (hlf : l.stackTraces = false) (p0 : Int32) (G0 : Gt) (K : Int32 → Sh → Gt → Prop) (hw : w_L_body_A K p0 G0) : CW l yL_body cL_body 3 [(0, 5, 6, 16)] 7 111 1 6 [.ref 0, .int p0] shA G0 (fun r s' G' => ∃ v, r = some (.int v) ∧ K v s' G') := by
  refine CW_of (by decide) (Nat.le_of_ble_eq_true rfl) rfl ?_
  intro p e s m args below meth c D tA ad A C hr htab
  unfold w_L_body_A at hw
  show aw p l e { frames := 7, cells := 1, slots := 6, locals := 111 } s m args below meth c 3 D tA A (vx_MQ below (QL D tA ad A shA (fun r s' G' => ∃ v, r = some (.int v) ∧ K v s' G')) noX args s 1 6 A) 0 0 ad 0 [some (.ref 0), some (.int p0), none] [] shA G0
  refine aw_aloadn C dL_body_0 rfl ?_
  refine aw_iloadn C dL_body_1 rfl ?_
  refine aw_callL C dL_body_2 (t_X10_body_A hlf p0 _ _ _ hw).toCL mM_L_90 bX10_body shA_0 rfl rfl ⟨Nat.le_of_ble_eq_true rfl, Nat.le_of_ble_eq_true rfl, Nat.le_of_ble_eq_true rfl, Nat.le_of_ble_eq_true rfl⟩ [] rfl (Nat.le_of_ble_eq_true rfl) ⟨by decide, trivial⟩ trivial (fun r ad1 s1 G1 hE hq => ?_) (fun kE ad1 s1 G1 q9 hk3 hE hq => ?_)
  · obtain ⟨rfl, v, rfl, hw⟩ := hq
    exact aw_vx (Nat.le_of_ble_eq_true rfl) (Nat.le_of_ble_eq_true rfl) (aw_lireturn C hr dL_body_5 hE ⟨_, rfl, hw⟩)
  · obtain ⟨rfl, hq⟩ := hq
    obtain ⟨rfl, hw⟩ := hq
    refine awx_catch C [] ⟨0, 5, 6, 16⟩ [] htab (fun z hz => nomatch hz) (by decide) (by decide) mC_L_16 (by decide) ?_
    refine aw_astorenR C dL_body_6 (by decide) rfl ?_
    refine aw_ldc (v := -1000001) C dL_body_7 mK_L_18 ?_
    exact aw_vx (Nat.le_of_ble_eq_true rfl) (Nat.le_of_ble_eq_true rfl) (aw_lireturn C hr dL_body_9 hE ⟨_, rfl, hw⟩)
def w_L_body_B (K : Int32 → Sh → Gt → Prop) (p0 : Int32) (G0 : Gt) : Prop :=
  w_X10_body_B (fun v G1 => K v shB G1) (fun k G1 => (k = 0 ∧ K (-1000001) shB G1)) p0 G0
set_option maxHeartbeats 4000000 in
set_option maxRecDepth 100000 in
theorem t_L_body_B {l : Launch} (hlf : l.stackTraces = false) (p0 : Int32) (G0 : Gt) (K : Int32 → Sh → Gt → Prop) (hw : w_L_body_B K p0 G0) : CW l yL_body cL_body 3 [(0, 5, 6, 16)] 7 111 1 6 [.ref 0, .int p0] shB G0 (fun r s' G' => ∃ v, r = some (.int v) ∧ K v s' G') := by
  refine CW_of (by decide) (Nat.le_of_ble_eq_true rfl) rfl ?_
  intro p e s m args below meth c D tA ad A C hr htab
  unfold w_L_body_B at hw
  show aw p l e { frames := 7, cells := 1, slots := 6, locals := 111 } s m args below meth c 3 D tA A (vx_MQ below (QL D tA ad A shB (fun r s' G' => ∃ v, r = some (.int v) ∧ K v s' G')) noX args s 1 6 A) 0 0 ad 0 [some (.ref 0), some (.int p0), none] [] shB G0
  refine aw_aloadn C dL_body_0 rfl ?_
  refine aw_iloadn C dL_body_1 rfl ?_
  refine aw_callL C dL_body_2 (t_X10_body_B hlf p0 _ _ _ hw).toCL mM_L_90 bX10_body shB_0 rfl rfl ⟨Nat.le_of_ble_eq_true rfl, Nat.le_of_ble_eq_true rfl, Nat.le_of_ble_eq_true rfl, Nat.le_of_ble_eq_true rfl⟩ [] rfl (Nat.le_of_ble_eq_true rfl) ⟨by decide, trivial⟩ trivial (fun r ad1 s1 G1 hE hq => ?_) (fun kE ad1 s1 G1 q9 hk3 hE hq => ?_)
  · obtain ⟨rfl, v, rfl, hw⟩ := hq
    exact aw_vx (Nat.le_of_ble_eq_true rfl) (Nat.le_of_ble_eq_true rfl) (aw_lireturn C hr dL_body_5 hE ⟨_, rfl, hw⟩)
  · obtain ⟨rfl, hq⟩ := hq
    obtain ⟨rfl, hw⟩ := hq
    refine awx_catch C [] ⟨0, 5, 6, 16⟩ [] htab (fun z hz => nomatch hz) (by decide) (by decide) mC_L_16 (by decide) ?_
    refine aw_astorenR C dL_body_6 (by decide) rfl ?_
    refine aw_ldc (v := -1000001) C dL_body_7 mK_L_18 ?_
    exact aw_vx (Nat.le_of_ble_eq_true rfl) (Nat.le_of_ble_eq_true rfl) (aw_lireturn C hr dL_body_9 hE ⟨_, rfl, hw⟩)
def w_L_node_A (K : Int32 → Sh → Gt → Prop) (p0 : Int32) (p1 : Int32) (p2 : Int32) (p3 : Int32) (G0 : Gt) : Prop :=
  w_X10_node_A (fun v G1 => K v shA G1) (fun k G1 => (k = 0 ∧ K (-1000001) shA G1) ∨ (k = 1 ∧ K (-1000002) shA G1) ∨ (k = 2 ∧ K (-1000003) shA G1)) p0 p1 p2 p3 G0
set_option maxHeartbeats 4000000 in
set_option maxRecDepth 100000 in
theorem t_L_node_A {l : Launch} (hlf : l.stackTraces = false) (p0 : Int32) (p1 : Int32) (p2 : Int32) (p3 : Int32) (G0 : Gt) (K : Int32 → Sh → Gt → Prop) (hw : w_L_node_A K p0 p1 p2 p3 G0) : CW l yL_node cL_node 6 [(0, 9, 10, 16), (0, 9, 15, 19), (0, 9, 20, 22)] 8 186 1 6 [.ref 0, .int p0, .int p1, .int p2, .int p3] shA G0 (fun r s' G' => ∃ v, r = some (.int v) ∧ K v s' G') := by
  refine CW_of (by decide) (Nat.le_of_ble_eq_true rfl) rfl ?_
  intro p e s m args below meth c D tA ad A C hr htab
  unfold w_L_node_A at hw
  show aw p l e { frames := 8, cells := 1, slots := 6, locals := 186 } s m args below meth c 6 D tA A (vx_MQ below (QL D tA ad A shA (fun r s' G' => ∃ v, r = some (.int v) ∧ K v s' G')) noX args s 1 6 A) 0 0 ad 0 [some (.ref 0), some (.int p0), some (.int p1), some (.int p2), some (.int p3), none] [] shA G0
  refine aw_aloadn C dL_node_0 rfl ?_
  refine aw_iloadn C dL_node_1 rfl ?_
  refine aw_iloadn C dL_node_2 rfl ?_
  refine aw_iloadn C dL_node_3 rfl ?_
  refine aw_iload C dL_node_4 rfl ?_
  refine aw_callL C dL_node_6 (t_X10_node_A hlf p0 p1 p2 p3 _ _ _ hw).toCL mM_L_10 bX10_node shA_0 rfl rfl ⟨Nat.le_of_ble_eq_true rfl, Nat.le_of_ble_eq_true rfl, Nat.le_of_ble_eq_true rfl, Nat.le_of_ble_eq_true rfl⟩ [] rfl (Nat.le_of_ble_eq_true rfl) ⟨by decide, trivial⟩ trivial (fun r ad1 s1 G1 hE hq => ?_) (fun kE ad1 s1 G1 q9 hk3 hE hq => ?_)
  · obtain ⟨rfl, v, rfl, hw⟩ := hq
    exact aw_vx (Nat.le_of_ble_eq_true rfl) (Nat.le_of_ble_eq_true rfl) (aw_lireturn C hr dL_node_9 hE ⟨_, rfl, hw⟩)
  · obtain ⟨rfl, hq⟩ := hq
    rcases hq with ⟨rfl, hw⟩ | ⟨rfl, hw⟩ | ⟨rfl, hw⟩
    · refine awx_catch C [] ⟨0, 9, 10, 16⟩ [⟨0, 9, 15, 19⟩, ⟨0, 9, 20, 22⟩] htab (fun z hz => nomatch hz) (by decide) (by decide) mC_L_16 (by decide) ?_
      refine aw_astoreR C dL_node_10 (by decide) rfl ?_
      refine aw_ldc (v := -1000001) C dL_node_12 mK_L_18 ?_
      exact aw_vx (Nat.le_of_ble_eq_true rfl) (Nat.le_of_ble_eq_true rfl) (aw_lireturn C hr dL_node_14 hE ⟨_, rfl, hw⟩)
    · refine awx_catch C [⟨0, 9, 10, 16⟩] ⟨0, 9, 15, 19⟩ [⟨0, 9, 20, 22⟩] htab (fun z hz => ?_) (by decide) (by decide) mC_L_19 (by decide) ?_
      · simp only [List.mem_cons, List.not_mem_nil, or_false] at hz
        subst hz
        exact ⟨by decide, exN 0, mC_L_16, by decide⟩
      · refine aw_astoreR C dL_node_15 (by decide) rfl ?_
        refine aw_ldc (v := -1000002) C dL_node_17 mK_L_21 ?_
        exact aw_vx (Nat.le_of_ble_eq_true rfl) (Nat.le_of_ble_eq_true rfl) (aw_lireturn C hr dL_node_19 hE ⟨_, rfl, hw⟩)
    · refine awx_catch C [⟨0, 9, 10, 16⟩, ⟨0, 9, 15, 19⟩] ⟨0, 9, 20, 22⟩ [] htab (fun z hz => ?_) (by decide) (by decide) mC_L_22 (by decide) ?_
      · simp only [List.mem_cons, List.not_mem_nil, or_false] at hz
        rcases hz with rfl | rfl
        · exact ⟨by decide, exN 0, mC_L_16, by decide⟩
        · exact ⟨by decide, exN 1, mC_L_19, by decide⟩
      · refine aw_astoreR C dL_node_20 (by decide) rfl ?_
        refine aw_ldc (v := -1000003) C dL_node_22 mK_L_24 ?_
        exact aw_vx (Nat.le_of_ble_eq_true rfl) (Nat.le_of_ble_eq_true rfl) (aw_lireturn C hr dL_node_24 hE ⟨_, rfl, hw⟩)
def w_L_node_B (K : Int32 → Sh → Gt → Prop) (p0 : Int32) (p1 : Int32) (p2 : Int32) (p3 : Int32) (G0 : Gt) : Prop :=
  w_X10_node_B (fun v G1 => K v shB G1) (fun k G1 => (k = 0 ∧ K (-1000001) shB G1) ∨ (k = 1 ∧ K (-1000002) shB G1) ∨ (k = 2 ∧ K (-1000003) shB G1)) p0 p1 p2 p3 G0
set_option maxHeartbeats 4000000 in
set_option maxRecDepth 100000 in
theorem t_L_node_B {l : Launch} (hlf : l.stackTraces = false) (p0 : Int32) (p1 : Int32) (p2 : Int32) (p3 : Int32) (G0 : Gt) (K : Int32 → Sh → Gt → Prop) (hw : w_L_node_B K p0 p1 p2 p3 G0) : CW l yL_node cL_node 6 [(0, 9, 10, 16), (0, 9, 15, 19), (0, 9, 20, 22)] 8 186 1 6 [.ref 0, .int p0, .int p1, .int p2, .int p3] shB G0 (fun r s' G' => ∃ v, r = some (.int v) ∧ K v s' G') := by
  refine CW_of (by decide) (Nat.le_of_ble_eq_true rfl) rfl ?_
  intro p e s m args below meth c D tA ad A C hr htab
  unfold w_L_node_B at hw
  show aw p l e { frames := 8, cells := 1, slots := 6, locals := 186 } s m args below meth c 6 D tA A (vx_MQ below (QL D tA ad A shB (fun r s' G' => ∃ v, r = some (.int v) ∧ K v s' G')) noX args s 1 6 A) 0 0 ad 0 [some (.ref 0), some (.int p0), some (.int p1), some (.int p2), some (.int p3), none] [] shB G0
  refine aw_aloadn C dL_node_0 rfl ?_
  refine aw_iloadn C dL_node_1 rfl ?_
  refine aw_iloadn C dL_node_2 rfl ?_
  refine aw_iloadn C dL_node_3 rfl ?_
  refine aw_iload C dL_node_4 rfl ?_
  refine aw_callL C dL_node_6 (t_X10_node_B hlf p0 p1 p2 p3 _ _ _ hw).toCL mM_L_10 bX10_node shB_0 rfl rfl ⟨Nat.le_of_ble_eq_true rfl, Nat.le_of_ble_eq_true rfl, Nat.le_of_ble_eq_true rfl, Nat.le_of_ble_eq_true rfl⟩ [] rfl (Nat.le_of_ble_eq_true rfl) ⟨by decide, trivial⟩ trivial (fun r ad1 s1 G1 hE hq => ?_) (fun kE ad1 s1 G1 q9 hk3 hE hq => ?_)
  · obtain ⟨rfl, v, rfl, hw⟩ := hq
    exact aw_vx (Nat.le_of_ble_eq_true rfl) (Nat.le_of_ble_eq_true rfl) (aw_lireturn C hr dL_node_9 hE ⟨_, rfl, hw⟩)
  · obtain ⟨rfl, hq⟩ := hq
    rcases hq with ⟨rfl, hw⟩ | ⟨rfl, hw⟩ | ⟨rfl, hw⟩
    · refine awx_catch C [] ⟨0, 9, 10, 16⟩ [⟨0, 9, 15, 19⟩, ⟨0, 9, 20, 22⟩] htab (fun z hz => nomatch hz) (by decide) (by decide) mC_L_16 (by decide) ?_
      refine aw_astoreR C dL_node_10 (by decide) rfl ?_
      refine aw_ldc (v := -1000001) C dL_node_12 mK_L_18 ?_
      exact aw_vx (Nat.le_of_ble_eq_true rfl) (Nat.le_of_ble_eq_true rfl) (aw_lireturn C hr dL_node_14 hE ⟨_, rfl, hw⟩)
    · refine awx_catch C [⟨0, 9, 10, 16⟩] ⟨0, 9, 15, 19⟩ [⟨0, 9, 20, 22⟩] htab (fun z hz => ?_) (by decide) (by decide) mC_L_19 (by decide) ?_
      · simp only [List.mem_cons, List.not_mem_nil, or_false] at hz
        subst hz
        exact ⟨by decide, exN 0, mC_L_16, by decide⟩
      · refine aw_astoreR C dL_node_15 (by decide) rfl ?_
        refine aw_ldc (v := -1000002) C dL_node_17 mK_L_21 ?_
        exact aw_vx (Nat.le_of_ble_eq_true rfl) (Nat.le_of_ble_eq_true rfl) (aw_lireturn C hr dL_node_19 hE ⟨_, rfl, hw⟩)
    · refine awx_catch C [⟨0, 9, 10, 16⟩, ⟨0, 9, 15, 19⟩] ⟨0, 9, 20, 22⟩ [] htab (fun z hz => ?_) (by decide) (by decide) mC_L_22 (by decide) ?_
      · simp only [List.mem_cons, List.not_mem_nil, or_false] at hz
        rcases hz with rfl | rfl
        · exact ⟨by decide, exN 0, mC_L_16, by decide⟩
        · exact ⟨by decide, exN 1, mC_L_19, by decide⟩
      · refine aw_astoreR C dL_node_20 (by decide) rfl ?_
        refine aw_ldc (v := -1000003) C dL_node_22 mK_L_24 ?_
        exact aw_vx (Nat.le_of_ble_eq_true rfl) (Nat.le_of_ble_eq_true rfl) (aw_lireturn C hr dL_node_24 hE ⟨_, rfl, hw⟩)
def w_L_size_A (K : Int32 → Sh → Gt → Prop) (p0 : Int32) (G0 : Gt) : Prop :=
  w_X10_size_A (fun v G1 => K v shA G1) (fun k G1 => (k = 0 ∧ K (-1000001) shA G1)) p0 G0
set_option maxHeartbeats 4000000 in
set_option maxRecDepth 100000 in
theorem t_L_size_A {l : Launch} (hlf : l.stackTraces = false) (p0 : Int32) (G0 : Gt) (K : Int32 → Sh → Gt → Prop) (hw : w_L_size_A K p0 G0) : CW l yL_size cL_size 3 [(0, 5, 6, 16)] 7 111 1 6 [.ref 0, .int p0] shA G0 (fun r s' G' => ∃ v, r = some (.int v) ∧ K v s' G') := by
  refine CW_of (by decide) (Nat.le_of_ble_eq_true rfl) rfl ?_
  intro p e s m args below meth c D tA ad A C hr htab
  unfold w_L_size_A at hw
  show aw p l e { frames := 7, cells := 1, slots := 6, locals := 111 } s m args below meth c 3 D tA A (vx_MQ below (QL D tA ad A shA (fun r s' G' => ∃ v, r = some (.int v) ∧ K v s' G')) noX args s 1 6 A) 0 0 ad 0 [some (.ref 0), some (.int p0), none] [] shA G0
  refine aw_aloadn C dL_size_0 rfl ?_
  refine aw_iloadn C dL_size_1 rfl ?_
  refine aw_callL C dL_size_2 (t_X10_size_A hlf p0 _ _ _ hw).toCL mM_L_28 bX10_size shA_0 rfl rfl ⟨Nat.le_of_ble_eq_true rfl, Nat.le_of_ble_eq_true rfl, Nat.le_of_ble_eq_true rfl, Nat.le_of_ble_eq_true rfl⟩ [] rfl (Nat.le_of_ble_eq_true rfl) ⟨by decide, trivial⟩ trivial (fun r ad1 s1 G1 hE hq => ?_) (fun kE ad1 s1 G1 q9 hk3 hE hq => ?_)
  · obtain ⟨rfl, v, rfl, hw⟩ := hq
    exact aw_vx (Nat.le_of_ble_eq_true rfl) (Nat.le_of_ble_eq_true rfl) (aw_lireturn C hr dL_size_5 hE ⟨_, rfl, hw⟩)
  · obtain ⟨rfl, hq⟩ := hq
    obtain ⟨rfl, hw⟩ := hq
    refine awx_catch C [] ⟨0, 5, 6, 16⟩ [] htab (fun z hz => nomatch hz) (by decide) (by decide) mC_L_16 (by decide) ?_
    refine aw_astorenR C dL_size_6 (by decide) rfl ?_
    refine aw_ldc (v := -1000001) C dL_size_7 mK_L_18 ?_
    exact aw_vx (Nat.le_of_ble_eq_true rfl) (Nat.le_of_ble_eq_true rfl) (aw_lireturn C hr dL_size_9 hE ⟨_, rfl, hw⟩)
def w_L_size_B (K : Int32 → Sh → Gt → Prop) (p0 : Int32) (G0 : Gt) : Prop :=
  w_X10_size_B (fun v G1 => K v shB G1) (fun k G1 => (k = 0 ∧ K (-1000001) shB G1)) p0 G0
set_option maxHeartbeats 4000000 in
set_option maxRecDepth 100000 in
theorem t_L_size_B {l : Launch} (hlf : l.stackTraces = false) (p0 : Int32) (G0 : Gt) (K : Int32 → Sh → Gt → Prop) (hw : w_L_size_B K p0 G0) : CW l yL_size cL_size 3 [(0, 5, 6, 16)] 7 111 1 6 [.ref 0, .int p0] shB G0 (fun r s' G' => ∃ v, r = some (.int v) ∧ K v s' G') := by
  refine CW_of (by decide) (Nat.le_of_ble_eq_true rfl) rfl ?_
  intro p e s m args below meth c D tA ad A C hr htab
  unfold w_L_size_B at hw
  show aw p l e { frames := 7, cells := 1, slots := 6, locals := 111 } s m args below meth c 3 D tA A (vx_MQ below (QL D tA ad A shB (fun r s' G' => ∃ v, r = some (.int v) ∧ K v s' G')) noX args s 1 6 A) 0 0 ad 0 [some (.ref 0), some (.int p0), none] [] shB G0
  refine aw_aloadn C dL_size_0 rfl ?_
  refine aw_iloadn C dL_size_1 rfl ?_
  refine aw_callL C dL_size_2 (t_X10_size_B hlf p0 _ _ _ hw).toCL mM_L_28 bX10_size shB_0 rfl rfl ⟨Nat.le_of_ble_eq_true rfl, Nat.le_of_ble_eq_true rfl, Nat.le_of_ble_eq_true rfl, Nat.le_of_ble_eq_true rfl⟩ [] rfl (Nat.le_of_ble_eq_true rfl) ⟨by decide, trivial⟩ trivial (fun r ad1 s1 G1 hE hq => ?_) (fun kE ad1 s1 G1 q9 hk3 hE hq => ?_)
  · obtain ⟨rfl, v, rfl, hw⟩ := hq
    exact aw_vx (Nat.le_of_ble_eq_true rfl) (Nat.le_of_ble_eq_true rfl) (aw_lireturn C hr dL_size_5 hE ⟨_, rfl, hw⟩)
  · obtain ⟨rfl, hq⟩ := hq
    obtain ⟨rfl, hw⟩ := hq
    refine awx_catch C [] ⟨0, 5, 6, 16⟩ [] htab (fun z hz => nomatch hz) (by decide) (by decide) mC_L_16 (by decide) ?_
    refine aw_astorenR C dL_size_6 (by decide) rfl ?_
    refine aw_ldc (v := -1000001) C dL_size_7 mK_L_18 ?_
    exact aw_vx (Nat.le_of_ble_eq_true rfl) (Nat.le_of_ble_eq_true rfl) (aw_lireturn C hr dL_size_9 hE ⟨_, rfl, hw⟩)
def w_L_traceAt_A (K : Int32 → Sh → Gt → Prop) (p0 : Int32) (G0 : Gt) : Prop :=
  w_X10_traceAt_A (fun v G1 => K v shA G1) (fun k G1 => (k = 0 ∧ K (-1000001) shA G1)) p0 G0
set_option maxHeartbeats 4000000 in
set_option maxRecDepth 100000 in
theorem t_L_traceAt_A {l : Launch} (hlf : l.stackTraces = false) (p0 : Int32) (G0 : Gt) (K : Int32 → Sh → Gt → Prop) (hw : w_L_traceAt_A K p0 G0) : CW l yL_traceAt cL_traceAt 3 [(0, 5, 6, 16)] 7 111 1 6 [.ref 0, .int p0] shA G0 (fun r s' G' => ∃ v, r = some (.int v) ∧ K v s' G') := by
  refine CW_of (by decide) (Nat.le_of_ble_eq_true rfl) rfl ?_
  intro p e s m args below meth c D tA ad A C hr htab
  unfold w_L_traceAt_A at hw
  show aw p l e { frames := 7, cells := 1, slots := 6, locals := 111 } s m args below meth c 3 D tA A (vx_MQ below (QL D tA ad A shA (fun r s' G' => ∃ v, r = some (.int v) ∧ K v s' G')) noX args s 1 6 A) 0 0 ad 0 [some (.ref 0), some (.int p0), none] [] shA G0
  refine aw_aloadn C dL_traceAt_0 rfl ?_
  refine aw_iloadn C dL_traceAt_1 rfl ?_
  refine aw_callL C dL_traceAt_2 (t_X10_traceAt_A hlf p0 _ _ _ hw).toCL mM_L_69 bX10_traceAt shA_0 rfl rfl ⟨Nat.le_of_ble_eq_true rfl, Nat.le_of_ble_eq_true rfl, Nat.le_of_ble_eq_true rfl, Nat.le_of_ble_eq_true rfl⟩ [] rfl (Nat.le_of_ble_eq_true rfl) ⟨by decide, trivial⟩ trivial (fun r ad1 s1 G1 hE hq => ?_) (fun kE ad1 s1 G1 q9 hk3 hE hq => ?_)
  · obtain ⟨rfl, v, rfl, hw⟩ := hq
    exact aw_vx (Nat.le_of_ble_eq_true rfl) (Nat.le_of_ble_eq_true rfl) (aw_lireturn C hr dL_traceAt_5 hE ⟨_, rfl, hw⟩)
  · obtain ⟨rfl, hq⟩ := hq
    obtain ⟨rfl, hw⟩ := hq
    refine awx_catch C [] ⟨0, 5, 6, 16⟩ [] htab (fun z hz => nomatch hz) (by decide) (by decide) mC_L_16 (by decide) ?_
    refine aw_astorenR C dL_traceAt_6 (by decide) rfl ?_
    refine aw_ldc (v := -1000001) C dL_traceAt_7 mK_L_18 ?_
    exact aw_vx (Nat.le_of_ble_eq_true rfl) (Nat.le_of_ble_eq_true rfl) (aw_lireturn C hr dL_traceAt_9 hE ⟨_, rfl, hw⟩)
def w_L_traceAt_B (K : Int32 → Sh → Gt → Prop) (p0 : Int32) (G0 : Gt) : Prop :=
  w_X10_traceAt_B (fun v G1 => K v shB G1) (fun k G1 => (k = 0 ∧ K (-1000001) shB G1)) p0 G0
set_option maxHeartbeats 4000000 in
set_option maxRecDepth 100000 in
theorem t_L_traceAt_B {l : Launch} (hlf : l.stackTraces = false) (p0 : Int32) (G0 : Gt) (K : Int32 → Sh → Gt → Prop) (hw : w_L_traceAt_B K p0 G0) : CW l yL_traceAt cL_traceAt 3 [(0, 5, 6, 16)] 7 111 1 6 [.ref 0, .int p0] shB G0 (fun r s' G' => ∃ v, r = some (.int v) ∧ K v s' G') := by
  refine CW_of (by decide) (Nat.le_of_ble_eq_true rfl) rfl ?_
  intro p e s m args below meth c D tA ad A C hr htab
  unfold w_L_traceAt_B at hw
  show aw p l e { frames := 7, cells := 1, slots := 6, locals := 111 } s m args below meth c 3 D tA A (vx_MQ below (QL D tA ad A shB (fun r s' G' => ∃ v, r = some (.int v) ∧ K v s' G')) noX args s 1 6 A) 0 0 ad 0 [some (.ref 0), some (.int p0), none] [] shB G0
  refine aw_aloadn C dL_traceAt_0 rfl ?_
  refine aw_iloadn C dL_traceAt_1 rfl ?_
  refine aw_callL C dL_traceAt_2 (t_X10_traceAt_B hlf p0 _ _ _ hw).toCL mM_L_69 bX10_traceAt shB_0 rfl rfl ⟨Nat.le_of_ble_eq_true rfl, Nat.le_of_ble_eq_true rfl, Nat.le_of_ble_eq_true rfl, Nat.le_of_ble_eq_true rfl⟩ [] rfl (Nat.le_of_ble_eq_true rfl) ⟨by decide, trivial⟩ trivial (fun r ad1 s1 G1 hE hq => ?_) (fun kE ad1 s1 G1 q9 hk3 hE hq => ?_)
  · obtain ⟨rfl, v, rfl, hw⟩ := hq
    exact aw_vx (Nat.le_of_ble_eq_true rfl) (Nat.le_of_ble_eq_true rfl) (aw_lireturn C hr dL_traceAt_5 hE ⟨_, rfl, hw⟩)
  · obtain ⟨rfl, hq⟩ := hq
    obtain ⟨rfl, hw⟩ := hq
    refine awx_catch C [] ⟨0, 5, 6, 16⟩ [] htab (fun z hz => nomatch hz) (by decide) (by decide) mC_L_16 (by decide) ?_
    refine aw_astorenR C dL_traceAt_6 (by decide) rfl ?_
    refine aw_ldc (v := -1000001) C dL_traceAt_7 mK_L_18 ?_
    exact aw_vx (Nat.le_of_ble_eq_true rfl) (Nat.le_of_ble_eq_true rfl) (aw_lireturn C hr dL_traceAt_9 hE ⟨_, rfl, hw⟩)
def w_L_register_A (K : Int32 → Sh → Gt → Prop) (p0 : Int32) (G0 : Gt) : Prop :=
  w_X10_register_A (fun v G1 => K v shA G1) (fun k G1 => (k = 0 ∧ K (-1000001) shA G1)) p0 G0
set_option maxHeartbeats 4000000 in
set_option maxRecDepth 100000 in
theorem t_L_register_A {l : Launch} (hlf : l.stackTraces = false) (p0 : Int32) (G0 : Gt) (K : Int32 → Sh → Gt → Prop) (hw : w_L_register_A K p0 G0) : CW l yL_register cL_register 3 [(0, 5, 6, 16)] 7 111 1 6 [.ref 0, .int p0] shA G0 (fun r s' G' => ∃ v, r = some (.int v) ∧ K v s' G') := by
  refine CW_of (by decide) (Nat.le_of_ble_eq_true rfl) rfl ?_
  intro p e s m args below meth c D tA ad A C hr htab
  unfold w_L_register_A at hw
  show aw p l e { frames := 7, cells := 1, slots := 6, locals := 111 } s m args below meth c 3 D tA A (vx_MQ below (QL D tA ad A shA (fun r s' G' => ∃ v, r = some (.int v) ∧ K v s' G')) noX args s 1 6 A) 0 0 ad 0 [some (.ref 0), some (.int p0), none] [] shA G0
  refine aw_aloadn C dL_register_0 rfl ?_
  refine aw_iloadn C dL_register_1 rfl ?_
  refine aw_callL C dL_register_2 (t_X10_register_A hlf p0 _ _ _ hw).toCL mM_L_87 bX10_register shA_0 rfl rfl ⟨Nat.le_of_ble_eq_true rfl, Nat.le_of_ble_eq_true rfl, Nat.le_of_ble_eq_true rfl, Nat.le_of_ble_eq_true rfl⟩ [] rfl (Nat.le_of_ble_eq_true rfl) ⟨by decide, trivial⟩ trivial (fun r ad1 s1 G1 hE hq => ?_) (fun kE ad1 s1 G1 q9 hk3 hE hq => ?_)
  · obtain ⟨rfl, v, rfl, hw⟩ := hq
    exact aw_vx (Nat.le_of_ble_eq_true rfl) (Nat.le_of_ble_eq_true rfl) (aw_lireturn C hr dL_register_5 hE ⟨_, rfl, hw⟩)
  · obtain ⟨rfl, hq⟩ := hq
    obtain ⟨rfl, hw⟩ := hq
    refine awx_catch C [] ⟨0, 5, 6, 16⟩ [] htab (fun z hz => nomatch hz) (by decide) (by decide) mC_L_16 (by decide) ?_
    refine aw_astorenR C dL_register_6 (by decide) rfl ?_
    refine aw_ldc (v := -1000001) C dL_register_7 mK_L_18 ?_
    exact aw_vx (Nat.le_of_ble_eq_true rfl) (Nat.le_of_ble_eq_true rfl) (aw_lireturn C hr dL_register_9 hE ⟨_, rfl, hw⟩)
def w_L_register_B (K : Int32 → Sh → Gt → Prop) (p0 : Int32) (G0 : Gt) : Prop :=
  w_X10_register_B (fun v G1 => K v shB G1) (fun k G1 => (k = 0 ∧ K (-1000001) shB G1)) p0 G0
set_option maxHeartbeats 4000000 in
set_option maxRecDepth 100000 in
theorem t_L_register_B {l : Launch} (hlf : l.stackTraces = false) (p0 : Int32) (G0 : Gt) (K : Int32 → Sh → Gt → Prop) (hw : w_L_register_B K p0 G0) : CW l yL_register cL_register 3 [(0, 5, 6, 16)] 7 111 1 6 [.ref 0, .int p0] shB G0 (fun r s' G' => ∃ v, r = some (.int v) ∧ K v s' G') := by
  refine CW_of (by decide) (Nat.le_of_ble_eq_true rfl) rfl ?_
  intro p e s m args below meth c D tA ad A C hr htab
  unfold w_L_register_B at hw
  show aw p l e { frames := 7, cells := 1, slots := 6, locals := 111 } s m args below meth c 3 D tA A (vx_MQ below (QL D tA ad A shB (fun r s' G' => ∃ v, r = some (.int v) ∧ K v s' G')) noX args s 1 6 A) 0 0 ad 0 [some (.ref 0), some (.int p0), none] [] shB G0
  refine aw_aloadn C dL_register_0 rfl ?_
  refine aw_iloadn C dL_register_1 rfl ?_
  refine aw_callL C dL_register_2 (t_X10_register_B hlf p0 _ _ _ hw).toCL mM_L_87 bX10_register shB_0 rfl rfl ⟨Nat.le_of_ble_eq_true rfl, Nat.le_of_ble_eq_true rfl, Nat.le_of_ble_eq_true rfl, Nat.le_of_ble_eq_true rfl⟩ [] rfl (Nat.le_of_ble_eq_true rfl) ⟨by decide, trivial⟩ trivial (fun r ad1 s1 G1 hE hq => ?_) (fun kE ad1 s1 G1 q9 hk3 hE hq => ?_)
  · obtain ⟨rfl, v, rfl, hw⟩ := hq
    exact aw_vx (Nat.le_of_ble_eq_true rfl) (Nat.le_of_ble_eq_true rfl) (aw_lireturn C hr dL_register_5 hE ⟨_, rfl, hw⟩)
  · obtain ⟨rfl, hq⟩ := hq
    obtain ⟨rfl, hw⟩ := hq
    refine awx_catch C [] ⟨0, 5, 6, 16⟩ [] htab (fun z hz => nomatch hz) (by decide) (by decide) mC_L_16 (by decide) ?_
    refine aw_astorenR C dL_register_6 (by decide) rfl ?_
    refine aw_ldc (v := -1000001) C dL_register_7 mK_L_18 ?_
    exact aw_vx (Nat.le_of_ble_eq_true rfl) (Nat.le_of_ble_eq_true rfl) (aw_lireturn C hr dL_register_9 hE ⟨_, rfl, hw⟩)
def w_L_tried_A (K : Int32 → Sh → Gt → Prop) (p0 : Int32) (G0 : Gt) : Prop :=
  w_X10_tried_A (fun v G1 => K v shB G1) (fun k G1 => (k = 0 ∧ K (-1000001) shA G1) ∨ (k = 2 ∧ K (-1000003) shA G1)) p0 G0
set_option maxHeartbeats 4000000 in
set_option maxRecDepth 100000 in
theorem t_L_tried_A {l : Launch} (hlf : l.stackTraces = false) (p0 : Int32) (G0 : Gt) (K : Int32 → Sh → Gt → Prop) (hw : w_L_tried_A K p0 G0) : CW l yL_tried cL_tried 3 [(0, 5, 6, 16), (0, 5, 10, 22)] 8 223 61 20705 [.ref 0, .int p0] shA G0 (fun r s' G' => ∃ v, r = some (.int v) ∧ K v s' G') := by
  refine CW_of (by decide) (Nat.le_of_ble_eq_true rfl) rfl ?_
  intro p e s m args below meth c D tA ad A C hr htab
  unfold w_L_tried_A at hw
  show aw p l e { frames := 8, cells := 61, slots := 20705, locals := 223 } s m args below meth c 3 D tA A (vx_MQ below (QL D tA ad A shA (fun r s' G' => ∃ v, r = some (.int v) ∧ K v s' G')) noX args s 61 20705 A) 0 0 ad 0 [some (.ref 0), some (.int p0), none] [] shA G0
  refine aw_aloadn C dL_tried_0 rfl ?_
  refine aw_iloadn C dL_tried_1 rfl ?_
  refine aw_callL C dL_tried_2 (t_X10_tried_A hlf p0 _ _ _ hw) mM_L_45 bX10_tried shA_0 rfl rfl ⟨Nat.le_of_ble_eq_true rfl, Nat.le_of_ble_eq_true rfl, Nat.le_of_ble_eq_true rfl, Nat.le_of_ble_eq_true rfl⟩ [] rfl (Nat.le_of_ble_eq_true rfl) ⟨by decide, trivial⟩ trivial (fun r ad1 s1 G1 hE hq => ?_) (fun kE ad1 s1 G1 q9 hk3 hE hq => ?_)
  · obtain ⟨rfl, v, rfl, hw⟩ := hq
    exact aw_vx (Nat.le_of_ble_eq_true rfl) (Nat.le_of_ble_eq_true rfl) (aw_lireturn C hr dL_tried_5 hE ⟨_, rfl, hw⟩)
  · obtain ⟨rfl, hq⟩ := hq
    rcases hq with ⟨rfl, hw⟩ | ⟨rfl, hw⟩
    · refine awx_catch C [] ⟨0, 5, 6, 16⟩ [⟨0, 5, 10, 22⟩] htab (fun z hz => nomatch hz) (by decide) (by decide) mC_L_16 (by decide) ?_
      refine aw_astorenR C dL_tried_6 (by decide) rfl ?_
      refine aw_ldc (v := -1000001) C dL_tried_7 mK_L_18 ?_
      exact aw_vx (Nat.le_of_ble_eq_true rfl) (Nat.le_of_ble_eq_true rfl) (aw_lireturn C hr dL_tried_9 hE ⟨_, rfl, hw⟩)
    · refine awx_catch C [⟨0, 5, 6, 16⟩] ⟨0, 5, 10, 22⟩ [] htab (fun z hz => ?_) (by decide) (by decide) mC_L_22 (by decide) ?_
      · simp only [List.mem_cons, List.not_mem_nil, or_false] at hz
        subst hz
        exact ⟨by decide, exN 0, mC_L_16, by decide⟩
      · refine aw_astorenR C dL_tried_10 (by decide) rfl ?_
        refine aw_ldc (v := -1000003) C dL_tried_11 mK_L_24 ?_
        exact aw_vx (Nat.le_of_ble_eq_true rfl) (Nat.le_of_ble_eq_true rfl) (aw_lireturn C hr dL_tried_13 hE ⟨_, rfl, hw⟩)
def w_L_tried_B (K : Int32 → Sh → Gt → Prop) (p0 : Int32) (G0 : Gt) : Prop :=
  w_X10_tried_B (fun v G1 => K v shB G1) (fun k G1 => (k = 0 ∧ K (-1000001) shB G1) ∨ (k = 2 ∧ K (-1000003) shB G1)) p0 G0
set_option maxHeartbeats 4000000 in
set_option maxRecDepth 100000 in
theorem t_L_tried_B {l : Launch} (hlf : l.stackTraces = false) (p0 : Int32) (G0 : Gt) (K : Int32 → Sh → Gt → Prop) (hw : w_L_tried_B K p0 G0) : CW l yL_tried cL_tried 3 [(0, 5, 6, 16), (0, 5, 10, 22)] 8 196 1 6 [.ref 0, .int p0] shB G0 (fun r s' G' => ∃ v, r = some (.int v) ∧ K v s' G') := by
  refine CW_of (by decide) (Nat.le_of_ble_eq_true rfl) rfl ?_
  intro p e s m args below meth c D tA ad A C hr htab
  unfold w_L_tried_B at hw
  show aw p l e { frames := 8, cells := 1, slots := 6, locals := 196 } s m args below meth c 3 D tA A (vx_MQ below (QL D tA ad A shB (fun r s' G' => ∃ v, r = some (.int v) ∧ K v s' G')) noX args s 1 6 A) 0 0 ad 0 [some (.ref 0), some (.int p0), none] [] shB G0
  refine aw_aloadn C dL_tried_0 rfl ?_
  refine aw_iloadn C dL_tried_1 rfl ?_
  refine aw_callL C dL_tried_2 (t_X10_tried_B hlf p0 _ _ _ hw).toCL mM_L_45 bX10_tried shB_0 rfl rfl ⟨Nat.le_of_ble_eq_true rfl, Nat.le_of_ble_eq_true rfl, Nat.le_of_ble_eq_true rfl, Nat.le_of_ble_eq_true rfl⟩ [] rfl (Nat.le_of_ble_eq_true rfl) ⟨by decide, trivial⟩ trivial (fun r ad1 s1 G1 hE hq => ?_) (fun kE ad1 s1 G1 q9 hk3 hE hq => ?_)
  · obtain ⟨rfl, v, rfl, hw⟩ := hq
    exact aw_vx (Nat.le_of_ble_eq_true rfl) (Nat.le_of_ble_eq_true rfl) (aw_lireturn C hr dL_tried_5 hE ⟨_, rfl, hw⟩)
  · obtain ⟨rfl, hq⟩ := hq
    rcases hq with ⟨rfl, hw⟩ | ⟨rfl, hw⟩
    · refine awx_catch C [] ⟨0, 5, 6, 16⟩ [⟨0, 5, 10, 22⟩] htab (fun z hz => nomatch hz) (by decide) (by decide) mC_L_16 (by decide) ?_
      refine aw_astorenR C dL_tried_6 (by decide) rfl ?_
      refine aw_ldc (v := -1000001) C dL_tried_7 mK_L_18 ?_
      exact aw_vx (Nat.le_of_ble_eq_true rfl) (Nat.le_of_ble_eq_true rfl) (aw_lireturn C hr dL_tried_9 hE ⟨_, rfl, hw⟩)
    · refine awx_catch C [⟨0, 5, 6, 16⟩] ⟨0, 5, 10, 22⟩ [] htab (fun z hz => ?_) (by decide) (by decide) mC_L_22 (by decide) ?_
      · simp only [List.mem_cons, List.not_mem_nil, or_false] at hz
        subst hz
        exact ⟨by decide, exN 0, mC_L_16, by decide⟩
      · refine aw_astorenR C dL_tried_10 (by decide) rfl ?_
        refine aw_ldc (v := -1000003) C dL_tried_11 mK_L_24 ?_
        exact aw_vx (Nat.le_of_ble_eq_true rfl) (Nat.le_of_ble_eq_true rfl) (aw_lireturn C hr dL_tried_13 hE ⟨_, rfl, hw⟩)
def w_L_triedSteps_A (K : Int32 → Sh → Gt → Prop) (p0 : Int32) (G0 : Gt) : Prop :=
  w_X10_triedSteps_A (fun v G1 => K v shB G1) (fun k G1 => (k = 0 ∧ K (-1000001) shA G1) ∨ (k = 2 ∧ K (-1000003) shA G1)) p0 G0
set_option maxHeartbeats 4000000 in
set_option maxRecDepth 100000 in
theorem t_L_triedSteps_A {l : Launch} (hlf : l.stackTraces = false) (p0 : Int32) (G0 : Gt) (K : Int32 → Sh → Gt → Prop) (hw : w_L_triedSteps_A K p0 G0) : CW l yL_triedSteps cL_triedSteps 3 [(0, 5, 6, 16), (0, 5, 10, 22)] 8 223 61 20705 [.ref 0, .int p0] shA G0 (fun r s' G' => ∃ v, r = some (.int v) ∧ K v s' G') := by
  refine CW_of (by decide) (Nat.le_of_ble_eq_true rfl) rfl ?_
  intro p e s m args below meth c D tA ad A C hr htab
  unfold w_L_triedSteps_A at hw
  show aw p l e { frames := 8, cells := 61, slots := 20705, locals := 223 } s m args below meth c 3 D tA A (vx_MQ below (QL D tA ad A shA (fun r s' G' => ∃ v, r = some (.int v) ∧ K v s' G')) noX args s 61 20705 A) 0 0 ad 0 [some (.ref 0), some (.int p0), none] [] shA G0
  refine aw_aloadn C dL_triedSteps_0 rfl ?_
  refine aw_iloadn C dL_triedSteps_1 rfl ?_
  refine aw_callL C dL_triedSteps_2 (t_X10_triedSteps_A hlf p0 _ _ _ hw) mM_L_48 bX10_triedSteps shA_0 rfl rfl ⟨Nat.le_of_ble_eq_true rfl, Nat.le_of_ble_eq_true rfl, Nat.le_of_ble_eq_true rfl, Nat.le_of_ble_eq_true rfl⟩ [] rfl (Nat.le_of_ble_eq_true rfl) ⟨by decide, trivial⟩ trivial (fun r ad1 s1 G1 hE hq => ?_) (fun kE ad1 s1 G1 q9 hk3 hE hq => ?_)
  · obtain ⟨rfl, v, rfl, hw⟩ := hq
    exact aw_vx (Nat.le_of_ble_eq_true rfl) (Nat.le_of_ble_eq_true rfl) (aw_lireturn C hr dL_triedSteps_5 hE ⟨_, rfl, hw⟩)
  · obtain ⟨rfl, hq⟩ := hq
    rcases hq with ⟨rfl, hw⟩ | ⟨rfl, hw⟩
    · refine awx_catch C [] ⟨0, 5, 6, 16⟩ [⟨0, 5, 10, 22⟩] htab (fun z hz => nomatch hz) (by decide) (by decide) mC_L_16 (by decide) ?_
      refine aw_astorenR C dL_triedSteps_6 (by decide) rfl ?_
      refine aw_ldc (v := -1000001) C dL_triedSteps_7 mK_L_18 ?_
      exact aw_vx (Nat.le_of_ble_eq_true rfl) (Nat.le_of_ble_eq_true rfl) (aw_lireturn C hr dL_triedSteps_9 hE ⟨_, rfl, hw⟩)
    · refine awx_catch C [⟨0, 5, 6, 16⟩] ⟨0, 5, 10, 22⟩ [] htab (fun z hz => ?_) (by decide) (by decide) mC_L_22 (by decide) ?_
      · simp only [List.mem_cons, List.not_mem_nil, or_false] at hz
        subst hz
        exact ⟨by decide, exN 0, mC_L_16, by decide⟩
      · refine aw_astorenR C dL_triedSteps_10 (by decide) rfl ?_
        refine aw_ldc (v := -1000003) C dL_triedSteps_11 mK_L_24 ?_
        exact aw_vx (Nat.le_of_ble_eq_true rfl) (Nat.le_of_ble_eq_true rfl) (aw_lireturn C hr dL_triedSteps_13 hE ⟨_, rfl, hw⟩)
def w_L_triedSteps_B (K : Int32 → Sh → Gt → Prop) (p0 : Int32) (G0 : Gt) : Prop :=
  w_X10_triedSteps_B (fun v G1 => K v shB G1) (fun k G1 => (k = 0 ∧ K (-1000001) shB G1) ∨ (k = 2 ∧ K (-1000003) shB G1)) p0 G0
set_option maxHeartbeats 4000000 in
set_option maxRecDepth 100000 in
theorem t_L_triedSteps_B {l : Launch} (hlf : l.stackTraces = false) (p0 : Int32) (G0 : Gt) (K : Int32 → Sh → Gt → Prop) (hw : w_L_triedSteps_B K p0 G0) : CW l yL_triedSteps cL_triedSteps 3 [(0, 5, 6, 16), (0, 5, 10, 22)] 8 196 1 6 [.ref 0, .int p0] shB G0 (fun r s' G' => ∃ v, r = some (.int v) ∧ K v s' G') := by
  refine CW_of (by decide) (Nat.le_of_ble_eq_true rfl) rfl ?_
  intro p e s m args below meth c D tA ad A C hr htab
  unfold w_L_triedSteps_B at hw
  show aw p l e { frames := 8, cells := 1, slots := 6, locals := 196 } s m args below meth c 3 D tA A (vx_MQ below (QL D tA ad A shB (fun r s' G' => ∃ v, r = some (.int v) ∧ K v s' G')) noX args s 1 6 A) 0 0 ad 0 [some (.ref 0), some (.int p0), none] [] shB G0
  refine aw_aloadn C dL_triedSteps_0 rfl ?_
  refine aw_iloadn C dL_triedSteps_1 rfl ?_
  refine aw_callL C dL_triedSteps_2 (t_X10_triedSteps_B hlf p0 _ _ _ hw).toCL mM_L_48 bX10_triedSteps shB_0 rfl rfl ⟨Nat.le_of_ble_eq_true rfl, Nat.le_of_ble_eq_true rfl, Nat.le_of_ble_eq_true rfl, Nat.le_of_ble_eq_true rfl⟩ [] rfl (Nat.le_of_ble_eq_true rfl) ⟨by decide, trivial⟩ trivial (fun r ad1 s1 G1 hE hq => ?_) (fun kE ad1 s1 G1 q9 hk3 hE hq => ?_)
  · obtain ⟨rfl, v, rfl, hw⟩ := hq
    exact aw_vx (Nat.le_of_ble_eq_true rfl) (Nat.le_of_ble_eq_true rfl) (aw_lireturn C hr dL_triedSteps_5 hE ⟨_, rfl, hw⟩)
  · obtain ⟨rfl, hq⟩ := hq
    rcases hq with ⟨rfl, hw⟩ | ⟨rfl, hw⟩
    · refine awx_catch C [] ⟨0, 5, 6, 16⟩ [⟨0, 5, 10, 22⟩] htab (fun z hz => nomatch hz) (by decide) (by decide) mC_L_16 (by decide) ?_
      refine aw_astorenR C dL_triedSteps_6 (by decide) rfl ?_
      refine aw_ldc (v := -1000001) C dL_triedSteps_7 mK_L_18 ?_
      exact aw_vx (Nat.le_of_ble_eq_true rfl) (Nat.le_of_ble_eq_true rfl) (aw_lireturn C hr dL_triedSteps_9 hE ⟨_, rfl, hw⟩)
    · refine awx_catch C [⟨0, 5, 6, 16⟩] ⟨0, 5, 10, 22⟩ [] htab (fun z hz => ?_) (by decide) (by decide) mC_L_22 (by decide) ?_
      · simp only [List.mem_cons, List.not_mem_nil, or_false] at hz
        subst hz
        exact ⟨by decide, exN 0, mC_L_16, by decide⟩
      · refine aw_astorenR C dL_triedSteps_10 (by decide) rfl ?_
        refine aw_ldc (v := -1000003) C dL_triedSteps_11 mK_L_24 ?_
        exact aw_vx (Nat.le_of_ble_eq_true rfl) (Nat.le_of_ble_eq_true rfl) (aw_lireturn C hr dL_triedSteps_13 hE ⟨_, rfl, hw⟩)
def w_L_run_A (K : Int32 → Sh → Gt → Prop) (p0 : Int32) (G0 : Gt) : Prop :=
  w_X10_run_A (fun v G1 => K v shB G1) (fun k G1 => (k = 0 ∧ K (-1000001) shA G1) ∨ (k = 2 ∧ K (-1000003) shA G1)) p0 G0
set_option maxHeartbeats 4000000 in
set_option maxRecDepth 100000 in
theorem t_L_run_A {l : Launch} (hlf : l.stackTraces = false) (p0 : Int32) (G0 : Gt) (K : Int32 → Sh → Gt → Prop) (hw : w_L_run_A K p0 G0) : CW l yL_run cL_run 3 [(0, 5, 6, 16), (0, 5, 10, 22)] 7 202 61 20705 [.ref 0, .int p0] shA G0 (fun r s' G' => ∃ v, r = some (.int v) ∧ K v s' G') := by
  refine CW_of (by decide) (Nat.le_of_ble_eq_true rfl) rfl ?_
  intro p e s m args below meth c D tA ad A C hr htab
  unfold w_L_run_A at hw
  show aw p l e { frames := 7, cells := 61, slots := 20705, locals := 202 } s m args below meth c 3 D tA A (vx_MQ below (QL D tA ad A shA (fun r s' G' => ∃ v, r = some (.int v) ∧ K v s' G')) noX args s 61 20705 A) 0 0 ad 0 [some (.ref 0), some (.int p0), none] [] shA G0
  refine aw_aloadn C dL_run_0 rfl ?_
  refine aw_iloadn C dL_run_1 rfl ?_
  refine aw_callL C dL_run_2 (t_X10_run_A hlf p0 _ _ _ hw) mM_L_42 bX10_run shA_0 rfl rfl ⟨Nat.le_of_ble_eq_true rfl, Nat.le_of_ble_eq_true rfl, Nat.le_of_ble_eq_true rfl, Nat.le_of_ble_eq_true rfl⟩ [] rfl (Nat.le_of_ble_eq_true rfl) ⟨by decide, trivial⟩ trivial (fun r ad1 s1 G1 hE hq => ?_) (fun kE ad1 s1 G1 q9 hk3 hE hq => ?_)
  · obtain ⟨rfl, v, rfl, hw⟩ := hq
    exact aw_vx (Nat.le_of_ble_eq_true rfl) (Nat.le_of_ble_eq_true rfl) (aw_lireturn C hr dL_run_5 hE ⟨_, rfl, hw⟩)
  · obtain ⟨rfl, hq⟩ := hq
    rcases hq with ⟨rfl, hw⟩ | ⟨rfl, hw⟩
    · refine awx_catch C [] ⟨0, 5, 6, 16⟩ [⟨0, 5, 10, 22⟩] htab (fun z hz => nomatch hz) (by decide) (by decide) mC_L_16 (by decide) ?_
      refine aw_astorenR C dL_run_6 (by decide) rfl ?_
      refine aw_ldc (v := -1000001) C dL_run_7 mK_L_18 ?_
      exact aw_vx (Nat.le_of_ble_eq_true rfl) (Nat.le_of_ble_eq_true rfl) (aw_lireturn C hr dL_run_9 hE ⟨_, rfl, hw⟩)
    · refine awx_catch C [⟨0, 5, 6, 16⟩] ⟨0, 5, 10, 22⟩ [] htab (fun z hz => ?_) (by decide) (by decide) mC_L_22 (by decide) ?_
      · simp only [List.mem_cons, List.not_mem_nil, or_false] at hz
        subst hz
        exact ⟨by decide, exN 0, mC_L_16, by decide⟩
      · refine aw_astorenR C dL_run_10 (by decide) rfl ?_
        refine aw_ldc (v := -1000003) C dL_run_11 mK_L_24 ?_
        exact aw_vx (Nat.le_of_ble_eq_true rfl) (Nat.le_of_ble_eq_true rfl) (aw_lireturn C hr dL_run_13 hE ⟨_, rfl, hw⟩)
def w_L_run_B (K : Int32 → Sh → Gt → Prop) (p0 : Int32) (G0 : Gt) : Prop :=
  w_X10_run_B (fun v G1 => K v shB G1) (fun k G1 => (k = 0 ∧ K (-1000001) shB G1) ∨ (k = 2 ∧ K (-1000003) shB G1)) p0 G0
set_option maxHeartbeats 4000000 in
set_option maxRecDepth 100000 in
theorem t_L_run_B {l : Launch} (hlf : l.stackTraces = false) (p0 : Int32) (G0 : Gt) (K : Int32 → Sh → Gt → Prop) (hw : w_L_run_B K p0 G0) : CW l yL_run cL_run 3 [(0, 5, 6, 16), (0, 5, 10, 22)] 7 175 1 6 [.ref 0, .int p0] shB G0 (fun r s' G' => ∃ v, r = some (.int v) ∧ K v s' G') := by
  refine CW_of (by decide) (Nat.le_of_ble_eq_true rfl) rfl ?_
  intro p e s m args below meth c D tA ad A C hr htab
  unfold w_L_run_B at hw
  show aw p l e { frames := 7, cells := 1, slots := 6, locals := 175 } s m args below meth c 3 D tA A (vx_MQ below (QL D tA ad A shB (fun r s' G' => ∃ v, r = some (.int v) ∧ K v s' G')) noX args s 1 6 A) 0 0 ad 0 [some (.ref 0), some (.int p0), none] [] shB G0
  refine aw_aloadn C dL_run_0 rfl ?_
  refine aw_iloadn C dL_run_1 rfl ?_
  refine aw_callL C dL_run_2 (t_X10_run_B hlf p0 _ _ _ hw).toCL mM_L_42 bX10_run shB_0 rfl rfl ⟨Nat.le_of_ble_eq_true rfl, Nat.le_of_ble_eq_true rfl, Nat.le_of_ble_eq_true rfl, Nat.le_of_ble_eq_true rfl⟩ [] rfl (Nat.le_of_ble_eq_true rfl) ⟨by decide, trivial⟩ trivial (fun r ad1 s1 G1 hE hq => ?_) (fun kE ad1 s1 G1 q9 hk3 hE hq => ?_)
  · obtain ⟨rfl, v, rfl, hw⟩ := hq
    exact aw_vx (Nat.le_of_ble_eq_true rfl) (Nat.le_of_ble_eq_true rfl) (aw_lireturn C hr dL_run_5 hE ⟨_, rfl, hw⟩)
  · obtain ⟨rfl, hq⟩ := hq
    rcases hq with ⟨rfl, hw⟩ | ⟨rfl, hw⟩
    · refine awx_catch C [] ⟨0, 5, 6, 16⟩ [⟨0, 5, 10, 22⟩] htab (fun z hz => nomatch hz) (by decide) (by decide) mC_L_16 (by decide) ?_
      refine aw_astorenR C dL_run_6 (by decide) rfl ?_
      refine aw_ldc (v := -1000001) C dL_run_7 mK_L_18 ?_
      exact aw_vx (Nat.le_of_ble_eq_true rfl) (Nat.le_of_ble_eq_true rfl) (aw_lireturn C hr dL_run_9 hE ⟨_, rfl, hw⟩)
    · refine awx_catch C [⟨0, 5, 6, 16⟩] ⟨0, 5, 10, 22⟩ [] htab (fun z hz => ?_) (by decide) (by decide) mC_L_22 (by decide) ?_
      · simp only [List.mem_cons, List.not_mem_nil, or_false] at hz
        subst hz
        exact ⟨by decide, exN 0, mC_L_16, by decide⟩
      · refine aw_astorenR C dL_run_10 (by decide) rfl ?_
        refine aw_ldc (v := -1000003) C dL_run_11 mK_L_24 ?_
        exact aw_vx (Nat.le_of_ble_eq_true rfl) (Nat.le_of_ble_eq_true rfl) (aw_lireturn C hr dL_run_13 hE ⟨_, rfl, hw⟩)
def w_L_start_A (K : Int32 → Sh → Gt → Prop) (p0 : Int32) (G0 : Gt) : Prop :=
  w_X10_start_A (K 0 shB) (fun k G1 => (k = 0 ∧ K (-1000001) shA G1) ∨ (k = 2 ∧ K (-1000003) shA G1)) p0 G0
set_option maxHeartbeats 4000000 in
set_option maxRecDepth 100000 in
theorem t_L_start_A {l : Launch} (hlf : l.stackTraces = false) (p0 : Int32) (G0 : Gt) (K : Int32 → Sh → Gt → Prop) (hw : w_L_start_A K p0 G0) : CW l yL_start cL_start 3 [(0, 6, 7, 16), (0, 6, 11, 22)] 7 201 61 20705 [.ref 0, .int p0] shA G0 (fun r s' G' => ∃ v, r = some (.int v) ∧ K v s' G') := by
  refine CW_of (by decide) (Nat.le_of_ble_eq_true rfl) rfl ?_
  intro p e s m args below meth c D tA ad A C hr htab
  unfold w_L_start_A at hw
  show aw p l e { frames := 7, cells := 61, slots := 20705, locals := 201 } s m args below meth c 3 D tA A (vx_MQ below (QL D tA ad A shA (fun r s' G' => ∃ v, r = some (.int v) ∧ K v s' G')) noX args s 61 20705 A) 0 0 ad 0 [some (.ref 0), some (.int p0), none] [] shA G0
  refine aw_aloadn C dL_start_0 rfl ?_
  refine aw_iloadn C dL_start_1 rfl ?_
  refine aw_callL C dL_start_2 (t_X10_start_A hlf p0 _ _ _ hw) mM_L_51 bX10_start shA_0 rfl rfl ⟨Nat.le_of_ble_eq_true rfl, Nat.le_of_ble_eq_true rfl, Nat.le_of_ble_eq_true rfl, Nat.le_of_ble_eq_true rfl⟩ [] rfl (Nat.le_of_ble_eq_true rfl) ⟨by decide, trivial⟩ trivial (fun r ad1 s1 G1 hE hq => ?_) (fun kE ad1 s1 G1 q9 hk3 hE hq => ?_)
  · obtain ⟨rfl, rfl, hw⟩ := hq
    refine aw_iconst (v := 0) C dL_start_5 (by decide) ?_
    exact aw_vx (Nat.le_of_ble_eq_true rfl) (Nat.le_of_ble_eq_true rfl) (aw_lireturn C hr dL_start_6 hE ⟨_, rfl, hw⟩)
  · obtain ⟨rfl, hq⟩ := hq
    rcases hq with ⟨rfl, hw⟩ | ⟨rfl, hw⟩
    · refine awx_catch C [] ⟨0, 6, 7, 16⟩ [⟨0, 6, 11, 22⟩] htab (fun z hz => nomatch hz) (by decide) (by decide) mC_L_16 (by decide) ?_
      refine aw_astorenR C dL_start_7 (by decide) rfl ?_
      refine aw_ldc (v := -1000001) C dL_start_8 mK_L_18 ?_
      exact aw_vx (Nat.le_of_ble_eq_true rfl) (Nat.le_of_ble_eq_true rfl) (aw_lireturn C hr dL_start_10 hE ⟨_, rfl, hw⟩)
    · refine awx_catch C [⟨0, 6, 7, 16⟩] ⟨0, 6, 11, 22⟩ [] htab (fun z hz => ?_) (by decide) (by decide) mC_L_22 (by decide) ?_
      · simp only [List.mem_cons, List.not_mem_nil, or_false] at hz
        subst hz
        exact ⟨by decide, exN 0, mC_L_16, by decide⟩
      · refine aw_astorenR C dL_start_11 (by decide) rfl ?_
        refine aw_ldc (v := -1000003) C dL_start_12 mK_L_24 ?_
        exact aw_vx (Nat.le_of_ble_eq_true rfl) (Nat.le_of_ble_eq_true rfl) (aw_lireturn C hr dL_start_14 hE ⟨_, rfl, hw⟩)
def w_L_start_B (K : Int32 → Sh → Gt → Prop) (p0 : Int32) (G0 : Gt) : Prop :=
  w_X10_start_B (K 0 shB) (fun k G1 => (k = 0 ∧ K (-1000001) shB G1) ∨ (k = 2 ∧ K (-1000003) shB G1)) p0 G0
set_option maxHeartbeats 4000000 in
set_option maxRecDepth 100000 in
theorem t_L_start_B {l : Launch} (hlf : l.stackTraces = false) (p0 : Int32) (G0 : Gt) (K : Int32 → Sh → Gt → Prop) (hw : w_L_start_B K p0 G0) : CW l yL_start cL_start 3 [(0, 6, 7, 16), (0, 6, 11, 22)] 7 168 1 6 [.ref 0, .int p0] shB G0 (fun r s' G' => ∃ v, r = some (.int v) ∧ K v s' G') := by
  refine CW_of (by decide) (Nat.le_of_ble_eq_true rfl) rfl ?_
  intro p e s m args below meth c D tA ad A C hr htab
  unfold w_L_start_B at hw
  show aw p l e { frames := 7, cells := 1, slots := 6, locals := 168 } s m args below meth c 3 D tA A (vx_MQ below (QL D tA ad A shB (fun r s' G' => ∃ v, r = some (.int v) ∧ K v s' G')) noX args s 1 6 A) 0 0 ad 0 [some (.ref 0), some (.int p0), none] [] shB G0
  refine aw_aloadn C dL_start_0 rfl ?_
  refine aw_iloadn C dL_start_1 rfl ?_
  refine aw_callL C dL_start_2 (t_X10_start_B hlf p0 _ _ _ hw).toCL mM_L_51 bX10_start shB_0 rfl rfl ⟨Nat.le_of_ble_eq_true rfl, Nat.le_of_ble_eq_true rfl, Nat.le_of_ble_eq_true rfl, Nat.le_of_ble_eq_true rfl⟩ [] rfl (Nat.le_of_ble_eq_true rfl) ⟨by decide, trivial⟩ trivial (fun r ad1 s1 G1 hE hq => ?_) (fun kE ad1 s1 G1 q9 hk3 hE hq => ?_)
  · obtain ⟨rfl, rfl, hw⟩ := hq
    refine aw_iconst (v := 0) C dL_start_5 (by decide) ?_
    exact aw_vx (Nat.le_of_ble_eq_true rfl) (Nat.le_of_ble_eq_true rfl) (aw_lireturn C hr dL_start_6 hE ⟨_, rfl, hw⟩)
  · obtain ⟨rfl, hq⟩ := hq
    rcases hq with ⟨rfl, hw⟩ | ⟨rfl, hw⟩
    · refine awx_catch C [] ⟨0, 6, 7, 16⟩ [⟨0, 6, 11, 22⟩] htab (fun z hz => nomatch hz) (by decide) (by decide) mC_L_16 (by decide) ?_
      refine aw_astorenR C dL_start_7 (by decide) rfl ?_
      refine aw_ldc (v := -1000001) C dL_start_8 mK_L_18 ?_
      exact aw_vx (Nat.le_of_ble_eq_true rfl) (Nat.le_of_ble_eq_true rfl) (aw_lireturn C hr dL_start_10 hE ⟨_, rfl, hw⟩)
    · refine awx_catch C [⟨0, 6, 7, 16⟩] ⟨0, 6, 11, 22⟩ [] htab (fun z hz => ?_) (by decide) (by decide) mC_L_22 (by decide) ?_
      · simp only [List.mem_cons, List.not_mem_nil, or_false] at hz
        subst hz
        exact ⟨by decide, exN 0, mC_L_16, by decide⟩
      · refine aw_astorenR C dL_start_11 (by decide) rfl ?_
        refine aw_ldc (v := -1000003) C dL_start_12 mK_L_24 ?_
        exact aw_vx (Nat.le_of_ble_eq_true rfl) (Nat.le_of_ble_eq_true rfl) (aw_lireturn C hr dL_start_14 hE ⟨_, rfl, hw⟩)
def w_L_look_A (K : Int32 → Sh → Gt → Prop) (p0 : Int32) (G0 : Gt) : Prop :=
  w_X10_look_A (fun v G1 => K v shA G1) (fun k G1 => (k = 0 ∧ K (-1000001) shA G1) ∨ (k = 2 ∧ K (-1000003) shA G1)) p0 G0
set_option maxHeartbeats 4000000 in
set_option maxRecDepth 100000 in
theorem t_L_look_A {l : Launch} (hlf : l.stackTraces = false) (p0 : Int32) (G0 : Gt) (K : Int32 → Sh → Gt → Prop) (hw : w_L_look_A K p0 G0) : CW l yL_look cL_look 3 [(0, 5, 6, 16), (0, 5, 10, 22)] 7 112 1 6 [.ref 0, .int p0] shA G0 (fun r s' G' => ∃ v, r = some (.int v) ∧ K v s' G') := by
  refine CW_of (by decide) (Nat.le_of_ble_eq_true rfl) rfl ?_
  intro p e s m args below meth c D tA ad A C hr htab
  unfold w_L_look_A at hw
  show aw p l e { frames := 7, cells := 1, slots := 6, locals := 112 } s m args below meth c 3 D tA A (vx_MQ below (QL D tA ad A shA (fun r s' G' => ∃ v, r = some (.int v) ∧ K v s' G')) noX args s 1 6 A) 0 0 ad 0 [some (.ref 0), some (.int p0), none] [] shA G0
  refine aw_aloadn C dL_look_0 rfl ?_
  refine aw_iloadn C dL_look_1 rfl ?_
  refine aw_callL C dL_look_2 (t_X10_look_A hlf p0 _ _ _ hw).toCL mM_L_66 bX10_look shA_0 rfl rfl ⟨Nat.le_of_ble_eq_true rfl, Nat.le_of_ble_eq_true rfl, Nat.le_of_ble_eq_true rfl, Nat.le_of_ble_eq_true rfl⟩ [] rfl (Nat.le_of_ble_eq_true rfl) ⟨by decide, trivial⟩ trivial (fun r ad1 s1 G1 hE hq => ?_) (fun kE ad1 s1 G1 q9 hk3 hE hq => ?_)
  · obtain ⟨rfl, v, rfl, hw⟩ := hq
    exact aw_vx (Nat.le_of_ble_eq_true rfl) (Nat.le_of_ble_eq_true rfl) (aw_lireturn C hr dL_look_5 hE ⟨_, rfl, hw⟩)
  · obtain ⟨rfl, hq⟩ := hq
    rcases hq with ⟨rfl, hw⟩ | ⟨rfl, hw⟩
    · refine awx_catch C [] ⟨0, 5, 6, 16⟩ [⟨0, 5, 10, 22⟩] htab (fun z hz => nomatch hz) (by decide) (by decide) mC_L_16 (by decide) ?_
      refine aw_astorenR C dL_look_6 (by decide) rfl ?_
      refine aw_ldc (v := -1000001) C dL_look_7 mK_L_18 ?_
      exact aw_vx (Nat.le_of_ble_eq_true rfl) (Nat.le_of_ble_eq_true rfl) (aw_lireturn C hr dL_look_9 hE ⟨_, rfl, hw⟩)
    · refine awx_catch C [⟨0, 5, 6, 16⟩] ⟨0, 5, 10, 22⟩ [] htab (fun z hz => ?_) (by decide) (by decide) mC_L_22 (by decide) ?_
      · simp only [List.mem_cons, List.not_mem_nil, or_false] at hz
        subst hz
        exact ⟨by decide, exN 0, mC_L_16, by decide⟩
      · refine aw_astorenR C dL_look_10 (by decide) rfl ?_
        refine aw_ldc (v := -1000003) C dL_look_11 mK_L_24 ?_
        exact aw_vx (Nat.le_of_ble_eq_true rfl) (Nat.le_of_ble_eq_true rfl) (aw_lireturn C hr dL_look_13 hE ⟨_, rfl, hw⟩)
def w_L_look_B (K : Int32 → Sh → Gt → Prop) (p0 : Int32) (G0 : Gt) : Prop :=
  w_X10_look_B (fun v G1 => K v shB G1) (fun k G1 => (k = 0 ∧ K (-1000001) shB G1) ∨ (k = 2 ∧ K (-1000003) shB G1)) p0 G0
set_option maxHeartbeats 4000000 in
set_option maxRecDepth 100000 in
theorem t_L_look_B {l : Launch} (hlf : l.stackTraces = false) (p0 : Int32) (G0 : Gt) (K : Int32 → Sh → Gt → Prop) (hw : w_L_look_B K p0 G0) : CW l yL_look cL_look 3 [(0, 5, 6, 16), (0, 5, 10, 22)] 7 112 1 6 [.ref 0, .int p0] shB G0 (fun r s' G' => ∃ v, r = some (.int v) ∧ K v s' G') := by
  refine CW_of (by decide) (Nat.le_of_ble_eq_true rfl) rfl ?_
  intro p e s m args below meth c D tA ad A C hr htab
  unfold w_L_look_B at hw
  show aw p l e { frames := 7, cells := 1, slots := 6, locals := 112 } s m args below meth c 3 D tA A (vx_MQ below (QL D tA ad A shB (fun r s' G' => ∃ v, r = some (.int v) ∧ K v s' G')) noX args s 1 6 A) 0 0 ad 0 [some (.ref 0), some (.int p0), none] [] shB G0
  refine aw_aloadn C dL_look_0 rfl ?_
  refine aw_iloadn C dL_look_1 rfl ?_
  refine aw_callL C dL_look_2 (t_X10_look_B hlf p0 _ _ _ hw).toCL mM_L_66 bX10_look shB_0 rfl rfl ⟨Nat.le_of_ble_eq_true rfl, Nat.le_of_ble_eq_true rfl, Nat.le_of_ble_eq_true rfl, Nat.le_of_ble_eq_true rfl⟩ [] rfl (Nat.le_of_ble_eq_true rfl) ⟨by decide, trivial⟩ trivial (fun r ad1 s1 G1 hE hq => ?_) (fun kE ad1 s1 G1 q9 hk3 hE hq => ?_)
  · obtain ⟨rfl, v, rfl, hw⟩ := hq
    exact aw_vx (Nat.le_of_ble_eq_true rfl) (Nat.le_of_ble_eq_true rfl) (aw_lireturn C hr dL_look_5 hE ⟨_, rfl, hw⟩)
  · obtain ⟨rfl, hq⟩ := hq
    rcases hq with ⟨rfl, hw⟩ | ⟨rfl, hw⟩
    · refine awx_catch C [] ⟨0, 5, 6, 16⟩ [⟨0, 5, 10, 22⟩] htab (fun z hz => nomatch hz) (by decide) (by decide) mC_L_16 (by decide) ?_
      refine aw_astorenR C dL_look_6 (by decide) rfl ?_
      refine aw_ldc (v := -1000001) C dL_look_7 mK_L_18 ?_
      exact aw_vx (Nat.le_of_ble_eq_true rfl) (Nat.le_of_ble_eq_true rfl) (aw_lireturn C hr dL_look_9 hE ⟨_, rfl, hw⟩)
    · refine awx_catch C [⟨0, 5, 6, 16⟩] ⟨0, 5, 10, 22⟩ [] htab (fun z hz => ?_) (by decide) (by decide) mC_L_22 (by decide) ?_
      · simp only [List.mem_cons, List.not_mem_nil, or_false] at hz
        subst hz
        exact ⟨by decide, exN 0, mC_L_16, by decide⟩
      · refine aw_astorenR C dL_look_10 (by decide) rfl ?_
        refine aw_ldc (v := -1000003) C dL_look_11 mK_L_24 ?_
        exact aw_vx (Nat.le_of_ble_eq_true rfl) (Nat.le_of_ble_eq_true rfl) (aw_lireturn C hr dL_look_13 hE ⟨_, rfl, hw⟩)
def w_L_setOption_A (K : Int32 → Sh → Gt → Prop) (p0 : Int32) (p1 : Int32) (G0 : Gt) : Prop :=
  w_X10_setOption_A (fun v G1 => K v shA G1) (fun k G1 => (k = 0 ∧ K (-1000001) shA G1) ∨ (k = 1 ∧ K (-1000002) shA G1) ∨ (k = 2 ∧ K (-1000003) shA G1)) p0 p1 G0
set_option maxHeartbeats 4000000 in
set_option maxRecDepth 100000 in
theorem t_L_setOption_A {l : Launch} (hlf : l.stackTraces = false) (p0 : Int32) (p1 : Int32) (G0 : Gt) (K : Int32 → Sh → Gt → Prop) (hw : w_L_setOption_A K p0 p1 G0) : CW l yL_setOption cL_setOption 4 [(0, 6, 7, 16), (0, 6, 11, 19), (0, 6, 15, 22)] 7 113 1 6 [.ref 0, .int p0, .int p1] shA G0 (fun r s' G' => ∃ v, r = some (.int v) ∧ K v s' G') := by
  refine CW_of (by decide) (Nat.le_of_ble_eq_true rfl) rfl ?_
  intro p e s m args below meth c D tA ad A C hr htab
  unfold w_L_setOption_A at hw
  show aw p l e { frames := 7, cells := 1, slots := 6, locals := 113 } s m args below meth c 4 D tA A (vx_MQ below (QL D tA ad A shA (fun r s' G' => ∃ v, r = some (.int v) ∧ K v s' G')) noX args s 1 6 A) 0 0 ad 0 [some (.ref 0), some (.int p0), some (.int p1), none] [] shA G0
  refine aw_aloadn C dL_setOption_0 rfl ?_
  refine aw_iloadn C dL_setOption_1 rfl ?_
  refine aw_iloadn C dL_setOption_2 rfl ?_
  refine aw_callL C dL_setOption_3 (t_X10_setOption_A hlf p0 p1 _ _ _ hw).toCL mM_L_32 bX10_setOption shA_0 rfl rfl ⟨Nat.le_of_ble_eq_true rfl, Nat.le_of_ble_eq_true rfl, Nat.le_of_ble_eq_true rfl, Nat.le_of_ble_eq_true rfl⟩ [] rfl (Nat.le_of_ble_eq_true rfl) ⟨by decide, trivial⟩ trivial (fun r ad1 s1 G1 hE hq => ?_) (fun kE ad1 s1 G1 q9 hk3 hE hq => ?_)
  · obtain ⟨rfl, v, rfl, hw⟩ := hq
    exact aw_vx (Nat.le_of_ble_eq_true rfl) (Nat.le_of_ble_eq_true rfl) (aw_lireturn C hr dL_setOption_6 hE ⟨_, rfl, hw⟩)
  · obtain ⟨rfl, hq⟩ := hq
    rcases hq with ⟨rfl, hw⟩ | ⟨rfl, hw⟩ | ⟨rfl, hw⟩
    · refine awx_catch C [] ⟨0, 6, 7, 16⟩ [⟨0, 6, 11, 19⟩, ⟨0, 6, 15, 22⟩] htab (fun z hz => nomatch hz) (by decide) (by decide) mC_L_16 (by decide) ?_
      refine aw_astorenR C dL_setOption_7 (by decide) rfl ?_
      refine aw_ldc (v := -1000001) C dL_setOption_8 mK_L_18 ?_
      exact aw_vx (Nat.le_of_ble_eq_true rfl) (Nat.le_of_ble_eq_true rfl) (aw_lireturn C hr dL_setOption_10 hE ⟨_, rfl, hw⟩)
    · refine awx_catch C [⟨0, 6, 7, 16⟩] ⟨0, 6, 11, 19⟩ [⟨0, 6, 15, 22⟩] htab (fun z hz => ?_) (by decide) (by decide) mC_L_19 (by decide) ?_
      · simp only [List.mem_cons, List.not_mem_nil, or_false] at hz
        subst hz
        exact ⟨by decide, exN 0, mC_L_16, by decide⟩
      · refine aw_astorenR C dL_setOption_11 (by decide) rfl ?_
        refine aw_ldc (v := -1000002) C dL_setOption_12 mK_L_21 ?_
        exact aw_vx (Nat.le_of_ble_eq_true rfl) (Nat.le_of_ble_eq_true rfl) (aw_lireturn C hr dL_setOption_14 hE ⟨_, rfl, hw⟩)
    · refine awx_catch C [⟨0, 6, 7, 16⟩, ⟨0, 6, 11, 19⟩] ⟨0, 6, 15, 22⟩ [] htab (fun z hz => ?_) (by decide) (by decide) mC_L_22 (by decide) ?_
      · simp only [List.mem_cons, List.not_mem_nil, or_false] at hz
        rcases hz with rfl | rfl
        · exact ⟨by decide, exN 0, mC_L_16, by decide⟩
        · exact ⟨by decide, exN 1, mC_L_19, by decide⟩
      · refine aw_astorenR C dL_setOption_15 (by decide) rfl ?_
        refine aw_ldc (v := -1000003) C dL_setOption_16 mK_L_24 ?_
        exact aw_vx (Nat.le_of_ble_eq_true rfl) (Nat.le_of_ble_eq_true rfl) (aw_lireturn C hr dL_setOption_18 hE ⟨_, rfl, hw⟩)
def w_L_setOption_B (K : Int32 → Sh → Gt → Prop) (p0 : Int32) (p1 : Int32) (G0 : Gt) : Prop :=
  w_X10_setOption_B (fun v G1 => K v shB G1) (fun k G1 => (k = 0 ∧ K (-1000001) shB G1) ∨ (k = 1 ∧ K (-1000002) shB G1) ∨ (k = 2 ∧ K (-1000003) shB G1)) p0 p1 G0
set_option maxHeartbeats 4000000 in
set_option maxRecDepth 100000 in
theorem t_L_setOption_B {l : Launch} (hlf : l.stackTraces = false) (p0 : Int32) (p1 : Int32) (G0 : Gt) (K : Int32 → Sh → Gt → Prop) (hw : w_L_setOption_B K p0 p1 G0) : CW l yL_setOption cL_setOption 4 [(0, 6, 7, 16), (0, 6, 11, 19), (0, 6, 15, 22)] 7 113 1 6 [.ref 0, .int p0, .int p1] shB G0 (fun r s' G' => ∃ v, r = some (.int v) ∧ K v s' G') := by
  refine CW_of (by decide) (Nat.le_of_ble_eq_true rfl) rfl ?_
  intro p e s m args below meth c D tA ad A C hr htab
  unfold w_L_setOption_B at hw
  show aw p l e { frames := 7, cells := 1, slots := 6, locals := 113 } s m args below meth c 4 D tA A (vx_MQ below (QL D tA ad A shB (fun r s' G' => ∃ v, r = some (.int v) ∧ K v s' G')) noX args s 1 6 A) 0 0 ad 0 [some (.ref 0), some (.int p0), some (.int p1), none] [] shB G0
  refine aw_aloadn C dL_setOption_0 rfl ?_
  refine aw_iloadn C dL_setOption_1 rfl ?_
  refine aw_iloadn C dL_setOption_2 rfl ?_
  refine aw_callL C dL_setOption_3 (t_X10_setOption_B hlf p0 p1 _ _ _ hw).toCL mM_L_32 bX10_setOption shB_0 rfl rfl ⟨Nat.le_of_ble_eq_true rfl, Nat.le_of_ble_eq_true rfl, Nat.le_of_ble_eq_true rfl, Nat.le_of_ble_eq_true rfl⟩ [] rfl (Nat.le_of_ble_eq_true rfl) ⟨by decide, trivial⟩ trivial (fun r ad1 s1 G1 hE hq => ?_) (fun kE ad1 s1 G1 q9 hk3 hE hq => ?_)
  · obtain ⟨rfl, v, rfl, hw⟩ := hq
    exact aw_vx (Nat.le_of_ble_eq_true rfl) (Nat.le_of_ble_eq_true rfl) (aw_lireturn C hr dL_setOption_6 hE ⟨_, rfl, hw⟩)
  · obtain ⟨rfl, hq⟩ := hq
    rcases hq with ⟨rfl, hw⟩ | ⟨rfl, hw⟩ | ⟨rfl, hw⟩
    · refine awx_catch C [] ⟨0, 6, 7, 16⟩ [⟨0, 6, 11, 19⟩, ⟨0, 6, 15, 22⟩] htab (fun z hz => nomatch hz) (by decide) (by decide) mC_L_16 (by decide) ?_
      refine aw_astorenR C dL_setOption_7 (by decide) rfl ?_
      refine aw_ldc (v := -1000001) C dL_setOption_8 mK_L_18 ?_
      exact aw_vx (Nat.le_of_ble_eq_true rfl) (Nat.le_of_ble_eq_true rfl) (aw_lireturn C hr dL_setOption_10 hE ⟨_, rfl, hw⟩)
    · refine awx_catch C [⟨0, 6, 7, 16⟩] ⟨0, 6, 11, 19⟩ [⟨0, 6, 15, 22⟩] htab (fun z hz => ?_) (by decide) (by decide) mC_L_19 (by decide) ?_
      · simp only [List.mem_cons, List.not_mem_nil, or_false] at hz
        subst hz
        exact ⟨by decide, exN 0, mC_L_16, by decide⟩
      · refine aw_astorenR C dL_setOption_11 (by decide) rfl ?_
        refine aw_ldc (v := -1000002) C dL_setOption_12 mK_L_21 ?_
        exact aw_vx (Nat.le_of_ble_eq_true rfl) (Nat.le_of_ble_eq_true rfl) (aw_lireturn C hr dL_setOption_14 hE ⟨_, rfl, hw⟩)
    · refine awx_catch C [⟨0, 6, 7, 16⟩, ⟨0, 6, 11, 19⟩] ⟨0, 6, 15, 22⟩ [] htab (fun z hz => ?_) (by decide) (by decide) mC_L_22 (by decide) ?_
      · simp only [List.mem_cons, List.not_mem_nil, or_false] at hz
        rcases hz with rfl | rfl
        · exact ⟨by decide, exN 0, mC_L_16, by decide⟩
        · exact ⟨by decide, exN 1, mC_L_19, by decide⟩
      · refine aw_astorenR C dL_setOption_15 (by decide) rfl ?_
        refine aw_ldc (v := -1000003) C dL_setOption_16 mK_L_24 ?_
        exact aw_vx (Nat.le_of_ble_eq_true rfl) (Nat.le_of_ble_eq_true rfl) (aw_lireturn C hr dL_setOption_18 hE ⟨_, rfl, hw⟩)
def w_L_write_A (K : Int32 → Sh → Gt → Prop) (p0 : Int32) (p1 : Int32) (G0 : Gt) : Prop :=
  w_X10_write_A (fun v G1 => K v shA G1) (fun k G1 => (k = 0 ∧ K (-1000001) shA G1) ∨ (k = 1 ∧ K (-1000002) shA G1) ∨ (k = 2 ∧ K (-1000003) shA G1)) p0 p1 G0
set_option maxHeartbeats 4000000 in
set_option maxRecDepth 100000 in
theorem t_L_write_A {l : Launch} (hlf : l.stackTraces = false) (p0 : Int32) (p1 : Int32) (G0 : Gt) (K : Int32 → Sh → Gt → Prop) (hw : w_L_write_A K p0 p1 G0) : CW l yL_write cL_write 4 [(0, 6, 7, 16), (0, 6, 11, 19), (0, 6, 15, 22)] 7 113 1 6 [.ref 0, .int p0, .int p1] shA G0 (fun r s' G' => ∃ v, r = some (.int v) ∧ K v s' G') := by
  refine CW_of (by decide) (Nat.le_of_ble_eq_true rfl) rfl ?_
  intro p e s m args below meth c D tA ad A C hr htab
  unfold w_L_write_A at hw
  show aw p l e { frames := 7, cells := 1, slots := 6, locals := 113 } s m args below meth c 4 D tA A (vx_MQ below (QL D tA ad A shA (fun r s' G' => ∃ v, r = some (.int v) ∧ K v s' G')) noX args s 1 6 A) 0 0 ad 0 [some (.ref 0), some (.int p0), some (.int p1), none] [] shA G0
  refine aw_aloadn C dL_write_0 rfl ?_
  refine aw_iloadn C dL_write_1 rfl ?_
  refine aw_iloadn C dL_write_2 rfl ?_
  refine aw_callL C dL_write_3 (t_X10_write_A hlf p0 p1 _ _ _ hw).toCL mM_L_39 bX10_write shA_0 rfl rfl ⟨Nat.le_of_ble_eq_true rfl, Nat.le_of_ble_eq_true rfl, Nat.le_of_ble_eq_true rfl, Nat.le_of_ble_eq_true rfl⟩ [] rfl (Nat.le_of_ble_eq_true rfl) ⟨by decide, trivial⟩ trivial (fun r ad1 s1 G1 hE hq => ?_) (fun kE ad1 s1 G1 q9 hk3 hE hq => ?_)
  · obtain ⟨rfl, v, rfl, hw⟩ := hq
    exact aw_vx (Nat.le_of_ble_eq_true rfl) (Nat.le_of_ble_eq_true rfl) (aw_lireturn C hr dL_write_6 hE ⟨_, rfl, hw⟩)
  · obtain ⟨rfl, hq⟩ := hq
    rcases hq with ⟨rfl, hw⟩ | ⟨rfl, hw⟩ | ⟨rfl, hw⟩
    · refine awx_catch C [] ⟨0, 6, 7, 16⟩ [⟨0, 6, 11, 19⟩, ⟨0, 6, 15, 22⟩] htab (fun z hz => nomatch hz) (by decide) (by decide) mC_L_16 (by decide) ?_
      refine aw_astorenR C dL_write_7 (by decide) rfl ?_
      refine aw_ldc (v := -1000001) C dL_write_8 mK_L_18 ?_
      exact aw_vx (Nat.le_of_ble_eq_true rfl) (Nat.le_of_ble_eq_true rfl) (aw_lireturn C hr dL_write_10 hE ⟨_, rfl, hw⟩)
    · refine awx_catch C [⟨0, 6, 7, 16⟩] ⟨0, 6, 11, 19⟩ [⟨0, 6, 15, 22⟩] htab (fun z hz => ?_) (by decide) (by decide) mC_L_19 (by decide) ?_
      · simp only [List.mem_cons, List.not_mem_nil, or_false] at hz
        subst hz
        exact ⟨by decide, exN 0, mC_L_16, by decide⟩
      · refine aw_astorenR C dL_write_11 (by decide) rfl ?_
        refine aw_ldc (v := -1000002) C dL_write_12 mK_L_21 ?_
        exact aw_vx (Nat.le_of_ble_eq_true rfl) (Nat.le_of_ble_eq_true rfl) (aw_lireturn C hr dL_write_14 hE ⟨_, rfl, hw⟩)
    · refine awx_catch C [⟨0, 6, 7, 16⟩, ⟨0, 6, 11, 19⟩] ⟨0, 6, 15, 22⟩ [] htab (fun z hz => ?_) (by decide) (by decide) mC_L_22 (by decide) ?_
      · simp only [List.mem_cons, List.not_mem_nil, or_false] at hz
        rcases hz with rfl | rfl
        · exact ⟨by decide, exN 0, mC_L_16, by decide⟩
        · exact ⟨by decide, exN 1, mC_L_19, by decide⟩
      · refine aw_astorenR C dL_write_15 (by decide) rfl ?_
        refine aw_ldc (v := -1000003) C dL_write_16 mK_L_24 ?_
        exact aw_vx (Nat.le_of_ble_eq_true rfl) (Nat.le_of_ble_eq_true rfl) (aw_lireturn C hr dL_write_18 hE ⟨_, rfl, hw⟩)
def w_L_write_B (K : Int32 → Sh → Gt → Prop) (p0 : Int32) (p1 : Int32) (G0 : Gt) : Prop :=
  w_X10_write_B (fun v G1 => K v shB G1) (fun k G1 => (k = 0 ∧ K (-1000001) shB G1) ∨ (k = 1 ∧ K (-1000002) shB G1) ∨ (k = 2 ∧ K (-1000003) shB G1)) p0 p1 G0
set_option maxHeartbeats 4000000 in
set_option maxRecDepth 100000 in
theorem t_L_write_B {l : Launch} (hlf : l.stackTraces = false) (p0 : Int32) (p1 : Int32) (G0 : Gt) (K : Int32 → Sh → Gt → Prop) (hw : w_L_write_B K p0 p1 G0) : CW l yL_write cL_write 4 [(0, 6, 7, 16), (0, 6, 11, 19), (0, 6, 15, 22)] 7 113 1 6 [.ref 0, .int p0, .int p1] shB G0 (fun r s' G' => ∃ v, r = some (.int v) ∧ K v s' G') := by
  refine CW_of (by decide) (Nat.le_of_ble_eq_true rfl) rfl ?_
  intro p e s m args below meth c D tA ad A C hr htab
  unfold w_L_write_B at hw
  show aw p l e { frames := 7, cells := 1, slots := 6, locals := 113 } s m args below meth c 4 D tA A (vx_MQ below (QL D tA ad A shB (fun r s' G' => ∃ v, r = some (.int v) ∧ K v s' G')) noX args s 1 6 A) 0 0 ad 0 [some (.ref 0), some (.int p0), some (.int p1), none] [] shB G0
  refine aw_aloadn C dL_write_0 rfl ?_
  refine aw_iloadn C dL_write_1 rfl ?_
  refine aw_iloadn C dL_write_2 rfl ?_
  refine aw_callL C dL_write_3 (t_X10_write_B hlf p0 p1 _ _ _ hw).toCL mM_L_39 bX10_write shB_0 rfl rfl ⟨Nat.le_of_ble_eq_true rfl, Nat.le_of_ble_eq_true rfl, Nat.le_of_ble_eq_true rfl, Nat.le_of_ble_eq_true rfl⟩ [] rfl (Nat.le_of_ble_eq_true rfl) ⟨by decide, trivial⟩ trivial (fun r ad1 s1 G1 hE hq => ?_) (fun kE ad1 s1 G1 q9 hk3 hE hq => ?_)
  · obtain ⟨rfl, v, rfl, hw⟩ := hq
    exact aw_vx (Nat.le_of_ble_eq_true rfl) (Nat.le_of_ble_eq_true rfl) (aw_lireturn C hr dL_write_6 hE ⟨_, rfl, hw⟩)
  · obtain ⟨rfl, hq⟩ := hq
    rcases hq with ⟨rfl, hw⟩ | ⟨rfl, hw⟩ | ⟨rfl, hw⟩
    · refine awx_catch C [] ⟨0, 6, 7, 16⟩ [⟨0, 6, 11, 19⟩, ⟨0, 6, 15, 22⟩] htab (fun z hz => nomatch hz) (by decide) (by decide) mC_L_16 (by decide) ?_
      refine aw_astorenR C dL_write_7 (by decide) rfl ?_
      refine aw_ldc (v := -1000001) C dL_write_8 mK_L_18 ?_
      exact aw_vx (Nat.le_of_ble_eq_true rfl) (Nat.le_of_ble_eq_true rfl) (aw_lireturn C hr dL_write_10 hE ⟨_, rfl, hw⟩)
    · refine awx_catch C [⟨0, 6, 7, 16⟩] ⟨0, 6, 11, 19⟩ [⟨0, 6, 15, 22⟩] htab (fun z hz => ?_) (by decide) (by decide) mC_L_19 (by decide) ?_
      · simp only [List.mem_cons, List.not_mem_nil, or_false] at hz
        subst hz
        exact ⟨by decide, exN 0, mC_L_16, by decide⟩
      · refine aw_astorenR C dL_write_11 (by decide) rfl ?_
        refine aw_ldc (v := -1000002) C dL_write_12 mK_L_21 ?_
        exact aw_vx (Nat.le_of_ble_eq_true rfl) (Nat.le_of_ble_eq_true rfl) (aw_lireturn C hr dL_write_14 hE ⟨_, rfl, hw⟩)
    · refine awx_catch C [⟨0, 6, 7, 16⟩, ⟨0, 6, 11, 19⟩] ⟨0, 6, 15, 22⟩ [] htab (fun z hz => ?_) (by decide) (by decide) mC_L_22 (by decide) ?_
      · simp only [List.mem_cons, List.not_mem_nil, or_false] at hz
        rcases hz with rfl | rfl
        · exact ⟨by decide, exN 0, mC_L_16, by decide⟩
        · exact ⟨by decide, exN 1, mC_L_19, by decide⟩
      · refine aw_astorenR C dL_write_15 (by decide) rfl ?_
        refine aw_ldc (v := -1000003) C dL_write_16 mK_L_24 ?_
        exact aw_vx (Nat.le_of_ble_eq_true rfl) (Nat.le_of_ble_eq_true rfl) (aw_lireturn C hr dL_write_18 hE ⟨_, rfl, hw⟩)
def w_L_define_A (K : Int32 → Sh → Gt → Prop) (p0 : Int32) (p1 : Int32) (p2 : Int32) (p3 : Int32) (G0 : Gt) : Prop :=
  w_X10_define_A (fun v G1 => K v shA G1) (fun k G1 => (k = 0 ∧ K (-1000001) shA G1) ∨ (k = 1 ∧ K (-1000002) shA G1) ∨ (k = 2 ∧ K (-1000003) shA G1)) p0 p1 p2 p3 G0
set_option maxHeartbeats 4000000 in
set_option maxRecDepth 100000 in
theorem t_L_define_A {l : Launch} (hlf : l.stackTraces = false) (p0 : Int32) (p1 : Int32) (p2 : Int32) (p3 : Int32) (G0 : Gt) (K : Int32 → Sh → Gt → Prop) (hw : w_L_define_A K p0 p1 p2 p3 G0) : CW l yL_define cL_define 6 [(0, 9, 10, 16), (0, 9, 15, 19), (0, 9, 20, 22)] 7 115 1 6 [.ref 0, .int p0, .int p1, .int p2, .int p3] shA G0 (fun r s' G' => ∃ v, r = some (.int v) ∧ K v s' G') := by
  refine CW_of (by decide) (Nat.le_of_ble_eq_true rfl) rfl ?_
  intro p e s m args below meth c D tA ad A C hr htab
  unfold w_L_define_A at hw
  show aw p l e { frames := 7, cells := 1, slots := 6, locals := 115 } s m args below meth c 6 D tA A (vx_MQ below (QL D tA ad A shA (fun r s' G' => ∃ v, r = some (.int v) ∧ K v s' G')) noX args s 1 6 A) 0 0 ad 0 [some (.ref 0), some (.int p0), some (.int p1), some (.int p2), some (.int p3), none] [] shA G0
  refine aw_aloadn C dL_define_0 rfl ?_
  refine aw_iloadn C dL_define_1 rfl ?_
  refine aw_iloadn C dL_define_2 rfl ?_
  refine aw_iloadn C dL_define_3 rfl ?_
  refine aw_iload C dL_define_4 rfl ?_
  refine aw_callL C dL_define_6 (t_X10_define_A hlf p0 p1 p2 p3 _ _ _ hw).toCL mM_L_25 bX10_define shA_0 rfl rfl ⟨Nat.le_of_ble_eq_true rfl, Nat.le_of_ble_eq_true rfl, Nat.le_of_ble_eq_true rfl, Nat.le_of_ble_eq_true rfl⟩ [] rfl (Nat.le_of_ble_eq_true rfl) ⟨by decide, trivial⟩ trivial (fun r ad1 s1 G1 hE hq => ?_) (fun kE ad1 s1 G1 q9 hk3 hE hq => ?_)
  · obtain ⟨rfl, v, rfl, hw⟩ := hq
    exact aw_vx (Nat.le_of_ble_eq_true rfl) (Nat.le_of_ble_eq_true rfl) (aw_lireturn C hr dL_define_9 hE ⟨_, rfl, hw⟩)
  · obtain ⟨rfl, hq⟩ := hq
    rcases hq with ⟨rfl, hw⟩ | ⟨rfl, hw⟩ | ⟨rfl, hw⟩
    · refine awx_catch C [] ⟨0, 9, 10, 16⟩ [⟨0, 9, 15, 19⟩, ⟨0, 9, 20, 22⟩] htab (fun z hz => nomatch hz) (by decide) (by decide) mC_L_16 (by decide) ?_
      refine aw_astoreR C dL_define_10 (by decide) rfl ?_
      refine aw_ldc (v := -1000001) C dL_define_12 mK_L_18 ?_
      exact aw_vx (Nat.le_of_ble_eq_true rfl) (Nat.le_of_ble_eq_true rfl) (aw_lireturn C hr dL_define_14 hE ⟨_, rfl, hw⟩)
    · refine awx_catch C [⟨0, 9, 10, 16⟩] ⟨0, 9, 15, 19⟩ [⟨0, 9, 20, 22⟩] htab (fun z hz => ?_) (by decide) (by decide) mC_L_19 (by decide) ?_
      · simp only [List.mem_cons, List.not_mem_nil, or_false] at hz
        subst hz
        exact ⟨by decide, exN 0, mC_L_16, by decide⟩
      · refine aw_astoreR C dL_define_15 (by decide) rfl ?_
        refine aw_ldc (v := -1000002) C dL_define_17 mK_L_21 ?_
        exact aw_vx (Nat.le_of_ble_eq_true rfl) (Nat.le_of_ble_eq_true rfl) (aw_lireturn C hr dL_define_19 hE ⟨_, rfl, hw⟩)
    · refine awx_catch C [⟨0, 9, 10, 16⟩, ⟨0, 9, 15, 19⟩] ⟨0, 9, 20, 22⟩ [] htab (fun z hz => ?_) (by decide) (by decide) mC_L_22 (by decide) ?_
      · simp only [List.mem_cons, List.not_mem_nil, or_false] at hz
        rcases hz with rfl | rfl
        · exact ⟨by decide, exN 0, mC_L_16, by decide⟩
        · exact ⟨by decide, exN 1, mC_L_19, by decide⟩
      · refine aw_astoreR C dL_define_20 (by decide) rfl ?_
        refine aw_ldc (v := -1000003) C dL_define_22 mK_L_24 ?_
        exact aw_vx (Nat.le_of_ble_eq_true rfl) (Nat.le_of_ble_eq_true rfl) (aw_lireturn C hr dL_define_24 hE ⟨_, rfl, hw⟩)
def w_L_define_B (K : Int32 → Sh → Gt → Prop) (p0 : Int32) (p1 : Int32) (p2 : Int32) (p3 : Int32) (G0 : Gt) : Prop :=
  w_X10_define_B (fun v G1 => K v shB G1) (fun k G1 => (k = 0 ∧ K (-1000001) shB G1) ∨ (k = 1 ∧ K (-1000002) shB G1) ∨ (k = 2 ∧ K (-1000003) shB G1)) p0 p1 p2 p3 G0
set_option maxHeartbeats 4000000 in
set_option maxRecDepth 100000 in
theorem t_L_define_B {l : Launch} (hlf : l.stackTraces = false) (p0 : Int32) (p1 : Int32) (p2 : Int32) (p3 : Int32) (G0 : Gt) (K : Int32 → Sh → Gt → Prop) (hw : w_L_define_B K p0 p1 p2 p3 G0) : CW l yL_define cL_define 6 [(0, 9, 10, 16), (0, 9, 15, 19), (0, 9, 20, 22)] 7 115 1 6 [.ref 0, .int p0, .int p1, .int p2, .int p3] shB G0 (fun r s' G' => ∃ v, r = some (.int v) ∧ K v s' G') := by
  refine CW_of (by decide) (Nat.le_of_ble_eq_true rfl) rfl ?_
  intro p e s m args below meth c D tA ad A C hr htab
  unfold w_L_define_B at hw
  show aw p l e { frames := 7, cells := 1, slots := 6, locals := 115 } s m args below meth c 6 D tA A (vx_MQ below (QL D tA ad A shB (fun r s' G' => ∃ v, r = some (.int v) ∧ K v s' G')) noX args s 1 6 A) 0 0 ad 0 [some (.ref 0), some (.int p0), some (.int p1), some (.int p2), some (.int p3), none] [] shB G0
  refine aw_aloadn C dL_define_0 rfl ?_
  refine aw_iloadn C dL_define_1 rfl ?_
  refine aw_iloadn C dL_define_2 rfl ?_
  refine aw_iloadn C dL_define_3 rfl ?_
  refine aw_iload C dL_define_4 rfl ?_
  refine aw_callL C dL_define_6 (t_X10_define_B hlf p0 p1 p2 p3 _ _ _ hw).toCL mM_L_25 bX10_define shB_0 rfl rfl ⟨Nat.le_of_ble_eq_true rfl, Nat.le_of_ble_eq_true rfl, Nat.le_of_ble_eq_true rfl, Nat.le_of_ble_eq_true rfl⟩ [] rfl (Nat.le_of_ble_eq_true rfl) ⟨by decide, trivial⟩ trivial (fun r ad1 s1 G1 hE hq => ?_) (fun kE ad1 s1 G1 q9 hk3 hE hq => ?_)
  · obtain ⟨rfl, v, rfl, hw⟩ := hq
    exact aw_vx (Nat.le_of_ble_eq_true rfl) (Nat.le_of_ble_eq_true rfl) (aw_lireturn C hr dL_define_9 hE ⟨_, rfl, hw⟩)
  · obtain ⟨rfl, hq⟩ := hq
    rcases hq with ⟨rfl, hw⟩ | ⟨rfl, hw⟩ | ⟨rfl, hw⟩
    · refine awx_catch C [] ⟨0, 9, 10, 16⟩ [⟨0, 9, 15, 19⟩, ⟨0, 9, 20, 22⟩] htab (fun z hz => nomatch hz) (by decide) (by decide) mC_L_16 (by decide) ?_
      refine aw_astoreR C dL_define_10 (by decide) rfl ?_
      refine aw_ldc (v := -1000001) C dL_define_12 mK_L_18 ?_
      exact aw_vx (Nat.le_of_ble_eq_true rfl) (Nat.le_of_ble_eq_true rfl) (aw_lireturn C hr dL_define_14 hE ⟨_, rfl, hw⟩)
    · refine awx_catch C [⟨0, 9, 10, 16⟩] ⟨0, 9, 15, 19⟩ [⟨0, 9, 20, 22⟩] htab (fun z hz => ?_) (by decide) (by decide) mC_L_19 (by decide) ?_
      · simp only [List.mem_cons, List.not_mem_nil, or_false] at hz
        subst hz
        exact ⟨by decide, exN 0, mC_L_16, by decide⟩
      · refine aw_astoreR C dL_define_15 (by decide) rfl ?_
        refine aw_ldc (v := -1000002) C dL_define_17 mK_L_21 ?_
        exact aw_vx (Nat.le_of_ble_eq_true rfl) (Nat.le_of_ble_eq_true rfl) (aw_lireturn C hr dL_define_19 hE ⟨_, rfl, hw⟩)
    · refine awx_catch C [⟨0, 9, 10, 16⟩, ⟨0, 9, 15, 19⟩] ⟨0, 9, 20, 22⟩ [] htab (fun z hz => ?_) (by decide) (by decide) mC_L_22 (by decide) ?_
      · simp only [List.mem_cons, List.not_mem_nil, or_false] at hz
        rcases hz with rfl | rfl
        · exact ⟨by decide, exN 0, mC_L_16, by decide⟩
        · exact ⟨by decide, exN 1, mC_L_19, by decide⟩
      · refine aw_astoreR C dL_define_20 (by decide) rfl ?_
        refine aw_ldc (v := -1000003) C dL_define_22 mK_L_24 ?_
        exact aw_vx (Nat.le_of_ble_eq_true rfl) (Nat.le_of_ble_eq_true rfl) (aw_lireturn C hr dL_define_24 hE ⟨_, rfl, hw⟩)
def w_L_step_A (K : Int32 → Sh → Gt → Prop) (p0 : Int32) (G0 : Gt) : Prop :=
  w_X10_step_A (fun v G1 => K v shA G1) (fun k G1 => (k = 1 ∧ K (-1000002) shA G1) ∨ (k = 2 ∧ K (-1000003) shA G1)) p0 G0
set_option maxHeartbeats 4000000 in
set_option maxRecDepth 100000 in
theorem t_L_step_A {l : Launch} (hlf : l.stackTraces = false) (p0 : Int32) (G0 : Gt) (K : Int32 → Sh → Gt → Prop) (hw : w_L_step_A K p0 G0) : CW l yL_step cL_step 3 [(0, 5, 6, 19), (0, 5, 10, 22)] 7 112 1 6 [.ref 0, .int p0] shA G0 (fun r s' G' => ∃ v, r = some (.int v) ∧ K v s' G') := by
  refine CW_of (by decide) (Nat.le_of_ble_eq_true rfl) rfl ?_
  intro p e s m args below meth c D tA ad A C hr htab
  unfold w_L_step_A at hw
  show aw p l e { frames := 7, cells := 1, slots := 6, locals := 112 } s m args below meth c 3 D tA A (vx_MQ below (QL D tA ad A shA (fun r s' G' => ∃ v, r = some (.int v) ∧ K v s' G')) noX args s 1 6 A) 0 0 ad 0 [some (.ref 0), some (.int p0), none] [] shA G0
  refine aw_aloadn C dL_step_0 rfl ?_
  refine aw_iloadn C dL_step_1 rfl ?_
  refine aw_callL C dL_step_2 (t_X10_step_A hlf p0 _ _ _ hw).toCL mM_L_55 bX10_step shA_0 rfl rfl ⟨Nat.le_of_ble_eq_true rfl, Nat.le_of_ble_eq_true rfl, Nat.le_of_ble_eq_true rfl, Nat.le_of_ble_eq_true rfl⟩ [] rfl (Nat.le_of_ble_eq_true rfl) ⟨by decide, trivial⟩ trivial (fun r ad1 s1 G1 hE hq => ?_) (fun kE ad1 s1 G1 q9 hk3 hE hq => ?_)
  · obtain ⟨rfl, v, rfl, hw⟩ := hq
    exact aw_vx (Nat.le_of_ble_eq_true rfl) (Nat.le_of_ble_eq_true rfl) (aw_lireturn C hr dL_step_5 hE ⟨_, rfl, hw⟩)
  · obtain ⟨rfl, hq⟩ := hq
    rcases hq with ⟨rfl, hw⟩ | ⟨rfl, hw⟩
    · refine awx_catch C [] ⟨0, 5, 6, 19⟩ [⟨0, 5, 10, 22⟩] htab (fun z hz => nomatch hz) (by decide) (by decide) mC_L_19 (by decide) ?_
      refine aw_astorenR C dL_step_6 (by decide) rfl ?_
      refine aw_ldc (v := -1000002) C dL_step_7 mK_L_21 ?_
      exact aw_vx (Nat.le_of_ble_eq_true rfl) (Nat.le_of_ble_eq_true rfl) (aw_lireturn C hr dL_step_9 hE ⟨_, rfl, hw⟩)
    · refine awx_catch C [⟨0, 5, 6, 19⟩] ⟨0, 5, 10, 22⟩ [] htab (fun z hz => ?_) (by decide) (by decide) mC_L_22 (by decide) ?_
      · simp only [List.mem_cons, List.not_mem_nil, or_false] at hz
        subst hz
        exact ⟨by decide, exN 1, mC_L_19, by decide⟩
      · refine aw_astorenR C dL_step_10 (by decide) rfl ?_
        refine aw_ldc (v := -1000003) C dL_step_11 mK_L_24 ?_
        exact aw_vx (Nat.le_of_ble_eq_true rfl) (Nat.le_of_ble_eq_true rfl) (aw_lireturn C hr dL_step_13 hE ⟨_, rfl, hw⟩)
def w_L_step_B (K : Int32 → Sh → Gt → Prop) (p0 : Int32) (G0 : Gt) : Prop :=
  w_X10_step_B (fun v G1 => K v shB G1) (fun k G1 => (k = 1 ∧ K (-1000002) shB G1) ∨ (k = 2 ∧ K (-1000003) shB G1)) p0 G0
set_option maxHeartbeats 4000000 in
set_option maxRecDepth 100000 in
theorem t_L_step_B {l : Launch} (hlf : l.stackTraces = false) (p0 : Int32) (G0 : Gt) (K : Int32 → Sh → Gt → Prop) (hw : w_L_step_B K p0 G0) : CW l yL_step cL_step 3 [(0, 5, 6, 19), (0, 5, 10, 22)] 7 175 1 6 [.ref 0, .int p0] shB G0 (fun r s' G' => ∃ v, r = some (.int v) ∧ K v s' G') := by
  refine CW_of (by decide) (Nat.le_of_ble_eq_true rfl) rfl ?_
  intro p e s m args below meth c D tA ad A C hr htab
  unfold w_L_step_B at hw
  show aw p l e { frames := 7, cells := 1, slots := 6, locals := 175 } s m args below meth c 3 D tA A (vx_MQ below (QL D tA ad A shB (fun r s' G' => ∃ v, r = some (.int v) ∧ K v s' G')) noX args s 1 6 A) 0 0 ad 0 [some (.ref 0), some (.int p0), none] [] shB G0
  refine aw_aloadn C dL_step_0 rfl ?_
  refine aw_iloadn C dL_step_1 rfl ?_
  refine aw_callL C dL_step_2 (t_X10_step_B hlf p0 _ _ _ hw).toCL mM_L_55 bX10_step shB_0 rfl rfl ⟨Nat.le_of_ble_eq_true rfl, Nat.le_of_ble_eq_true rfl, Nat.le_of_ble_eq_true rfl, Nat.le_of_ble_eq_true rfl⟩ [] rfl (Nat.le_of_ble_eq_true rfl) ⟨by decide, trivial⟩ trivial (fun r ad1 s1 G1 hE hq => ?_) (fun kE ad1 s1 G1 q9 hk3 hE hq => ?_)
  · obtain ⟨rfl, v, rfl, hw⟩ := hq
    exact aw_vx (Nat.le_of_ble_eq_true rfl) (Nat.le_of_ble_eq_true rfl) (aw_lireturn C hr dL_step_5 hE ⟨_, rfl, hw⟩)
  · obtain ⟨rfl, hq⟩ := hq
    rcases hq with ⟨rfl, hw⟩ | ⟨rfl, hw⟩
    · refine awx_catch C [] ⟨0, 5, 6, 19⟩ [⟨0, 5, 10, 22⟩] htab (fun z hz => nomatch hz) (by decide) (by decide) mC_L_19 (by decide) ?_
      refine aw_astorenR C dL_step_6 (by decide) rfl ?_
      refine aw_ldc (v := -1000002) C dL_step_7 mK_L_21 ?_
      exact aw_vx (Nat.le_of_ble_eq_true rfl) (Nat.le_of_ble_eq_true rfl) (aw_lireturn C hr dL_step_9 hE ⟨_, rfl, hw⟩)
    · refine awx_catch C [⟨0, 5, 6, 19⟩] ⟨0, 5, 10, 22⟩ [] htab (fun z hz => ?_) (by decide) (by decide) mC_L_22 (by decide) ?_
      · simp only [List.mem_cons, List.not_mem_nil, or_false] at hz
        subst hz
        exact ⟨by decide, exN 1, mC_L_19, by decide⟩
      · refine aw_astorenR C dL_step_10 (by decide) rfl ?_
        refine aw_ldc (v := -1000003) C dL_step_11 mK_L_24 ?_
        exact aw_vx (Nat.le_of_ble_eq_true rfl) (Nat.le_of_ble_eq_true rfl) (aw_lireturn C hr dL_step_13 hE ⟨_, rfl, hw⟩)
def w_L_giveUp_A (K : Int32 → Sh → Gt → Prop) (G0 : Gt) : Prop :=
  w_X10_giveUp_A (fun v G1 => K v shA G1) (fun k G1 => (k = 2 ∧ K (-1000003) shA G1)) G0
set_option maxHeartbeats 4000000 in
set_option maxRecDepth 100000 in
theorem t_L_giveUp_A {l : Launch} (hlf : l.stackTraces = false) (G0 : Gt) (K : Int32 → Sh → Gt → Prop) (hw : w_L_giveUp_A K G0) : CW l yL_giveUp cL_giveUp 2 [(0, 4, 5, 22)] 7 111 1 6 [.ref 0] shA G0 (fun r s' G' => ∃ v, r = some (.int v) ∧ K v s' G') := by
  refine CW_of (by decide) (Nat.le_of_ble_eq_true rfl) rfl ?_
  intro p e s m args below meth c D tA ad A C hr htab
  unfold w_L_giveUp_A at hw
  show aw p l e { frames := 7, cells := 1, slots := 6, locals := 111 } s m args below meth c 2 D tA A (vx_MQ below (QL D tA ad A shA (fun r s' G' => ∃ v, r = some (.int v) ∧ K v s' G')) noX args s 1 6 A) 0 0 ad 0 [some (.ref 0), none] [] shA G0
  refine aw_aloadn C dL_giveUp_0 rfl ?_
  refine aw_callL C dL_giveUp_1 (t_X10_giveUp_A hlf _ _ _ hw).toCL mM_L_58 bX10_giveUp shA_0 rfl rfl ⟨Nat.le_of_ble_eq_true rfl, Nat.le_of_ble_eq_true rfl, Nat.le_of_ble_eq_true rfl, Nat.le_of_ble_eq_true rfl⟩ [] rfl (Nat.le_of_ble_eq_true rfl) ⟨by decide, trivial⟩ trivial (fun r ad1 s1 G1 hE hq => ?_) (fun kE ad1 s1 G1 q9 hk3 hE hq => ?_)
  · obtain ⟨rfl, v, rfl, hw⟩ := hq
    exact aw_vx (Nat.le_of_ble_eq_true rfl) (Nat.le_of_ble_eq_true rfl) (aw_lireturn C hr dL_giveUp_4 hE ⟨_, rfl, hw⟩)
  · obtain ⟨rfl, hq⟩ := hq
    obtain ⟨rfl, hw⟩ := hq
    refine awx_catch C [] ⟨0, 4, 5, 22⟩ [] htab (fun z hz => nomatch hz) (by decide) (by decide) mC_L_22 (by decide) ?_
    refine aw_astorenR C dL_giveUp_5 (by decide) rfl ?_
    refine aw_ldc (v := -1000003) C dL_giveUp_6 mK_L_24 ?_
    exact aw_vx (Nat.le_of_ble_eq_true rfl) (Nat.le_of_ble_eq_true rfl) (aw_lireturn C hr dL_giveUp_8 hE ⟨_, rfl, hw⟩)
def w_L_giveUp_B (K : Int32 → Sh → Gt → Prop) (G0 : Gt) : Prop :=
  w_X10_giveUp_B (fun v G1 => K v shB G1) (fun k G1 => (k = 2 ∧ K (-1000003) shB G1)) G0
set_option maxHeartbeats 4000000 in
set_option maxRecDepth 100000 in
theorem t_L_giveUp_B {l : Launch} (hlf : l.stackTraces = false) (G0 : Gt) (K : Int32 → Sh → Gt → Prop) (hw : w_L_giveUp_B K G0) : CW l yL_giveUp cL_giveUp 2 [(0, 4, 5, 22)] 7 144 1 6 [.ref 0] shB G0 (fun r s' G' => ∃ v, r = some (.int v) ∧ K v s' G') := by
  refine CW_of (by decide) (Nat.le_of_ble_eq_true rfl) rfl ?_
  intro p e s m args below meth c D tA ad A C hr htab
  unfold w_L_giveUp_B at hw
  show aw p l e { frames := 7, cells := 1, slots := 6, locals := 144 } s m args below meth c 2 D tA A (vx_MQ below (QL D tA ad A shB (fun r s' G' => ∃ v, r = some (.int v) ∧ K v s' G')) noX args s 1 6 A) 0 0 ad 0 [some (.ref 0), none] [] shB G0
  refine aw_aloadn C dL_giveUp_0 rfl ?_
  refine aw_callL C dL_giveUp_1 (t_X10_giveUp_B hlf _ _ _ hw).toCL mM_L_58 bX10_giveUp shB_0 rfl rfl ⟨Nat.le_of_ble_eq_true rfl, Nat.le_of_ble_eq_true rfl, Nat.le_of_ble_eq_true rfl, Nat.le_of_ble_eq_true rfl⟩ [] rfl (Nat.le_of_ble_eq_true rfl) ⟨by decide, trivial⟩ trivial (fun r ad1 s1 G1 hE hq => ?_) (fun kE ad1 s1 G1 q9 hk3 hE hq => ?_)
  · obtain ⟨rfl, v, rfl, hw⟩ := hq
    exact aw_vx (Nat.le_of_ble_eq_true rfl) (Nat.le_of_ble_eq_true rfl) (aw_lireturn C hr dL_giveUp_4 hE ⟨_, rfl, hw⟩)
  · obtain ⟨rfl, hq⟩ := hq
    obtain ⟨rfl, hw⟩ := hq
    refine awx_catch C [] ⟨0, 4, 5, 22⟩ [] htab (fun z hz => nomatch hz) (by decide) (by decide) mC_L_22 (by decide) ?_
    refine aw_astorenR C dL_giveUp_5 (by decide) rfl ?_
    refine aw_ldc (v := -1000003) C dL_giveUp_6 mK_L_24 ?_
    exact aw_vx (Nat.le_of_ble_eq_true rfl) (Nat.le_of_ble_eq_true rfl) (aw_lireturn C hr dL_giveUp_8 hE ⟨_, rfl, hw⟩)
def w_L_setBudget_A (K : Int32 → Sh → Gt → Prop) (p0 : Int32) (G0 : Gt) : Prop :=
  w_X10_setBudget_A (fun v G1 => K v shA G1) (fun k G1 => (k = 1 ∧ K (-1000002) shA G1)) p0 G0
set_option maxHeartbeats 4000000 in
set_option maxRecDepth 100000 in
theorem t_L_setBudget_A {l : Launch} (hlf : l.stackTraces = false) (p0 : Int32) (G0 : Gt) (K : Int32 → Sh → Gt → Prop) (hw : w_L_setBudget_A K p0 G0) : CW l yL_setBudget cL_setBudget 3 [(0, 5, 6, 19)] 7 112 1 6 [.ref 0, .int p0] shA G0 (fun r s' G' => ∃ v, r = some (.int v) ∧ K v s' G') := by
  refine CW_of (by decide) (Nat.le_of_ble_eq_true rfl) rfl ?_
  intro p e s m args below meth c D tA ad A C hr htab
  unfold w_L_setBudget_A at hw
  show aw p l e { frames := 7, cells := 1, slots := 6, locals := 112 } s m args below meth c 3 D tA A (vx_MQ below (QL D tA ad A shA (fun r s' G' => ∃ v, r = some (.int v) ∧ K v s' G')) noX args s 1 6 A) 0 0 ad 0 [some (.ref 0), some (.int p0), none] [] shA G0
  refine aw_aloadn C dL_setBudget_0 rfl ?_
  refine aw_iloadn C dL_setBudget_1 rfl ?_
  refine aw_callL C dL_setBudget_2 (t_X10_setBudget_A hlf p0 _ _ _ hw).toCL mM_L_36 bX10_setBudget shA_0 rfl rfl ⟨Nat.le_of_ble_eq_true rfl, Nat.le_of_ble_eq_true rfl, Nat.le_of_ble_eq_true rfl, Nat.le_of_ble_eq_true rfl⟩ [] rfl (Nat.le_of_ble_eq_true rfl) ⟨by decide, trivial⟩ trivial (fun r ad1 s1 G1 hE hq => ?_) (fun kE ad1 s1 G1 q9 hk3 hE hq => ?_)
  · obtain ⟨rfl, v, rfl, hw⟩ := hq
    exact aw_vx (Nat.le_of_ble_eq_true rfl) (Nat.le_of_ble_eq_true rfl) (aw_lireturn C hr dL_setBudget_5 hE ⟨_, rfl, hw⟩)
  · obtain ⟨rfl, hq⟩ := hq
    obtain ⟨rfl, hw⟩ := hq
    refine awx_catch C [] ⟨0, 5, 6, 19⟩ [] htab (fun z hz => nomatch hz) (by decide) (by decide) mC_L_19 (by decide) ?_
    refine aw_astorenR C dL_setBudget_6 (by decide) rfl ?_
    refine aw_ldc (v := -1000002) C dL_setBudget_7 mK_L_21 ?_
    exact aw_vx (Nat.le_of_ble_eq_true rfl) (Nat.le_of_ble_eq_true rfl) (aw_lireturn C hr dL_setBudget_9 hE ⟨_, rfl, hw⟩)
def w_L_setBudget_B (K : Int32 → Sh → Gt → Prop) (p0 : Int32) (G0 : Gt) : Prop :=
  w_X10_setBudget_B (fun v G1 => K v shB G1) (fun k G1 => (k = 1 ∧ K (-1000002) shB G1)) p0 G0
set_option maxHeartbeats 4000000 in
set_option maxRecDepth 100000 in
theorem t_L_setBudget_B {l : Launch} (hlf : l.stackTraces = false) (p0 : Int32) (G0 : Gt) (K : Int32 → Sh → Gt → Prop) (hw : w_L_setBudget_B K p0 G0) : CW l yL_setBudget cL_setBudget 3 [(0, 5, 6, 19)] 7 112 1 6 [.ref 0, .int p0] shB G0 (fun r s' G' => ∃ v, r = some (.int v) ∧ K v s' G') := by
  refine CW_of (by decide) (Nat.le_of_ble_eq_true rfl) rfl ?_
  intro p e s m args below meth c D tA ad A C hr htab
  unfold w_L_setBudget_B at hw
  show aw p l e { frames := 7, cells := 1, slots := 6, locals := 112 } s m args below meth c 3 D tA A (vx_MQ below (QL D tA ad A shB (fun r s' G' => ∃ v, r = some (.int v) ∧ K v s' G')) noX args s 1 6 A) 0 0 ad 0 [some (.ref 0), some (.int p0), none] [] shB G0
  refine aw_aloadn C dL_setBudget_0 rfl ?_
  refine aw_iloadn C dL_setBudget_1 rfl ?_
  refine aw_callL C dL_setBudget_2 (t_X10_setBudget_B hlf p0 _ _ _ hw).toCL mM_L_36 bX10_setBudget shB_0 rfl rfl ⟨Nat.le_of_ble_eq_true rfl, Nat.le_of_ble_eq_true rfl, Nat.le_of_ble_eq_true rfl, Nat.le_of_ble_eq_true rfl⟩ [] rfl (Nat.le_of_ble_eq_true rfl) ⟨by decide, trivial⟩ trivial (fun r ad1 s1 G1 hE hq => ?_) (fun kE ad1 s1 G1 q9 hk3 hE hq => ?_)
  · obtain ⟨rfl, v, rfl, hw⟩ := hq
    exact aw_vx (Nat.le_of_ble_eq_true rfl) (Nat.le_of_ble_eq_true rfl) (aw_lireturn C hr dL_setBudget_5 hE ⟨_, rfl, hw⟩)
  · obtain ⟨rfl, hq⟩ := hq
    obtain ⟨rfl, hw⟩ := hq
    refine awx_catch C [] ⟨0, 5, 6, 19⟩ [] htab (fun z hz => nomatch hz) (by decide) (by decide) mC_L_19 (by decide) ?_
    refine aw_astorenR C dL_setBudget_6 (by decide) rfl ?_
    refine aw_ldc (v := -1000002) C dL_setBudget_7 mK_L_21 ?_
    exact aw_vx (Nat.le_of_ble_eq_true rfl) (Nat.le_of_ble_eq_true rfl) (aw_lireturn C hr dL_setBudget_9 hE ⟨_, rfl, hw⟩)
def w_L_breakAt_A (K : Int32 → Sh → Gt → Prop) (p0 : Int32) (p1 : Int32) (G0 : Gt) : Prop :=
  w_X10_breakAt_A (fun v G1 => pif (v = 0) (K 0 shA G1) (K 1 shA G1)) (fun k G1 => (k = 0 ∧ K (-1000001) shA G1)) p0 p1 G0
set_option maxHeartbeats 4000000 in
set_option maxRecDepth 100000 in
theorem t_L_breakAt_A {l : Launch} (hlf : l.stackTraces = false) (p0 : Int32) (p1 : Int32) (G0 : Gt) (K : Int32 → Sh → Gt → Prop) (hw : w_L_breakAt_A K p0 p1 G0) : CW l yL_breakAt cL_breakAt 4 [(0, 14, 15, 16)] 7 113 1 6 [.ref 0, .int p0, .int p1] shA G0 (fun r s' G' => ∃ v, r = some (.int v) ∧ K v s' G') := by
  refine CW_of (by decide) (Nat.le_of_ble_eq_true rfl) rfl ?_
  intro p e s m args below meth c D tA ad A C hr htab
  unfold w_L_breakAt_A at hw
  show aw p l e { frames := 7, cells := 1, slots := 6, locals := 113 } s m args below meth c 4 D tA A (vx_MQ below (QL D tA ad A shA (fun r s' G' => ∃ v, r = some (.int v) ∧ K v s' G')) noX args s 1 6 A) 0 0 ad 0 [some (.ref 0), some (.int p0), some (.int p1), none] [] shA G0
  refine aw_aloadn C dL_breakAt_0 rfl ?_
  refine aw_iloadn C dL_breakAt_1 rfl ?_
  refine aw_iloadn C dL_breakAt_2 rfl ?_
  refine aw_callL C dL_breakAt_3 (t_X10_breakAt_A hlf p0 p1 _ _ _ hw).toCL mM_L_62 bX10_breakAt shA_0 rfl rfl ⟨Nat.le_of_ble_eq_true rfl, Nat.le_of_ble_eq_true rfl, Nat.le_of_ble_eq_true rfl, Nat.le_of_ble_eq_true rfl⟩ [] rfl (Nat.le_of_ble_eq_true rfl) ⟨by decide, trivial⟩ trivial (fun r ad1 s1 G1 hE hq => ?_) (fun kE ad1 s1 G1 q9 hk3 hE hq => ?_)
  · obtain ⟨rfl, v, rfl, hw⟩ := hq
    refine aw_if_eq C dL_breakAt_6 13 (by decide) hw (fun hv hw => ?_) (fun hv hw => ?_)
    · refine aw_iconst (v := 0) C dL_breakAt_13 (by decide) ?_
      exact aw_vx (Nat.le_of_ble_eq_true rfl) (Nat.le_of_ble_eq_true rfl) (aw_lireturn C hr dL_breakAt_14 hE ⟨_, rfl, hw⟩)
    · refine aw_iconst (v := 1) C dL_breakAt_9 (by decide) ?_
      refine aw_goto (tgt := 14) C dL_breakAt_10 (by decide) ?_
      exact aw_vx (Nat.le_of_ble_eq_true rfl) (Nat.le_of_ble_eq_true rfl) (aw_lireturn C hr dL_breakAt_14 hE ⟨_, rfl, hw⟩)
  · obtain ⟨rfl, hq⟩ := hq
    obtain ⟨rfl, hw⟩ := hq
    refine awx_catch C [] ⟨0, 14, 15, 16⟩ [] htab (fun z hz => nomatch hz) (by decide) (by decide) mC_L_16 (by decide) ?_
    refine aw_astorenR C dL_breakAt_15 (by decide) rfl ?_
    refine aw_ldc (v := -1000001) C dL_breakAt_16 mK_L_18 ?_
    exact aw_vx (Nat.le_of_ble_eq_true rfl) (Nat.le_of_ble_eq_true rfl) (aw_lireturn C hr dL_breakAt_18 hE ⟨_, rfl, hw⟩)
def w_L_breakAt_B (K : Int32 → Sh → Gt → Prop) (p0 : Int32) (p1 : Int32) (G0 : Gt) : Prop :=
  w_X10_breakAt_B (fun v G1 => pif (v = 0) (K 0 shB G1) (K 1 shB G1)) (fun k G1 => (k = 0 ∧ K (-1000001) shB G1)) p0 p1 G0
set_option maxHeartbeats 4000000 in
set_option maxRecDepth 100000 in
theorem t_L_breakAt_B {l : Launch} (hlf : l.stackTraces = false) (p0 : Int32) (p1 : Int32) (G0 : Gt) (K : Int32 → Sh → Gt → Prop) (hw : w_L_breakAt_B K p0 p1 G0) : CW l yL_breakAt cL_breakAt 4 [(0, 14, 15, 16)] 7 113 1 6 [.ref 0, .int p0, .int p1] shB G0 (fun r s' G' => ∃ v, r = some (.int v) ∧ K v s' G') := by
  refine CW_of (by decide) (Nat.le_of_ble_eq_true rfl) rfl ?_
  intro p e s m args below meth c D tA ad A C hr htab
  unfold w_L_breakAt_B at hw
  show aw p l e { frames := 7, cells := 1, slots := 6, locals := 113 } s m args below meth c 4 D tA A (vx_MQ below (QL D tA ad A shB (fun r s' G' => ∃ v, r = some (.int v) ∧ K v s' G')) noX args s 1 6 A) 0 0 ad 0 [some (.ref 0), some (.int p0), some (.int p1), none] [] shB G0
  refine aw_aloadn C dL_breakAt_0 rfl ?_
  refine aw_iloadn C dL_breakAt_1 rfl ?_
  refine aw_iloadn C dL_breakAt_2 rfl ?_
  refine aw_callL C dL_breakAt_3 (t_X10_breakAt_B hlf p0 p1 _ _ _ hw).toCL mM_L_62 bX10_breakAt shB_0 rfl rfl ⟨Nat.le_of_ble_eq_true rfl, Nat.le_of_ble_eq_true rfl, Nat.le_of_ble_eq_true rfl, Nat.le_of_ble_eq_true rfl⟩ [] rfl (Nat.le_of_ble_eq_true rfl) ⟨by decide, trivial⟩ trivial (fun r ad1 s1 G1 hE hq => ?_) (fun kE ad1 s1 G1 q9 hk3 hE hq => ?_)
  · obtain ⟨rfl, v, rfl, hw⟩ := hq
    refine aw_if_eq C dL_breakAt_6 13 (by decide) hw (fun hv hw => ?_) (fun hv hw => ?_)
    · refine aw_iconst (v := 0) C dL_breakAt_13 (by decide) ?_
      exact aw_vx (Nat.le_of_ble_eq_true rfl) (Nat.le_of_ble_eq_true rfl) (aw_lireturn C hr dL_breakAt_14 hE ⟨_, rfl, hw⟩)
    · refine aw_iconst (v := 1) C dL_breakAt_9 (by decide) ?_
      refine aw_goto (tgt := 14) C dL_breakAt_10 (by decide) ?_
      exact aw_vx (Nat.le_of_ble_eq_true rfl) (Nat.le_of_ble_eq_true rfl) (aw_lireturn C hr dL_breakAt_14 hE ⟨_, rfl, hw⟩)
  · obtain ⟨rfl, hq⟩ := hq
    obtain ⟨rfl, hw⟩ := hq
    refine awx_catch C [] ⟨0, 14, 15, 16⟩ [] htab (fun z hz => nomatch hz) (by decide) (by decide) mC_L_16 (by decide) ?_
    refine aw_astorenR C dL_breakAt_15 (by decide) rfl ?_
    refine aw_ldc (v := -1000001) C dL_breakAt_16 mK_L_18 ?_
    exact aw_vx (Nat.le_of_ble_eq_true rfl) (Nat.le_of_ble_eq_true rfl) (aw_lireturn C hr dL_breakAt_18 hE ⟨_, rfl, hw⟩)
