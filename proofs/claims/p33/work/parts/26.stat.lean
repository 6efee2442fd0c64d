def w_X10_isBelow_j14 (K : Int32 → Gt → Prop) (y0 : Int32) (G0 : Gt) : Prop :=
  bz y0 ∧ K y0 G0
def w_X10_isBelow_j13 (K : Int32 → Gt → Prop)  (G0 : Gt) : Prop :=
  w_X10_isBelow_j14 K 0 G0
def w_X10_isBelow (K : Int32 → Gt → Prop) (p0 : Int32) (p1 : Int32) (G0 : Gt) : Prop :=
  pif (p0 < 0) (
    w_X10_isBelow_j13 K G0) (
    pif (p1 ≤ p0) (
      w_X10_isBelow_j13 K G0) (
      w_X10_isBelow_j14 K 1 G0))
set_option maxHeartbeats 4000000 in
set_option maxRecDepth 100000 in
theorem t_X10_isBelow {l : Launch} {sh : Sh}  (p0 : Int32) (p1 : Int32) (G0 : Gt) (K : Int32 → Gt → Prop) (hw : w_X10_isBelow K p0 p1 G0) : CT0 l yX10_isBelow cX10_isBelow 2 (some .boolean) 0 0 [.int p0, .int p1] sh G0 (fun r G' => ∃ v, r = some (.int v) ∧ K v G') := by
  refine CT0_of (by decide) (Nat.le_of_ble_eq_true rfl) rfl ?_
  intro p e s m args below meth c D tA ad A C hr _
  have h14 : ∀ (y0 : Int32) (G0 : Gt), w_X10_isBelow_j14 K y0 G0 → aw p l e { frames := 0, cells := 0, slots := 0, locals := 0 } s m args below meth c 2 D tA A (MQ below (QC0 D tA ad A sh (fun r G' => ∃ v, r = some (.int v) ∧ K v G')) args s 0 0 A) 0 0 ad 14 [none, none] [.int y0] sh G0 := by
    intro  y0 G0 hw
    unfold w_X10_isBelow_j14 at hw
    exact aw_zreturn C hr dX10_isBelow_14 (bz_n hw.1) ⟨_, rfl, hw.2⟩
  have h13 : ∀ (G0 : Gt), w_X10_isBelow_j13 K  G0 → aw p l e { frames := 0, cells := 0, slots := 0, locals := 0 } s m args below meth c 2 D tA A (MQ below (QC0 D tA ad A sh (fun r G' => ∃ v, r = some (.int v) ∧ K v G')) args s 0 0 A) 0 0 ad 13 [none, none] [] sh G0 := by
    intro   G0 hw
    unfold w_X10_isBelow_j13 at hw
    refine aw_iconst (v := 0) C dX10_isBelow_13 (by decide) ?_
    exact aw_msk [false, false] (h14 0 _ hw)
  unfold w_X10_isBelow at hw
  show aw p l e { frames := 0, cells := 0, slots := 0, locals := 0 } s m args below meth c 2 D tA A (MQ below (QC0 D tA ad A sh (fun r G' => ∃ v, r = some (.int v) ∧ K v G')) args s 0 0 A) 0 0 ad 0 [some (.int p0), some (.int p1)] [] sh G0
  refine aw_iloadn C dX10_isBelow_0 rfl ?_
  refine aw_if_lt C dX10_isBelow_1 13 (by decide) hw (fun hc1 hw => ?_) (fun hc1 hw => ?_)
  · exact aw_msk [false, false] (h13 _ hw)
  · refine aw_iloadn C dX10_isBelow_4 rfl ?_
    refine aw_iloadn C dX10_isBelow_5 rfl ?_
    refine aw_ic_ge C dX10_isBelow_6 13 (by decide) hw (fun hc6 hw => ?_) (fun hc6 hw => ?_)
    · exact aw_msk [false, false] (h13 _ hw)
    · refine aw_iconst (v := 1) C dX10_isBelow_9 (by decide) ?_
      refine aw_goto (tgt := 14) C dX10_isBelow_10 (by decide) ?_
      exact aw_msk [false, false] (h14 1 _ hw)
def w_X10_isNumber_j19 (K : Int32 → Gt → Prop) (y0 : Int32) (G0 : Gt) : Prop :=
  bz y0 ∧ K y0 G0
def w_X10_isNumber_j18 (K : Int32 → Gt → Prop)  (G0 : Gt) : Prop :=
  w_X10_isNumber_j19 K 0 G0
def w_X10_isNumber (K : Int32 → Gt → Prop) (p0 : Int32) (G0 : Gt) : Prop :=
  pif (p0 < (-9999)) (
    w_X10_isNumber_j18 K G0) (
    pif (9999 < p0) (
      w_X10_isNumber_j18 K G0) (
      w_X10_isNumber_j19 K 1 G0))
set_option maxHeartbeats 4000000 in
set_option maxRecDepth 100000 in
theorem t_X10_isNumber {l : Launch} {sh : Sh}  (p0 : Int32) (G0 : Gt) (K : Int32 → Gt → Prop) (hw : w_X10_isNumber K p0 G0) : CT0 l yX10_isNumber cX10_isNumber 1 (some .boolean) 0 0 [.int p0] sh G0 (fun r G' => ∃ v, r = some (.int v) ∧ K v G') := by
  refine CT0_of (by decide) (Nat.le_of_ble_eq_true rfl) rfl ?_
  intro p e s m args below meth c D tA ad A C hr _
  have h19 : ∀ (y0 : Int32) (G0 : Gt), w_X10_isNumber_j19 K y0 G0 → aw p l e { frames := 0, cells := 0, slots := 0, locals := 0 } s m args below meth c 1 D tA A (MQ below (QC0 D tA ad A sh (fun r G' => ∃ v, r = some (.int v) ∧ K v G')) args s 0 0 A) 0 0 ad 19 [none] [.int y0] sh G0 := by
    intro  y0 G0 hw
    unfold w_X10_isNumber_j19 at hw
    exact aw_zreturn C hr dX10_isNumber_19 (bz_n hw.1) ⟨_, rfl, hw.2⟩
  have h18 : ∀ (G0 : Gt), w_X10_isNumber_j18 K  G0 → aw p l e { frames := 0, cells := 0, slots := 0, locals := 0 } s m args below meth c 1 D tA A (MQ below (QC0 D tA ad A sh (fun r G' => ∃ v, r = some (.int v) ∧ K v G')) args s 0 0 A) 0 0 ad 18 [none] [] sh G0 := by
    intro   G0 hw
    unfold w_X10_isNumber_j18 at hw
    refine aw_iconst (v := 0) C dX10_isNumber_18 (by decide) ?_
    exact aw_msk [false] (h19 0 _ hw)
  unfold w_X10_isNumber at hw
  show aw p l e { frames := 0, cells := 0, slots := 0, locals := 0 } s m args below meth c 1 D tA A (MQ below (QC0 D tA ad A sh (fun r G' => ∃ v, r = some (.int v) ∧ K v G')) args s 0 0 A) 0 0 ad 0 [some (.int p0)] [] sh G0
  refine aw_iloadn C dX10_isNumber_0 rfl ?_
  refine aw_sipush (v := (-9999)) C dX10_isNumber_1 (by decide) ?_
  refine aw_ic_lt C dX10_isNumber_4 18 (by decide) hw (fun hc4 hw => ?_) (fun hc4 hw => ?_)
  · exact aw_msk [false] (h18 _ hw)
  · refine aw_iloadn C dX10_isNumber_7 rfl ?_
    refine aw_sipush (v := 9999) C dX10_isNumber_8 (by decide) ?_
    refine aw_ic_gt C dX10_isNumber_11 18 (by decide) hw (fun hc11 hw => ?_) (fun hc11 hw => ?_)
    · exact aw_msk [false] (h18 _ hw)
    · refine aw_iconst (v := 1) C dX10_isNumber_14 (by decide) ?_
      refine aw_goto (tgt := 19) C dX10_isNumber_15 (by decide) ?_
      exact aw_msk [false] (h19 1 _ hw)
def w_X10_isAmount_j17 (K : Int32 → Gt → Prop) (y0 : Int32) (G0 : Gt) : Prop :=
  bz y0 ∧ K y0 G0
def w_X10_isAmount_j16 (K : Int32 → Gt → Prop)  (G0 : Gt) : Prop :=
  w_X10_isAmount_j17 K 0 G0
def w_X10_isAmount (K : Int32 → Gt → Prop) (p0 : Int32) (G0 : Gt) : Prop :=
  pif (p0 < 1) (
    w_X10_isAmount_j16 K G0) (
    pif (600 < p0) (
      w_X10_isAmount_j16 K G0) (
      w_X10_isAmount_j17 K 1 G0))
set_option maxHeartbeats 4000000 in
set_option maxRecDepth 100000 in
theorem t_X10_isAmount {l : Launch} {sh : Sh}  (p0 : Int32) (G0 : Gt) (K : Int32 → Gt → Prop) (hw : w_X10_isAmount K p0 G0) : CT0 l yX10_isAmount cX10_isAmount 1 (some .boolean) 0 0 [.int p0] sh G0 (fun r G' => ∃ v, r = some (.int v) ∧ K v G') := by
  refine CT0_of (by decide) (Nat.le_of_ble_eq_true rfl) rfl ?_
  intro p e s m args below meth c D tA ad A C hr _
  have h17 : ∀ (y0 : Int32) (G0 : Gt), w_X10_isAmount_j17 K y0 G0 → aw p l e { frames := 0, cells := 0, slots := 0, locals := 0 } s m args below meth c 1 D tA A (MQ below (QC0 D tA ad A sh (fun r G' => ∃ v, r = some (.int v) ∧ K v G')) args s 0 0 A) 0 0 ad 17 [none] [.int y0] sh G0 := by
    intro  y0 G0 hw
    unfold w_X10_isAmount_j17 at hw
    exact aw_zreturn C hr dX10_isAmount_17 (bz_n hw.1) ⟨_, rfl, hw.2⟩
  have h16 : ∀ (G0 : Gt), w_X10_isAmount_j16 K  G0 → aw p l e { frames := 0, cells := 0, slots := 0, locals := 0 } s m args below meth c 1 D tA A (MQ below (QC0 D tA ad A sh (fun r G' => ∃ v, r = some (.int v) ∧ K v G')) args s 0 0 A) 0 0 ad 16 [none] [] sh G0 := by
    intro   G0 hw
    unfold w_X10_isAmount_j16 at hw
    refine aw_iconst (v := 0) C dX10_isAmount_16 (by decide) ?_
    exact aw_msk [false] (h17 0 _ hw)
  unfold w_X10_isAmount at hw
  show aw p l e { frames := 0, cells := 0, slots := 0, locals := 0 } s m args below meth c 1 D tA A (MQ below (QC0 D tA ad A sh (fun r G' => ∃ v, r = some (.int v) ∧ K v G')) args s 0 0 A) 0 0 ad 0 [some (.int p0)] [] sh G0
  refine aw_iloadn C dX10_isAmount_0 rfl ?_
  refine aw_iconst (v := 1) C dX10_isAmount_1 (by decide) ?_
  refine aw_ic_lt C dX10_isAmount_2 16 (by decide) hw (fun hc2 hw => ?_) (fun hc2 hw => ?_)
  · exact aw_msk [false] (h16 _ hw)
  · refine aw_iloadn C dX10_isAmount_5 rfl ?_
    refine aw_sipush (v := 600) C dX10_isAmount_6 (by decide) ?_
    refine aw_ic_gt C dX10_isAmount_9 16 (by decide) hw (fun hc9 hw => ?_) (fun hc9 hw => ?_)
    · exact aw_msk [false] (h16 _ hw)
    · refine aw_iconst (v := 1) C dX10_isAmount_12 (by decide) ?_
      refine aw_goto (tgt := 17) C dX10_isAmount_13 (by decide) ?_
      exact aw_msk [false] (h17 1 _ hw)
