def w_X6_at_j23 (a : Nat) (N : Nat) (K : Int32 → Gt → Prop) (y0 : Int32) (G0 : Gt) : Prop :=
  K y0 G0
def w_X6_at_j22 (a : Nat) (N : Nat) (K : Int32 → Gt → Prop)  (G0 : Gt) : Prop :=
  w_X6_at_j23 a N K (-1) G0
def w_X6_at (a : Nat) (N : Nat) (K : Int32 → Gt → Prop) (p0 : Int32) (G0 : Gt) : Prop :=
  pif (p0 < 0) (
    w_X6_at_j22 a N K G0) (
    pif ((nI N) ≤ p0) (
      w_X6_at_j22 a N K G0) (
      vp_in p0 N ∧
      w_X6_at_j23 a N K (G0 a (p0 : Int32).toNatClampNeg) G0))
set_option maxHeartbeats 4000000 in
set_option maxRecDepth 100000 in
theorem t_X6_at {l : Launch} {sh : Sh} {a : Nat} {N : Nat} {r : Nat} (hR : isRow sh r a N) (p0 : Int32) (G0 : Gt) (K : Int32 → Gt → Prop) (hw : w_X6_at a N K p0 G0) : CT0 l yX6_at cX6_at 2 (some .int) 0 0 [.ref r, .int p0] sh G0 (fun r G' => ∃ v, r = some (.int v) ∧ K v G') := by
  refine CT0_of (by decide) (Nat.le_of_ble_eq_true rfl) rfl ?_
  intro p e s m args below meth c D tA ad A C hr _
  have h23 : ∀ (y0 : Int32) (G0 : Gt), w_X6_at_j23 a N K y0 G0 → aw p l e { frames := 0, cells := 0, slots := 0, locals := 0 } s m args below meth c 2 D tA A (MQ below (QC0 D tA ad A sh (fun r G' => ∃ v, r = some (.int v) ∧ K v G')) args s 0 0 A) 0 0 ad 23 [none, none] [.int y0] sh G0 := by
    intro  y0 G0 hw
    unfold w_X6_at_j23 at hw
    exact aw_ireturn C hr dX6_at_23 ⟨_, rfl, hw⟩
  have h22 : ∀ (G0 : Gt), w_X6_at_j22 a N K  G0 → aw p l e { frames := 0, cells := 0, slots := 0, locals := 0 } s m args below meth c 2 D tA A (MQ below (QC0 D tA ad A sh (fun r G' => ∃ v, r = some (.int v) ∧ K v G')) args s 0 0 A) 0 0 ad 22 [none, none] [] sh G0 := by
    intro   G0 hw
    unfold w_X6_at_j22 at hw
    refine aw_iconst (v := (-1)) C dX6_at_22 (by decide) ?_
    exact aw_msk [false, false] (h23 (-1) _ hw)
  unfold w_X6_at at hw
  show aw p l e { frames := 0, cells := 0, slots := 0, locals := 0 } s m args below meth c 2 D tA A (MQ below (QC0 D tA ad A sh (fun r G' => ∃ v, r = some (.int v) ∧ K v G')) args s 0 0 A) 0 0 ad 0 [some (.ref r), some (.int p0)] [] sh G0
  refine aw_iloadn C dX6_at_0 rfl ?_
  refine aw_if_lt C dX6_at_1 22 (by decide) hw (fun hc1 hw => ?_) (fun hc1 hw => ?_)
  · exact aw_msk [false, false] (h22 _ hw)
  · refine aw_iloadn C dX6_at_4 rfl ?_
    refine aw_aloadn C dX6_at_5 rfl ?_
    refine aw_getR (r := a) C dX6_at_6 kcX6 hR.1 0 (by decide) rfl mF_X6_15 ?_
    refine aw_alen C dX6_at_9 hR.2 (by decide) ?_
    refine aw_ic_ge C dX6_at_10 22 (by decide) hw (fun hc10 hw => ?_) (fun hc10 hw => ?_)
    · exact aw_msk [false, false] (h22 _ hw)
    · refine aw_aloadn C dX6_at_13 rfl ?_
      refine aw_getR (r := a) C dX6_at_14 kcX6 hR.1 0 (by decide) rfl mF_X6_15 ?_
      refine aw_iloadn C dX6_at_17 rfl ?_
      refine aw_iald C dX6_at_18 hR.2 hw.1 ?_
      replace hw := hw.2
      refine aw_goto (tgt := 23) C dX6_at_19 (by decide) ?_
      exact aw_msk [false, false] (h23 (G0 a (p0 : Int32).toNatClampNeg) _ hw)
def w_X6_put_j20 (a : Nat) (N : Nat) (K : Gt → Prop)  (G0 : Gt) : Prop :=
  K G0
def w_X6_put (a : Nat) (N : Nat) (K : Gt → Prop) (p0 : Int32) (p1 : Int32) (G0 : Gt) : Prop :=
  pif (p0 < 0) (
    w_X6_put_j20 a N K G0) (
    pif ((nI N) ≤ p0) (
      w_X6_put_j20 a N K G0) (
      vp_in p0 N ∧
      pt (gu G0 a (p0 : Int32).toNatClampNeg p1) fun G1 =>
      w_X6_put_j20 a N K G1))
set_option maxHeartbeats 4000000 in
set_option maxRecDepth 100000 in
theorem t_X6_put {l : Launch} {sh : Sh} {a : Nat} {N : Nat} {r : Nat} (hR : isRow sh r a N) (p0 : Int32) (p1 : Int32) (G0 : Gt) (K : Gt → Prop) (hw : w_X6_put a N K p0 p1 G0) : CT0 l yX6_put cX6_put 3 none 0 0 [.ref r, .int p0, .int p1] sh G0 (fun r G' => r = none ∧ K G') := by
  refine CT0_of (by decide) (Nat.le_of_ble_eq_true rfl) rfl ?_
  intro p e s m args below meth c D tA ad A C hr _
  have h20 : ∀ (G0 : Gt), w_X6_put_j20 a N K  G0 → aw p l e { frames := 0, cells := 0, slots := 0, locals := 0 } s m args below meth c 3 D tA A (MQ below (QC0 D tA ad A sh (fun r G' => r = none ∧ K G')) args s 0 0 A) 0 0 ad 20 [none, none, none] [] sh G0 := by
    intro   G0 hw
    unfold w_X6_put_j20 at hw
    exact aw_return C hr dX6_put_20 ⟨rfl, hw⟩
  unfold w_X6_put at hw
  show aw p l e { frames := 0, cells := 0, slots := 0, locals := 0 } s m args below meth c 3 D tA A (MQ below (QC0 D tA ad A sh (fun r G' => r = none ∧ K G')) args s 0 0 A) 0 0 ad 0 [some (.ref r), some (.int p0), some (.int p1)] [] sh G0
  refine aw_iloadn C dX6_put_0 rfl ?_
  refine aw_if_lt C dX6_put_1 20 (by decide) hw (fun hc1 hw => ?_) (fun hc1 hw => ?_)
  · exact aw_msk [false, false, false] (h20 _ hw)
  · refine aw_iloadn C dX6_put_4 rfl ?_
    refine aw_aloadn C dX6_put_5 rfl ?_
    refine aw_getR (r := a) C dX6_put_6 kcX6 hR.1 0 (by decide) rfl mF_X6_15 ?_
    refine aw_alen C dX6_put_9 hR.2 (by decide) ?_
    refine aw_ic_ge C dX6_put_10 20 (by decide) hw (fun hc10 hw => ?_) (fun hc10 hw => ?_)
    · exact aw_msk [false, false, false] (h20 _ hw)
    · refine aw_aloadn C dX6_put_13 rfl ?_
      refine aw_getR (r := a) C dX6_put_14 kcX6 hR.1 0 (by decide) rfl mF_X6_15 ?_
      refine aw_iloadn C dX6_put_17 rfl ?_
      refine aw_iloadn C dX6_put_18 rfl ?_
      refine aw_iast C dX6_put_19 hR.2 hw.1 hw.2 (fun G1 hw => ?_)
      exact aw_msk [false, false, false] (h20 _ hw)
