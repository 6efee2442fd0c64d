def w_X11_slotOf_j39 (K : Int32 → Gt → Prop) (y0 : Int32) (G0 : Gt) : Prop :=
  K y0 G0
def w_X11_slotOf (K : Int32 → Gt → Prop) (p0 : Int32) (G0 : Gt) : Prop :=
  vp_in p0 1220 ∧
  vp_in (G0 64 (p0 : Int32).toNatClampNeg) 120 ∧
  pif ((G0 47 ((G0 64 (p0 : Int32).toNatClampNeg) : Int32).toNatClampNeg) = 18) (
    vp_in p0 1220 ∧
    vp_in (G0 64 (p0 : Int32).toNatClampNeg) 120 ∧
    w_X11_slotOf_j39 K (G0 48 ((G0 64 (p0 : Int32).toNatClampNeg) : Int32).toNatClampNeg) G0) (
    vp_in p0 1220 ∧
    w_X11_slotOf_j39 K ((G0 67 (p0 : Int32).toNatClampNeg) - 10) G0)
set_option maxHeartbeats 4000000 in
set_option maxRecDepth 100000 in
theorem t_X11_slotOf {l : Launch} {sh : Sh} (S : shOK sh) (p0 : Int32) (G0 : Gt) (K : Int32 → Gt → Prop) (hw : w_X11_slotOf K p0 G0) : CT0 l yX11_slotOf cX11_slotOf 2 (some .int) 0 0 [.ref 46, .int p0] sh G0 (fun r G' => ∃ v, r = some (.int v) ∧ K v G') := by
  refine CT0_of (by decide) (Nat.le_of_ble_eq_true rfl) rfl ?_
  intro p e s m args below meth c D tA ad A C hr _
  have h39 : ∀ (y0 : Int32) (G0 : Gt), w_X11_slotOf_j39 K y0 G0 → aw p l e { frames := 0, cells := 0, slots := 0, locals := 0 } s m args below meth c 2 D tA A (MQ below (QC0 D tA ad A sh (fun r G' => ∃ v, r = some (.int v) ∧ K v G')) args s 0 0 A) 0 0 ad 39 [none, none] [.int y0] sh G0 := by
    intro  y0 G0 hw
    unfold w_X11_slotOf_j39 at hw
    exact aw_ireturn C hr dX11_slotOf_39 ⟨_, rfl, hw⟩
  unfold w_X11_slotOf at hw
  show aw p l e { frames := 0, cells := 0, slots := 0, locals := 0 } s m args below meth c 2 D tA A (MQ below (QC0 D tA ad A sh (fun r G' => ∃ v, r = some (.int v) ∧ K v G')) args s 0 0 A) 0 0 ad 0 [some (.ref 46), some (.int p0)] [] sh G0
  refine aw_aloadn C dX11_slotOf_0 rfl ?_
  refine aw_getR (r := 47) C dX11_slotOf_1 kcX11 (sA_46 S) 1 (by decide) rfl mF_X11_7 ?_
  refine aw_aloadn C dX11_slotOf_4 rfl ?_
  refine aw_getR (r := 64) C dX11_slotOf_5 kcX11 (sA_46 S) 22 (by decide) rfl mF_X11_69 ?_
  refine aw_iloadn C dX11_slotOf_8 rfl ?_
  refine aw_iald C dX11_slotOf_9 (sA_64 S) hw.1 ?_
  replace hw := hw.2
  refine aw_iald C dX11_slotOf_10 (sA_47 S) hw.1 ?_
  replace hw := hw.2
  refine aw_bipush (v := 18) C dX11_slotOf_11 (by decide) ?_
  refine aw_ic_ne C dX11_slotOf_13 30 (by decide) hw (fun hc13 hw => ?_) (fun hc13 hw => ?_)
  · refine aw_aloadn C dX11_slotOf_30 rfl ?_
    refine aw_getR (r := 67) C dX11_slotOf_31 kcX11 (sA_46 S) 25 (by decide) rfl mF_X11_78 ?_
    refine aw_iloadn C dX11_slotOf_34 rfl ?_
    refine aw_iald C dX11_slotOf_35 (sA_67 S) hw.1 ?_
    replace hw := hw.2
    refine aw_bipush (v := 10) C dX11_slotOf_36 (by decide) ?_
    refine aw_isub C dX11_slotOf_38 ?_
    exact aw_msk [false, false] (h39 ((G0 67 (p0 : Int32).toNatClampNeg) - 10) _ hw)
  · refine aw_aloadn C dX11_slotOf_16 rfl ?_
    refine aw_getR (r := 48) C dX11_slotOf_17 kcX11 (sA_46 S) 2 (by decide) rfl mF_X11_13 ?_
    refine aw_aloadn C dX11_slotOf_20 rfl ?_
    refine aw_getR (r := 64) C dX11_slotOf_21 kcX11 (sA_46 S) 22 (by decide) rfl mF_X11_69 ?_
    refine aw_iloadn C dX11_slotOf_24 rfl ?_
    refine aw_iald C dX11_slotOf_25 (sA_64 S) hw.1 ?_
    replace hw := hw.2
    refine aw_iald C dX11_slotOf_26 (sA_48 S) hw.1 ?_
    replace hw := hw.2
    refine aw_goto (tgt := 39) C dX11_slotOf_27 (by decide) ?_
    exact aw_msk [false, false] (h39 (G0 48 ((G0 64 (p0 : Int32).toNatClampNeg) : Int32).toNatClampNeg) _ hw)
def w_X11_puts_j27 (K : Gt → Prop)  (G0 : Gt) : Prop :=
  K G0
def w_X11_puts (K : Gt → Prop) (p0 : Int32) (p1 : Int32) (p2 : Int32) (G0 : Gt) : Prop :=
  pif (p1 = (-1)) (
    w_X11_fails (fun G3 =>
      w_X11_puts_j27 K G3) p0 (-1) G0) (
    vp_in p1 4960 ∧
    pt (gu G0 72 (p1 : Int32).toNatClampNeg p2) fun G1 =>
    w_X11_ends (fun G2 =>
      w_X11_puts_j27 K G2) p0 p2 G1)
set_option maxHeartbeats 4000000 in
set_option maxRecDepth 100000 in
theorem t_X11_puts {l : Launch} {sh : Sh} (S : shOK sh) (p0 : Int32) (p1 : Int32) (p2 : Int32) (G0 : Gt) (K : Gt → Prop) (hw : w_X11_puts K p0 p1 p2 G0) : CT0 l yX11_puts cX11_puts 4 none 1 22 [.ref 46, .int p0, .int p1, .int p2] sh G0 (fun r G' => r = none ∧ K G') := by
  refine CT0_of (by decide) (Nat.le_of_ble_eq_true rfl) rfl ?_
  intro p e s m args below meth c D tA ad A C hr _
  have h27 : ∀ (G0 : Gt), w_X11_puts_j27 K  G0 → aw p l e { frames := 1, cells := 0, slots := 0, locals := 22 } s m args below meth c 4 D tA A (MQ below (QC0 D tA ad A sh (fun r G' => r = none ∧ K G')) args s 0 0 A) 0 0 ad 27 [none, none, none, none] [] sh G0 := by
    intro   G0 hw
    unfold w_X11_puts_j27 at hw
    exact aw_return C hr dX11_puts_27 ⟨rfl, hw⟩
  unfold w_X11_puts at hw
  show aw p l e { frames := 1, cells := 0, slots := 0, locals := 22 } s m args below meth c 4 D tA A (MQ below (QC0 D tA ad A sh (fun r G' => r = none ∧ K G')) args s 0 0 A) 0 0 ad 0 [some (.ref 46), some (.int p0), some (.int p1), some (.int p2)] [] sh G0
  refine aw_iloadn C dX11_puts_0 rfl ?_
  refine aw_iconst (v := (-1)) C dX11_puts_1 (by decide) ?_
  refine aw_ic_ne C dX11_puts_2 14 (by decide) hw (fun hc2 hw => ?_) (fun hc2 hw => ?_)
  · refine aw_aloadn C dX11_puts_14 rfl ?_
    refine aw_getR (r := 72) C dX11_puts_15 kcX11 (sA_46 S) 31 (by decide) rfl mF_X11_93 ?_
    refine aw_iloadn C dX11_puts_18 rfl ?_
    refine aw_iloadn C dX11_puts_19 rfl ?_
    refine aw_iast C dX11_puts_20 (sA_72 S) hw.1 hw.2 (fun G1 hw => ?_)
    refine aw_aloadn C dX11_puts_21 rfl ?_
    refine aw_iloadn C dX11_puts_22 rfl ?_
    refine aw_iloadn C dX11_puts_23 rfl ?_
    refine aw_callV C dX11_puts_24 (t_X11_ends S p0 p2 _ _ hw) mM_X11_262 bX11_ends (sA_46 S) rfl rfl ⟨Nat.le_of_ble_eq_true rfl, Nat.le_of_ble_eq_true rfl, Nat.zero_le _, Nat.zero_le _⟩ _ rfl (Nat.le_of_ble_eq_true rfl) (fun r24 G2 hq => ?_)
    obtain ⟨rfl, hw⟩ := hq
    exact aw_msk [false, false, false, false] (h27 _ hw)
  · refine aw_aloadn C dX11_puts_5 rfl ?_
    refine aw_iloadn C dX11_puts_6 rfl ?_
    refine aw_iconst (v := (-1)) C dX11_puts_7 (by decide) ?_
    refine aw_callV C dX11_puts_8 (t_X11_fails S p0 (-1) _ _ hw) mM_X11_237 bX11_fails (sA_46 S) rfl rfl ⟨Nat.le_of_ble_eq_true rfl, Nat.le_of_ble_eq_true rfl, Nat.zero_le _, Nat.zero_le _⟩ _ rfl (Nat.le_of_ble_eq_true rfl) (fun r8 G3 hq => ?_)
    obtain ⟨rfl, hw⟩ := hq
    refine aw_goto (tgt := 27) C dX11_puts_11 (by decide) ?_
    exact aw_msk [false, false, false, false] (h27 _ hw)
def w_X11_isNumber_j12 (K : Int32 → Gt → Prop) (y0 : Int32) (G0 : Gt) : Prop :=
  bz y0 ∧ K y0 G0
def w_X11_isNumber (K : Int32 → Gt → Prop) (p0 : Int32) (G0 : Gt) : Prop :=
  pif (20000 ≤ p0) (
    w_X11_isNumber_j12 K 0 G0) (
    w_X11_isNumber_j12 K 1 G0)
set_option maxHeartbeats 4000000 in
set_option maxRecDepth 100000 in
theorem t_X11_isNumber {l : Launch} {sh : Sh}  (p0 : Int32) (G0 : Gt) (K : Int32 → Gt → Prop) (hw : w_X11_isNumber K p0 G0) : CT0 l yX11_isNumber cX11_isNumber 1 (some .boolean) 0 0 [.int p0] sh G0 (fun r G' => ∃ v, r = some (.int v) ∧ K v G') := by
  refine CT0_of (by decide) (Nat.le_of_ble_eq_true rfl) rfl ?_
  intro p e s m args below meth c D tA ad A C hr _
  have h12 : ∀ (y0 : Int32) (G0 : Gt), w_X11_isNumber_j12 K y0 G0 → aw p l e { frames := 0, cells := 0, slots := 0, locals := 0 } s m args below meth c 1 D tA A (MQ below (QC0 D tA ad A sh (fun r G' => ∃ v, r = some (.int v) ∧ K v G')) args s 0 0 A) 0 0 ad 12 [none] [.int y0] sh G0 := by
    intro  y0 G0 hw
    unfold w_X11_isNumber_j12 at hw
    exact aw_zreturn C hr dX11_isNumber_12 (bz_n hw.1) ⟨_, rfl, hw.2⟩
  unfold w_X11_isNumber at hw
  show aw p l e { frames := 0, cells := 0, slots := 0, locals := 0 } s m args below meth c 1 D tA A (MQ below (QC0 D tA ad A sh (fun r G' => ∃ v, r = some (.int v) ∧ K v G')) args s 0 0 A) 0 0 ad 0 [some (.int p0)] [] sh G0
  refine aw_iloadn C dX11_isNumber_0 rfl ?_
  refine aw_sipush (v := 20000) C dX11_isNumber_1 (by decide) ?_
  refine aw_ic_ge C dX11_isNumber_4 11 (by decide) hw (fun hc4 hw => ?_) (fun hc4 hw => ?_)
  · refine aw_iconst (v := 0) C dX11_isNumber_11 (by decide) ?_
    exact aw_msk [false] (h12 0 _ hw)
  · refine aw_iconst (v := 1) C dX11_isNumber_7 (by decide) ?_
    refine aw_goto (tgt := 12) C dX11_isNumber_8 (by decide) ?_
    exact aw_msk [false] (h12 1 _ hw)
def w_X11_within_j27 (K : Int32 → Gt → Prop) (y0 : Int32) (G0 : Gt) : Prop :=
  K y0 G0
def w_X11_within (K : Int32 → Gt → Prop) (p0 : Int32) (G0 : Gt) : Prop :=
  pif (p0 ≤ 9999) (
    pif ((-9999) ≤ p0) (
      w_X11_within_j27 K p0 G0) (
      w_X11_within_j27 K (-9999) G0)) (
    w_X11_within_j27 K 9999 G0)
set_option maxHeartbeats 4000000 in
set_option maxRecDepth 100000 in
theorem t_X11_within {l : Launch} {sh : Sh}  (p0 : Int32) (G0 : Gt) (K : Int32 → Gt → Prop) (hw : w_X11_within K p0 G0) : CT0 l yX11_within cX11_within 1 (some .int) 0 0 [.int p0] sh G0 (fun r G' => ∃ v, r = some (.int v) ∧ K v G') := by
  refine CT0_of (by decide) (Nat.le_of_ble_eq_true rfl) rfl ?_
  intro p e s m args below meth c D tA ad A C hr _
  have h27 : ∀ (y0 : Int32) (G0 : Gt), w_X11_within_j27 K y0 G0 → aw p l e { frames := 0, cells := 0, slots := 0, locals := 0 } s m args below meth c 1 D tA A (MQ below (QC0 D tA ad A sh (fun r G' => ∃ v, r = some (.int v) ∧ K v G')) args s 0 0 A) 0 0 ad 27 [none] [.int y0] sh G0 := by
    intro  y0 G0 hw
    unfold w_X11_within_j27 at hw
    exact aw_ireturn C hr dX11_within_27 ⟨_, rfl, hw⟩
  unfold w_X11_within at hw
  show aw p l e { frames := 0, cells := 0, slots := 0, locals := 0 } s m args below meth c 1 D tA A (MQ below (QC0 D tA ad A sh (fun r G' => ∃ v, r = some (.int v) ∧ K v G')) args s 0 0 A) 0 0 ad 0 [some (.int p0)] [] sh G0
  refine aw_iloadn C dX11_within_0 rfl ?_
  refine aw_sipush (v := 9999) C dX11_within_1 (by decide) ?_
  refine aw_ic_le C dX11_within_4 13 (by decide) hw (fun hc4 hw => ?_) (fun hc4 hw => ?_)
  · refine aw_iloadn C dX11_within_13 rfl ?_
    refine aw_sipush (v := (-9999)) C dX11_within_14 (by decide) ?_
    refine aw_ic_ge C dX11_within_17 26 (by decide) hw (fun hc17 hw => ?_) (fun hc17 hw => ?_)
    · refine aw_iloadn C dX11_within_26 rfl ?_
      exact aw_msk [false] (h27 p0 _ hw)
    · refine aw_sipush (v := (-9999)) C dX11_within_20 (by decide) ?_
      refine aw_goto (tgt := 27) C dX11_within_23 (by decide) ?_
      exact aw_msk [false] (h27 (-9999) _ hw)
  · refine aw_sipush (v := 9999) C dX11_within_7 (by decide) ?_
    refine aw_goto (tgt := 27) C dX11_within_10 (by decide) ?_
    exact aw_msk [false] (h27 9999 _ hw)
def w_X11_bodyOf_h2 (K : Int32 → Gt → Prop) : Nat → Int32 → Gt → Prop
  | 0, _, _ => False
  | n + 1, x2, G0 =>
    vp_in x2 1220 ∧
    pif ((G0 64 (x2 : Int32).toNatClampNeg) = (-1)) (
      K x2 G0) (
      vp_in x2 1220 ∧
      (w_X11_bodyOf_h2 K n) (G0 65 (x2 : Int32).toNatClampNeg) G0)
def w_X11_bodyOf (K : Int32 → Gt → Prop) (p0 : Int32) (G0 : Gt) : Prop :=
  ∃ i, w_X11_bodyOf_h2 K i p0 G0
set_option maxHeartbeats 4000000 in
set_option maxRecDepth 100000 in
theorem t_X11_bodyOf {l : Launch} {sh : Sh} (S : shOK sh) (p0 : Int32) (G0 : Gt) (K : Int32 → Gt → Prop) (hw : w_X11_bodyOf K p0 G0) : CT0 l yX11_bodyOf cX11_bodyOf 3 (some .int) 0 0 [.ref 46, .int p0] sh G0 (fun r G' => ∃ v, r = some (.int v) ∧ K v G') := by
  refine CT0_of (by decide) (Nat.le_of_ble_eq_true rfl) rfl ?_
  intro p e s m args below meth c D tA ad A C hr _
  have h2 : ∀ (n : Nat) (x2 : Int32) (G0 : Gt), w_X11_bodyOf_h2 K n x2 G0 → aw p l e { frames := 0, cells := 0, slots := 0, locals := 0 } s m args below meth c 3 D tA A (MQ below (QC0 D tA ad A sh (fun r G' => ∃ v, r = some (.int v) ∧ K v G')) args s 0 0 A) 0 0 ad 2 [some (.ref 46), none, some (.int x2)] [] sh G0 := by
    intro  n
    induction n with
    | zero => intro x2 G0 hw; exact hw.elim
    | succ n ih =>
      intro x2 G0 hw
      rw [w_X11_bodyOf_h2] at hw
      refine aw_aloadn C dX11_bodyOf_2 rfl ?_
      refine aw_getR (r := 64) C dX11_bodyOf_3 kcX11 (sA_46 S) 22 (by decide) rfl mF_X11_69 ?_
      refine aw_iloadn C dX11_bodyOf_6 rfl ?_
      refine aw_iald C dX11_bodyOf_7 (sA_64 S) hw.1 ?_
      replace hw := hw.2
      refine aw_iconst (v := (-1)) C dX11_bodyOf_8 (by decide) ?_
      refine aw_ic_eq C dX11_bodyOf_9 22 (by decide) hw (fun hc9 hw => ?_) (fun hc9 hw => ?_)
      · refine aw_iloadn C dX11_bodyOf_22 rfl ?_
        exact aw_ireturn C hr dX11_bodyOf_23 ⟨_, rfl, hw⟩
      · refine aw_aloadn C dX11_bodyOf_12 rfl ?_
        refine aw_getR (r := 65) C dX11_bodyOf_13 kcX11 (sA_46 S) 23 (by decide) rfl mF_X11_72 ?_
        refine aw_iloadn C dX11_bodyOf_16 rfl ?_
        refine aw_iald C dX11_bodyOf_17 (sA_65 S) hw.1 ?_
        replace hw := hw.2
        refine aw_istoren C dX11_bodyOf_18 (by decide) rfl ?_
        refine aw_goto (tgt := 2) C dX11_bodyOf_19 (by decide) ?_
        exact aw_msk [true, false, true] (ih (G0 65 (x2 : Int32).toNatClampNeg) _ hw)
  unfold w_X11_bodyOf at hw
  show aw p l e { frames := 0, cells := 0, slots := 0, locals := 0 } s m args below meth c 3 D tA A (MQ below (QC0 D tA ad A sh (fun r G' => ∃ v, r = some (.int v) ∧ K v G')) args s 0 0 A) 0 0 ad 0 [some (.ref 46), some (.int p0), none] [] sh G0
  refine aw_iloadn C dX11_bodyOf_0 rfl ?_
  refine aw_istoren C dX11_bodyOf_1 (by decide) rfl ?_
  obtain ⟨n0, hw⟩ := hw
  exact aw_msk [true, false, true] (h2 n0 p0 _ hw)
def w_X11_waits (K : Gt → Prop) (p0 : Int32) (p1 : Int32) (G0 : Gt) : Prop :=
  vp_in (6 * (G0 46 47)) 3660 ∧
  pt (gu G0 80 ((6 * (G0 46 47)) : Int32).toNatClampNeg (G0 46 41)) fun G1 =>
  vp_in ((6 * (G0 46 47)) + 1) 3660 ∧
  pt (gu G1 80 (((6 * (G0 46 47)) + 1) : Int32).toNatClampNeg (G1 46 42)) fun G2 =>
  vp_in ((6 * (G0 46 47)) + 2) 3660 ∧
  pt (gu G2 80 (((6 * (G0 46 47)) + 2) : Int32).toNatClampNeg (G2 46 43)) fun G3 =>
  vp_in ((6 * (G0 46 47)) + 3) 3660 ∧
  pt (gu G3 80 (((6 * (G0 46 47)) + 3) : Int32).toNatClampNeg (G3 46 44)) fun G4 =>
  vp_in ((6 * (G0 46 47)) + 4) 3660 ∧
  pt (gu G4 80 (((6 * (G0 46 47)) + 4) : Int32).toNatClampNeg (G4 46 45)) fun G5 =>
  vp_in ((6 * (G0 46 47)) + 5) 3660 ∧
  pt (gu G5 80 (((6 * (G0 46 47)) + 5) : Int32).toNatClampNeg (G5 46 46)) fun G6 =>
  vp_in p0 1220 ∧
  pt (gu G6 68 (p0 : Int32).toNatClampNeg (6 * (G0 46 47))) fun G7 =>
  pt (gu G7 46 47 ((G7 46 47) + 1)) fun G8 =>
  vp_in p1 120 ∧
  w_X11_parts (fun G9 =>
    K G9) (G8 49 (p1 : Int32).toNatClampNeg) p0 1 G8
set_option maxHeartbeats 4000000 in
set_option maxRecDepth 100000 in
theorem t_X11_waits {l : Launch} {sh : Sh} (S : shOK sh) (p0 : Int32) (p1 : Int32) (G0 : Gt) (K : Gt → Prop) (hw : w_X11_waits K p0 p1 G0) : CT0 l yX11_waits cX11_waits 4 none 2 46 [.ref 46, .int p0, .int p1] sh G0 (fun r G' => r = none ∧ K G') := by
  refine CT0_of (by decide) (Nat.le_of_ble_eq_true rfl) rfl ?_
  intro p e s m args below meth c D tA ad A C hr _
  unfold w_X11_waits at hw
  show aw p l e { frames := 2, cells := 0, slots := 0, locals := 46 } s m args below meth c 4 D tA A (MQ below (QC0 D tA ad A sh (fun r G' => r = none ∧ K G')) args s 0 0 A) 0 0 ad 0 [some (.ref 46), some (.int p0), some (.int p1), none] [] sh G0
  refine aw_bipush (v := 6) C dX11_waits_0 (by decide) ?_
  refine aw_aloadn C dX11_waits_2 rfl ?_
  refine aw_getI C dX11_waits_3 kcX11 (sA_46 S) 47 (by decide) rfl mF_X11_373 ?_
  refine aw_imul C dX11_waits_6 ?_
  refine aw_istoren C dX11_waits_7 (by decide) rfl ?_
  refine aw_aloadn C dX11_waits_8 rfl ?_
  refine aw_getR (r := 80) C dX11_waits_9 kcX11 (sA_46 S) 48 (by decide) rfl mF_X11_117 ?_
  refine aw_iloadn C dX11_waits_12 rfl ?_
  refine aw_aloadn C dX11_waits_13 rfl ?_
  refine aw_getI C dX11_waits_14 kcX11 (sA_46 S) 41 (by decide) rfl mF_X11_202 ?_
  refine aw_iast C dX11_waits_17 (sA_80 S) hw.1 hw.2 (fun G1 hw => ?_)
  refine aw_aloadn C dX11_waits_18 rfl ?_
  refine aw_getR (r := 80) C dX11_waits_19 kcX11 (sA_46 S) 48 (by decide) rfl mF_X11_117 ?_
  refine aw_iloadn C dX11_waits_22 rfl ?_
  refine aw_iconst (v := 1) C dX11_waits_23 (by decide) ?_
  refine aw_iadd C dX11_waits_24 ?_
  refine aw_aloadn C dX11_waits_25 rfl ?_
  refine aw_getI C dX11_waits_26 kcX11 (sA_46 S) 42 (by decide) rfl mF_X11_209 ?_
  refine aw_iast C dX11_waits_29 (sA_80 S) hw.1 hw.2 (fun G2 hw => ?_)
  refine aw_aloadn C dX11_waits_30 rfl ?_
  refine aw_getR (r := 80) C dX11_waits_31 kcX11 (sA_46 S) 48 (by decide) rfl mF_X11_117 ?_
  refine aw_iloadn C dX11_waits_34 rfl ?_
  refine aw_iconst (v := 2) C dX11_waits_35 (by decide) ?_
  refine aw_iadd C dX11_waits_36 ?_
  refine aw_aloadn C dX11_waits_37 rfl ?_
  refine aw_getI C dX11_waits_38 kcX11 (sA_46 S) 43 (by decide) rfl mF_X11_231 ?_
  refine aw_iast C dX11_waits_41 (sA_80 S) hw.1 hw.2 (fun G3 hw => ?_)
  refine aw_aloadn C dX11_waits_42 rfl ?_
  refine aw_getR (r := 80) C dX11_waits_43 kcX11 (sA_46 S) 48 (by decide) rfl mF_X11_117 ?_
  refine aw_iloadn C dX11_waits_46 rfl ?_
  refine aw_iconst (v := 3) C dX11_waits_47 (by decide) ?_
  refine aw_iadd C dX11_waits_48 ?_
  refine aw_aloadn C dX11_waits_49 rfl ?_
  refine aw_getI C dX11_waits_50 kcX11 (sA_46 S) 44 (by decide) rfl mF_X11_215 ?_
  refine aw_iast C dX11_waits_53 (sA_80 S) hw.1 hw.2 (fun G4 hw => ?_)
  refine aw_aloadn C dX11_waits_54 rfl ?_
  refine aw_getR (r := 80) C dX11_waits_55 kcX11 (sA_46 S) 48 (by decide) rfl mF_X11_117 ?_
  refine aw_iloadn C dX11_waits_58 rfl ?_
  refine aw_iconst (v := 4) C dX11_waits_59 (by decide) ?_
  refine aw_iadd C dX11_waits_60 ?_
  refine aw_aloadn C dX11_waits_61 rfl ?_
  refine aw_getI C dX11_waits_62 kcX11 (sA_46 S) 45 (by decide) rfl mF_X11_218 ?_
  refine aw_iast C dX11_waits_65 (sA_80 S) hw.1 hw.2 (fun G5 hw => ?_)
  refine aw_aloadn C dX11_waits_66 rfl ?_
  refine aw_getR (r := 80) C dX11_waits_67 kcX11 (sA_46 S) 48 (by decide) rfl mF_X11_117 ?_
  refine aw_iloadn C dX11_waits_70 rfl ?_
  refine aw_iconst (v := 5) C dX11_waits_71 (by decide) ?_
  refine aw_iadd C dX11_waits_72 ?_
  refine aw_aloadn C dX11_waits_73 rfl ?_
  refine aw_getI C dX11_waits_74 kcX11 (sA_46 S) 46 (by decide) rfl mF_X11_224 ?_
  refine aw_iast C dX11_waits_77 (sA_80 S) hw.1 hw.2 (fun G6 hw => ?_)
  refine aw_aloadn C dX11_waits_78 rfl ?_
  refine aw_getR (r := 68) C dX11_waits_79 kcX11 (sA_46 S) 26 (by decide) rfl mF_X11_81 ?_
  refine aw_iloadn C dX11_waits_82 rfl ?_
  refine aw_iloadn C dX11_waits_83 rfl ?_
  refine aw_iast C dX11_waits_84 (sA_68 S) hw.1 hw.2 (fun G7 hw => ?_)
  refine aw_aloadn C dX11_waits_85 rfl ?_
  refine aw_dup C dX11_waits_86 rfl ?_
  refine aw_getI C dX11_waits_87 kcX11 (sA_46 S) 47 (by decide) rfl mF_X11_373 ?_
  refine aw_iconst (v := 1) C dX11_waits_90 (by decide) ?_
  refine aw_iadd C dX11_waits_91 ?_
  refine aw_putI C dX11_waits_92 kcX11 (sA_46 S) 47 (by decide) rfl mF_X11_373 rfl rfl rfl hw (fun G8 hw => ?_)
  refine aw_aloadn C dX11_waits_95 rfl ?_
  refine aw_aloadn C dX11_waits_96 rfl ?_
  refine aw_getR (r := 49) C dX11_waits_97 kcX11 (sA_46 S) 3 (by decide) rfl mF_X11_16 ?_
  refine aw_iloadn C dX11_waits_100 rfl ?_
  refine aw_iald C dX11_waits_101 (sA_49 S) hw.1 ?_
  replace hw := hw.2
  refine aw_iloadn C dX11_waits_102 rfl ?_
  refine aw_iconst (v := 1) C dX11_waits_103 (by decide) ?_
  refine aw_callV C dX11_waits_104 (t_X11_parts S (G8 49 (p1 : Int32).toNatClampNeg) p0 1 _ _ hw) mM_X11_273 bX11_parts (sA_46 S) rfl rfl ⟨Nat.le_of_ble_eq_true rfl, Nat.le_of_ble_eq_true rfl, Nat.zero_le _, Nat.zero_le _⟩ _ rfl (Nat.le_of_ble_eq_true rfl) (fun r104 G9 hq => ?_)
  obtain ⟨rfl, hw⟩ := hq
  exact aw_return C hr dX11_waits_107 ⟨rfl, hw⟩
def w_X11_isOver (K : Gt → Prop) (p0 : Int32) (G0 : Gt) : Prop :=
  vp_in p0 1220 ∧
  vp_in (G0 68 (p0 : Int32).toNatClampNeg) 3660 ∧
  pt (gu G0 46 41 (G0 80 ((G0 68 (p0 : Int32).toNatClampNeg) : Int32).toNatClampNeg)) fun G1 =>
  vp_in ((G0 68 (p0 : Int32).toNatClampNeg) + 1) 3660 ∧
  pt (gu G1 46 42 (G1 80 (((G0 68 (p0 : Int32).toNatClampNeg) + 1) : Int32).toNatClampNeg)) fun G2 =>
  vp_in ((G0 68 (p0 : Int32).toNatClampNeg) + 2) 3660 ∧
  pt (gu G2 46 43 (G2 80 (((G0 68 (p0 : Int32).toNatClampNeg) + 2) : Int32).toNatClampNeg)) fun G3 =>
  vp_in ((G0 68 (p0 : Int32).toNatClampNeg) + 3) 3660 ∧
  pt (gu G3 46 44 (G3 80 (((G0 68 (p0 : Int32).toNatClampNeg) + 3) : Int32).toNatClampNeg)) fun G4 =>
  vp_in ((G0 68 (p0 : Int32).toNatClampNeg) + 4) 3660 ∧
  pt (gu G4 46 45 (G4 80 (((G0 68 (p0 : Int32).toNatClampNeg) + 4) : Int32).toNatClampNeg)) fun G5 =>
  vp_in ((G0 68 (p0 : Int32).toNatClampNeg) + 5) 3660 ∧
  pt (gu G5 46 46 (G5 80 (((G0 68 (p0 : Int32).toNatClampNeg) + 5) : Int32).toNatClampNeg)) fun G6 =>
  vp_in p0 1220 ∧
  pt (gu G6 46 57 (G6 65 (p0 : Int32).toNatClampNeg)) fun G7 =>
  K G7
set_option maxHeartbeats 4000000 in
set_option maxRecDepth 100000 in
theorem t_X11_isOver {l : Launch} {sh : Sh} (S : shOK sh) (p0 : Int32) (G0 : Gt) (K : Gt → Prop) (hw : w_X11_isOver K p0 G0) : CT0 l yX11_isOver cX11_isOver 3 none 0 0 [.ref 46, .int p0] sh G0 (fun r G' => r = none ∧ K G') := by
  refine CT0_of (by decide) (Nat.le_of_ble_eq_true rfl) rfl ?_
  intro p e s m args below meth c D tA ad A C hr _
  unfold w_X11_isOver at hw
  show aw p l e { frames := 0, cells := 0, slots := 0, locals := 0 } s m args below meth c 3 D tA A (MQ below (QC0 D tA ad A sh (fun r G' => r = none ∧ K G')) args s 0 0 A) 0 0 ad 0 [some (.ref 46), some (.int p0), none] [] sh G0
  refine aw_aloadn C dX11_isOver_0 rfl ?_
  refine aw_getR (r := 68) C dX11_isOver_1 kcX11 (sA_46 S) 26 (by decide) rfl mF_X11_81 ?_
  refine aw_iloadn C dX11_isOver_4 rfl ?_
  refine aw_iald C dX11_isOver_5 (sA_68 S) hw.1 ?_
  replace hw := hw.2
  refine aw_istoren C dX11_isOver_6 (by decide) rfl ?_
  refine aw_aloadn C dX11_isOver_7 rfl ?_
  refine aw_aloadn C dX11_isOver_8 rfl ?_
  refine aw_getR (r := 80) C dX11_isOver_9 kcX11 (sA_46 S) 48 (by decide) rfl mF_X11_117 ?_
  refine aw_iloadn C dX11_isOver_12 rfl ?_
  refine aw_iald C dX11_isOver_13 (sA_80 S) hw.1 ?_
  replace hw := hw.2
  refine aw_putI C dX11_isOver_14 kcX11 (sA_46 S) 41 (by decide) rfl mF_X11_202 rfl rfl rfl hw (fun G1 hw => ?_)
  refine aw_aloadn C dX11_isOver_17 rfl ?_
  refine aw_aloadn C dX11_isOver_18 rfl ?_
  refine aw_getR (r := 80) C dX11_isOver_19 kcX11 (sA_46 S) 48 (by decide) rfl mF_X11_117 ?_
  refine aw_iloadn C dX11_isOver_22 rfl ?_
  refine aw_iconst (v := 1) C dX11_isOver_23 (by decide) ?_
  refine aw_iadd C dX11_isOver_24 ?_
  refine aw_iald C dX11_isOver_25 (sA_80 S) hw.1 ?_
  replace hw := hw.2
  refine aw_putI C dX11_isOver_26 kcX11 (sA_46 S) 42 (by decide) rfl mF_X11_209 rfl rfl rfl hw (fun G2 hw => ?_)
  refine aw_aloadn C dX11_isOver_29 rfl ?_
  refine aw_aloadn C dX11_isOver_30 rfl ?_
  refine aw_getR (r := 80) C dX11_isOver_31 kcX11 (sA_46 S) 48 (by decide) rfl mF_X11_117 ?_
  refine aw_iloadn C dX11_isOver_34 rfl ?_
  refine aw_iconst (v := 2) C dX11_isOver_35 (by decide) ?_
  refine aw_iadd C dX11_isOver_36 ?_
  refine aw_iald C dX11_isOver_37 (sA_80 S) hw.1 ?_
  replace hw := hw.2
  refine aw_putI C dX11_isOver_38 kcX11 (sA_46 S) 43 (by decide) rfl mF_X11_231 rfl rfl rfl hw (fun G3 hw => ?_)
  refine aw_aloadn C dX11_isOver_41 rfl ?_
  refine aw_aloadn C dX11_isOver_42 rfl ?_
  refine aw_getR (r := 80) C dX11_isOver_43 kcX11 (sA_46 S) 48 (by decide) rfl mF_X11_117 ?_
  refine aw_iloadn C dX11_isOver_46 rfl ?_
  refine aw_iconst (v := 3) C dX11_isOver_47 (by decide) ?_
  refine aw_iadd C dX11_isOver_48 ?_
  refine aw_iald C dX11_isOver_49 (sA_80 S) hw.1 ?_
  replace hw := hw.2
  refine aw_putI C dX11_isOver_50 kcX11 (sA_46 S) 44 (by decide) rfl mF_X11_215 rfl rfl rfl hw (fun G4 hw => ?_)
  refine aw_aloadn C dX11_isOver_53 rfl ?_
  refine aw_aloadn C dX11_isOver_54 rfl ?_
  refine aw_getR (r := 80) C dX11_isOver_55 kcX11 (sA_46 S) 48 (by decide) rfl mF_X11_117 ?_
  refine aw_iloadn C dX11_isOver_58 rfl ?_
  refine aw_iconst (v := 4) C dX11_isOver_59 (by decide) ?_
  refine aw_iadd C dX11_isOver_60 ?_
  refine aw_iald C dX11_isOver_61 (sA_80 S) hw.1 ?_
  replace hw := hw.2
  refine aw_putI C dX11_isOver_62 kcX11 (sA_46 S) 45 (by decide) rfl mF_X11_218 rfl rfl rfl hw (fun G5 hw => ?_)
  refine aw_aloadn C dX11_isOver_65 rfl ?_
  refine aw_aloadn C dX11_isOver_66 rfl ?_
  refine aw_getR (r := 80) C dX11_isOver_67 kcX11 (sA_46 S) 48 (by decide) rfl mF_X11_117 ?_
  refine aw_iloadn C dX11_isOver_70 rfl ?_
  refine aw_iconst (v := 5) C dX11_isOver_71 (by decide) ?_
  refine aw_iadd C dX11_isOver_72 ?_
  refine aw_iald C dX11_isOver_73 (sA_80 S) hw.1 ?_
  replace hw := hw.2
  refine aw_putI C dX11_isOver_74 kcX11 (sA_46 S) 46 (by decide) rfl mF_X11_224 rfl rfl rfl hw (fun G6 hw => ?_)
  refine aw_aloadn C dX11_isOver_77 rfl ?_
  refine aw_aloadn C dX11_isOver_78 rfl ?_
  refine aw_getR (r := 65) C dX11_isOver_79 kcX11 (sA_46 S) 23 (by decide) rfl mF_X11_72 ?_
  refine aw_iloadn C dX11_isOver_82 rfl ?_
  refine aw_iald C dX11_isOver_83 (sA_65 S) hw.1 ?_
  replace hw := hw.2
  refine aw_putI C dX11_isOver_84 kcX11 (sA_46 S) 57 (by decide) rfl mF_X11_212 rfl rfl rfl hw (fun G7 hw => ?_)
  exact aw_return C hr dX11_isOver_87 ⟨rfl, hw⟩
def w_X11_isBound_j70 (K : Int32 → Gt → Prop) (rec9 : Int32 → Int32 → Gt → Prop) (x2 : Int32) (y0 : Int32) (G0 : Gt) : Prop :=
  vp_in x2 1220 ∧
  rec9 (G0 65 (x2 : Int32).toNatClampNeg) y0 G0
def w_X11_isBound_j65 (K : Int32 → Gt → Prop) (rec9 : Int32 → Int32 → Gt → Prop) (x2 : Int32) (G0 : Gt) : Prop :=
  w_X11_isBound_j70 K rec9 x2 1 G0
def w_X11_isBound_j69 (K : Int32 → Gt → Prop) (rec9 : Int32 → Int32 → Gt → Prop) (x2 : Int32) (G0 : Gt) : Prop :=
  w_X11_isBound_j70 K rec9 x2 0 G0
def w_X11_isBound_h9 (K : Int32 → Gt → Prop) : Nat → Int32 → Int32 → Gt → Prop
  | 0, _, _, _ => False
  | n + 1, x2, x3, G0 =>
    vp_in x2 1220 ∧
    pif ((G0 64 (x2 : Int32).toNatClampNeg) = (-1)) (
      bz x3 ∧ K x3 G0) (
      pif (x3 = 0) (
        vp_in x2 1220 ∧
        vp_in (G0 64 (x2 : Int32).toNatClampNeg) 120 ∧
        pif ((G0 47 ((G0 64 (x2 : Int32).toNatClampNeg) : Int32).toNatClampNeg) = 36) (
          w_X11_isBound_j65 K (fun z0 z1 z2 => w_X11_isBound_h9 K n z0 z1 z2) x2 G0) (
          vp_in x2 1220 ∧
          vp_in (G0 64 (x2 : Int32).toNatClampNeg) 120 ∧
          pif ((G0 47 ((G0 64 (x2 : Int32).toNatClampNeg) : Int32).toNatClampNeg) = 26) (
            vp_in x2 1220 ∧
            pif ((G0 67 (x2 : Int32).toNatClampNeg) = 1) (
              w_X11_isBound_j65 K (fun z0 z1 z2 => w_X11_isBound_h9 K n z0 z1 z2) x2 G0) (
              w_X11_isBound_j69 K (fun z0 z1 z2 => w_X11_isBound_h9 K n z0 z1 z2) x2 G0)) (
            w_X11_isBound_j69 K (fun z0 z1 z2 => w_X11_isBound_h9 K n z0 z1 z2) x2 G0))) (
        w_X11_isBound_j65 K (fun z0 z1 z2 => w_X11_isBound_h9 K n z0 z1 z2) x2 G0))
def w_X11_isBound (K : Int32 → Gt → Prop) (p0 : Int32) (G0 : Gt) : Prop :=
  vp_in p0 1220 ∧
  ∃ i, w_X11_isBound_h9 K i (G0 65 (p0 : Int32).toNatClampNeg) 0 G0
set_option maxHeartbeats 4000000 in
set_option maxRecDepth 100000 in
theorem t_X11_isBound {l : Launch} {sh : Sh} (S : shOK sh) (p0 : Int32) (G0 : Gt) (K : Int32 → Gt → Prop) (hw : w_X11_isBound K p0 G0) : CT0 l yX11_isBound cX11_isBound 4 (some .boolean) 0 0 [.ref 46, .int p0] sh G0 (fun r G' => ∃ v, r = some (.int v) ∧ K v G') := by
  refine CT0_of (by decide) (Nat.le_of_ble_eq_true rfl) rfl ?_
  intro p e s m args below meth c D tA ad A C hr _
  have h70 : ∀ (rec9 : Int32 → Int32 → Gt → Prop) (hrec9 : ∀ (x2 : Int32) (x3 : Int32) (G0 : Gt), rec9 x2 x3 G0 → aw p l e { frames := 0, cells := 0, slots := 0, locals := 0 } s m args below meth c 4 D tA A (MQ below (QC0 D tA ad A sh (fun r G' => ∃ v, r = some (.int v) ∧ K v G')) args s 0 0 A) 0 0 ad 9 [some (.ref 46), none, some (.int x2), some (.int x3)] [] sh G0) (x2 : Int32) (y0 : Int32) (G0 : Gt), w_X11_isBound_j70 K rec9 x2 y0 G0 → aw p l e { frames := 0, cells := 0, slots := 0, locals := 0 } s m args below meth c 4 D tA A (MQ below (QC0 D tA ad A sh (fun r G' => ∃ v, r = some (.int v) ∧ K v G')) args s 0 0 A) 0 0 ad 70 [some (.ref 46), none, some (.int x2), none] [.int y0] sh G0 := by
    intro rec9 hrec9 x2 y0 G0 hw
    unfold w_X11_isBound_j70 at hw
    refine aw_istoren C dX11_isBound_70 (by decide) rfl ?_
    refine aw_aloadn C dX11_isBound_71 rfl ?_
    refine aw_getR (r := 65) C dX11_isBound_72 kcX11 (sA_46 S) 23 (by decide) rfl mF_X11_72 ?_
    refine aw_iloadn C dX11_isBound_75 rfl ?_
    refine aw_iald C dX11_isBound_76 (sA_65 S) hw.1 ?_
    replace hw := hw.2
    refine aw_istoren C dX11_isBound_77 (by decide) rfl ?_
    refine aw_goto (tgt := 9) C dX11_isBound_78 (by decide) ?_
    exact aw_msk [true, false, true, true] (hrec9 (G0 65 (x2 : Int32).toNatClampNeg) y0 _ hw)
  have h65 : ∀ (rec9 : Int32 → Int32 → Gt → Prop) (hrec9 : ∀ (x2 : Int32) (x3 : Int32) (G0 : Gt), rec9 x2 x3 G0 → aw p l e { frames := 0, cells := 0, slots := 0, locals := 0 } s m args below meth c 4 D tA A (MQ below (QC0 D tA ad A sh (fun r G' => ∃ v, r = some (.int v) ∧ K v G')) args s 0 0 A) 0 0 ad 9 [some (.ref 46), none, some (.int x2), some (.int x3)] [] sh G0) (x2 : Int32) (G0 : Gt), w_X11_isBound_j65 K rec9 x2 G0 → aw p l e { frames := 0, cells := 0, slots := 0, locals := 0 } s m args below meth c 4 D tA A (MQ below (QC0 D tA ad A sh (fun r G' => ∃ v, r = some (.int v) ∧ K v G')) args s 0 0 A) 0 0 ad 65 [some (.ref 46), none, some (.int x2), none] [] sh G0 := by
    intro rec9 hrec9 x2 G0 hw
    unfold w_X11_isBound_j65 at hw
    refine aw_iconst (v := 1) C dX11_isBound_65 (by decide) ?_
    refine aw_goto (tgt := 70) C dX11_isBound_66 (by decide) ?_
    exact aw_msk [true, false, true, false] (h70 _ hrec9 x2 1 _ hw)
  have h69 : ∀ (rec9 : Int32 → Int32 → Gt → Prop) (hrec9 : ∀ (x2 : Int32) (x3 : Int32) (G0 : Gt), rec9 x2 x3 G0 → aw p l e { frames := 0, cells := 0, slots := 0, locals := 0 } s m args below meth c 4 D tA A (MQ below (QC0 D tA ad A sh (fun r G' => ∃ v, r = some (.int v) ∧ K v G')) args s 0 0 A) 0 0 ad 9 [some (.ref 46), none, some (.int x2), some (.int x3)] [] sh G0) (x2 : Int32) (G0 : Gt), w_X11_isBound_j69 K rec9 x2 G0 → aw p l e { frames := 0, cells := 0, slots := 0, locals := 0 } s m args below meth c 4 D tA A (MQ below (QC0 D tA ad A sh (fun r G' => ∃ v, r = some (.int v) ∧ K v G')) args s 0 0 A) 0 0 ad 69 [some (.ref 46), none, some (.int x2), none] [] sh G0 := by
    intro rec9 hrec9 x2 G0 hw
    unfold w_X11_isBound_j69 at hw
    refine aw_iconst (v := 0) C dX11_isBound_69 (by decide) ?_
    exact aw_msk [true, false, true, false] (h70 _ hrec9 x2 0 _ hw)
  have h9 : ∀ (n : Nat) (x2 : Int32) (x3 : Int32) (G0 : Gt), w_X11_isBound_h9 K n x2 x3 G0 → aw p l e { frames := 0, cells := 0, slots := 0, locals := 0 } s m args below meth c 4 D tA A (MQ below (QC0 D tA ad A sh (fun r G' => ∃ v, r = some (.int v) ∧ K v G')) args s 0 0 A) 0 0 ad 9 [some (.ref 46), none, some (.int x2), some (.int x3)] [] sh G0 := by
    intro  n
    induction n with
    | zero => intro x2 x3 G0 hw; exact hw.elim
    | succ n ih =>
      intro x2 x3 G0 hw
      rw [w_X11_isBound_h9] at hw
      refine aw_aloadn C dX11_isBound_9 rfl ?_
      refine aw_getR (r := 64) C dX11_isBound_10 kcX11 (sA_46 S) 22 (by decide) rfl mF_X11_69 ?_
      refine aw_iloadn C dX11_isBound_13 rfl ?_
      refine aw_iald C dX11_isBound_14 (sA_64 S) hw.1 ?_
      replace hw := hw.2
      refine aw_iconst (v := (-1)) C dX11_isBound_15 (by decide) ?_
      refine aw_ic_eq C dX11_isBound_16 81 (by decide) hw (fun hc16 hw => ?_) (fun hc16 hw => ?_)
      · refine aw_iloadn C dX11_isBound_81 rfl ?_
        exact aw_zreturn C hr dX11_isBound_82 (bz_n hw.1) ⟨_, rfl, hw.2⟩
      · refine aw_iloadn C dX11_isBound_19 rfl ?_
        refine aw_if_ne C dX11_isBound_20 65 (by decide) hw (fun hc20 hw => ?_) (fun hc20 hw => ?_)
        · exact aw_msk [true, false, true, false] (h65 _ ih x2 _ hw)
        · refine aw_aloadn C dX11_isBound_23 rfl ?_
          refine aw_getR (r := 47) C dX11_isBound_24 kcX11 (sA_46 S) 1 (by decide) rfl mF_X11_7 ?_
          refine aw_aloadn C dX11_isBound_27 rfl ?_
          refine aw_getR (r := 64) C dX11_isBound_28 kcX11 (sA_46 S) 22 (by decide) rfl mF_X11_69 ?_
          refine aw_iloadn C dX11_isBound_31 rfl ?_
          refine aw_iald C dX11_isBound_32 (sA_64 S) hw.1 ?_
          replace hw := hw.2
          refine aw_iald C dX11_isBound_33 (sA_47 S) hw.1 ?_
          replace hw := hw.2
          refine aw_bipush (v := 36) C dX11_isBound_34 (by decide) ?_
          refine aw_ic_eq C dX11_isBound_36 65 (by decide) hw (fun hc36 hw => ?_) (fun hc36 hw => ?_)
          · exact aw_msk [true, false, true, false] (h65 _ ih x2 _ hw)
          · refine aw_aloadn C dX11_isBound_39 rfl ?_
            refine aw_getR (r := 47) C dX11_isBound_40 kcX11 (sA_46 S) 1 (by decide) rfl mF_X11_7 ?_
            refine aw_aloadn C dX11_isBound_43 rfl ?_
            refine aw_getR (r := 64) C dX11_isBound_44 kcX11 (sA_46 S) 22 (by decide) rfl mF_X11_69 ?_
            refine aw_iloadn C dX11_isBound_47 rfl ?_
            refine aw_iald C dX11_isBound_48 (sA_64 S) hw.1 ?_
            replace hw := hw.2
            refine aw_iald C dX11_isBound_49 (sA_47 S) hw.1 ?_
            replace hw := hw.2
            refine aw_bipush (v := 26) C dX11_isBound_50 (by decide) ?_
            refine aw_ic_ne C dX11_isBound_52 69 (by decide) hw (fun hc52 hw => ?_) (fun hc52 hw => ?_)
            · exact aw_msk [true, false, true, false] (h69 _ ih x2 _ hw)
            · refine aw_aloadn C dX11_isBound_55 rfl ?_
              refine aw_getR (r := 67) C dX11_isBound_56 kcX11 (sA_46 S) 25 (by decide) rfl mF_X11_78 ?_
              refine aw_iloadn C dX11_isBound_59 rfl ?_
              refine aw_iald C dX11_isBound_60 (sA_67 S) hw.1 ?_
              replace hw := hw.2
              refine aw_iconst (v := 1) C dX11_isBound_61 (by decide) ?_
              refine aw_ic_ne C dX11_isBound_62 69 (by decide) hw (fun hc62 hw => ?_) (fun hc62 hw => ?_)
              · exact aw_msk [true, false, true, false] (h69 _ ih x2 _ hw)
              · exact aw_msk [true, false, true, false] (h65 _ ih x2 _ hw)
  unfold w_X11_isBound at hw
  show aw p l e { frames := 0, cells := 0, slots := 0, locals := 0 } s m args below meth c 4 D tA A (MQ below (QC0 D tA ad A sh (fun r G' => ∃ v, r = some (.int v) ∧ K v G')) args s 0 0 A) 0 0 ad 0 [some (.ref 46), some (.int p0), none, none] [] sh G0
  refine aw_aloadn C dX11_isBound_0 rfl ?_
  refine aw_getR (r := 65) C dX11_isBound_1 kcX11 (sA_46 S) 23 (by decide) rfl mF_X11_72 ?_
  refine aw_iloadn C dX11_isBound_4 rfl ?_
  refine aw_iald C dX11_isBound_5 (sA_65 S) hw.1 ?_
  replace hw := hw.2
  refine aw_istoren C dX11_isBound_6 (by decide) rfl ?_
  refine aw_iconst (v := 0) C dX11_isBound_7 (by decide) ?_
  refine aw_istoren C dX11_isBound_8 (by decide) rfl ?_
  obtain ⟨n0, hw⟩ := hw
  exact aw_msk [true, false, true, true] (h9 n0 (G0 65 (p0 : Int32).toNatClampNeg) 0 _ hw)
def w_X11_inserts_j138 (K : Gt → Prop) (rec86 : Int32 → Int32 → Gt → Prop) (x2 : Int32) (x3 : Int32) (y1 : Int32) (y2 : Int32) (y3 : Int32) (G0 : Gt) : Prop :=
  vp_in y1 8 ∧
  pt (gu G0 60 (y1 : Int32).toNatClampNeg (y2 + y3)) fun G5 =>
  rec86 x2 (x3 + 1) G5
def w_X11_inserts_j133 (K : Gt → Prop) (rec86 : Int32 → Int32 → Gt → Prop) (x2 : Int32) (x3 : Int32) (y1 : Int32) (y2 : Int32) (G0 : Gt) : Prop :=
  w_X11_inserts_j138 K rec86 x2 x3 y1 y2 1 G0
def w_X11_inserts_h86 (K : Gt → Prop) : Nat → Int32 → Int32 → Gt → Prop
  | 0, _, _, _ => False
  | n + 1, x2, x3, G0 =>
    pif (4 ≤ x3) (
      K G0) (
      vp_in ((4 * (G0 46 14)) + x3) 8 ∧
      vp_in ((4 * (G0 46 14)) + x3) 8 ∧
      pif (x2 < (G0 60 (((4 * (G0 46 14)) + x3) : Int32).toNatClampNeg)) (
        w_X11_inserts_j133 K (fun z0 z1 z2 => w_X11_inserts_h86 K n z0 z1 z2) x2 x3 ((4 * (G0 46 14)) + x3) (G0 60 (((4 * (G0 46 14)) + x3) : Int32).toNatClampNeg) G0) (
        vp_in (G0 46 14) 2 ∧
        pif (x3 = (G0 61 ((G0 46 14) : Int32).toNatClampNeg)) (
          w_X11_inserts_j133 K (fun z0 z1 z2 => w_X11_inserts_h86 K n z0 z1 z2) x2 x3 ((4 * (G0 46 14)) + x3) (G0 60 (((4 * (G0 46 14)) + x3) : Int32).toNatClampNeg) G0) (
          w_X11_inserts_j138 K (fun z0 z1 z2 => w_X11_inserts_h86 K n z0 z1 z2) x2 x3 ((4 * (G0 46 14)) + x3) (G0 60 (((4 * (G0 46 14)) + x3) : Int32).toNatClampNeg) 0 G0)))
def w_X11_inserts_h15 (K : Gt → Prop) : Nat → Int32 → Int32 → Int32 → Gt → Prop
  | 0, _, _, _, _ => False
  | n + 1, x1, x2, x3, G0 =>
    pif (x3 ≤ x2) (
      vp_in ((40 * (G0 46 14)) + x2) 80 ∧
      pt (gu G0 58 (((40 * (G0 46 14)) + x2) : Int32).toNatClampNeg x1) fun G3 =>
      vp_in (G3 46 14) 2 ∧
      vp_in (G3 46 14) 2 ∧
      pt (gu G3 59 ((G3 46 14) : Int32).toNatClampNeg ((G3 59 ((G3 46 14) : Int32).toNatClampNeg) + 1)) fun G4 =>
      ∃ i, w_X11_inserts_h86 K i x2 0 G4) (
      vp_in (((40 * (G0 46 14)) + x3) - 1) 80 ∧
      vp_in ((40 * (G0 46 14)) + x3) 80 ∧
      pt (gu G0 58 (((40 * (G0 46 14)) + x3) : Int32).toNatClampNeg (G0 58 ((((40 * (G0 46 14)) + x3) - 1) : Int32).toNatClampNeg)) fun G6 =>
      (w_X11_inserts_h15 K n) x1 x2 (x3 + (-1)) G6)
def w_X11_inserts (K : Gt → Prop) (p0 : Int32) (G0 : Gt) : Prop :=
  w_X11_place (fun v2 G1 =>
    vp_in (G1 46 14) 2 ∧
    ∃ i, w_X11_inserts_h15 K i p0 v2 (G1 59 ((G1 46 14) : Int32).toNatClampNeg) G1) G0
set_option maxHeartbeats 4000000 in
set_option maxRecDepth 100000 in
theorem t_X11_inserts {l : Launch} {sh : Sh} (S : shOK sh) (p0 : Int32) (G0 : Gt) (K : Gt → Prop) (hw : w_X11_inserts K p0 G0) : CT0 l yX11_inserts cX11_inserts 5 none 1 20 [.ref 46, .int p0] sh G0 (fun r G' => r = none ∧ K G') := by
  refine CT0_of (by decide) (Nat.le_of_ble_eq_true rfl) rfl ?_
  intro p e s m args below meth c D tA ad A C hr _
  have h138 : ∀ (rec86 : Int32 → Int32 → Gt → Prop) (hrec86 : ∀ (x2 : Int32) (x3 : Int32) (G0 : Gt), rec86 x2 x3 G0 → aw p l e { frames := 1, cells := 0, slots := 0, locals := 20 } s m args below meth c 5 D tA A (MQ below (QC0 D tA ad A sh (fun r G' => r = none ∧ K G')) args s 0 0 A) 0 0 ad 86 [some (.ref 46), none, some (.int x2), some (.int x3), none] [] sh G0) (x2 : Int32) (x3 : Int32) (y1 : Int32) (y2 : Int32) (y3 : Int32) (G0 : Gt), w_X11_inserts_j138 K rec86 x2 x3 y1 y2 y3 G0 → aw p l e { frames := 1, cells := 0, slots := 0, locals := 20 } s m args below meth c 5 D tA A (MQ below (QC0 D tA ad A sh (fun r G' => r = none ∧ K G')) args s 0 0 A) 0 0 ad 138 [some (.ref 46), none, some (.int x2), some (.int x3), none] [.int y3, .int y2, .int y1, .ref 60] sh G0 := by
    intro rec86 hrec86 x2 x3 y1 y2 y3 G0 hw
    unfold w_X11_inserts_j138 at hw
    refine aw_iadd C dX11_inserts_138 ?_
    refine aw_iast C dX11_inserts_139 (sA_60 S) hw.1 hw.2 (fun G5 hw => ?_)
    refine aw_iinc (w := (x3 + 1)) C dX11_inserts_140 rfl rfl (by decide) rfl ?_
    refine aw_goto (tgt := 86) C dX11_inserts_143 (by decide) ?_
    exact aw_msk [true, false, true, true, false] (hrec86 x2 (x3 + 1) _ hw)
  have h133 : ∀ (rec86 : Int32 → Int32 → Gt → Prop) (hrec86 : ∀ (x2 : Int32) (x3 : Int32) (G0 : Gt), rec86 x2 x3 G0 → aw p l e { frames := 1, cells := 0, slots := 0, locals := 20 } s m args below meth c 5 D tA A (MQ below (QC0 D tA ad A sh (fun r G' => r = none ∧ K G')) args s 0 0 A) 0 0 ad 86 [some (.ref 46), none, some (.int x2), some (.int x3), none] [] sh G0) (x2 : Int32) (x3 : Int32) (y1 : Int32) (y2 : Int32) (G0 : Gt), w_X11_inserts_j133 K rec86 x2 x3 y1 y2 G0 → aw p l e { frames := 1, cells := 0, slots := 0, locals := 20 } s m args below meth c 5 D tA A (MQ below (QC0 D tA ad A sh (fun r G' => r = none ∧ K G')) args s 0 0 A) 0 0 ad 133 [some (.ref 46), none, some (.int x2), some (.int x3), none] [.int y2, .int y1, .ref 60] sh G0 := by
    intro rec86 hrec86 x2 x3 y1 y2 G0 hw
    unfold w_X11_inserts_j133 at hw
    refine aw_iconst (v := 1) C dX11_inserts_133 (by decide) ?_
    refine aw_goto (tgt := 138) C dX11_inserts_134 (by decide) ?_
    exact aw_msk [true, false, true, true, false] (h138 _ hrec86 x2 x3 y1 y2 1 _ hw)
  have h86 : ∀ (n : Nat) (x2 : Int32) (x3 : Int32) (G0 : Gt), w_X11_inserts_h86 K n x2 x3 G0 → aw p l e { frames := 1, cells := 0, slots := 0, locals := 20 } s m args below meth c 5 D tA A (MQ below (QC0 D tA ad A sh (fun r G' => r = none ∧ K G')) args s 0 0 A) 0 0 ad 86 [some (.ref 46), none, some (.int x2), some (.int x3), none] [] sh G0 := by
    intro  n
    induction n with
    | zero => intro x2 x3 G0 hw; exact hw.elim
    | succ n ih =>
      intro x2 x3 G0 hw
      rw [w_X11_inserts_h86] at hw
      refine aw_iloadn C dX11_inserts_86 rfl ?_
      refine aw_iconst (v := 4) C dX11_inserts_87 (by decide) ?_
      refine aw_ic_ge C dX11_inserts_88 146 (by decide) hw (fun hc88 hw => ?_) (fun hc88 hw => ?_)
      · exact aw_return C hr dX11_inserts_146 ⟨rfl, hw⟩
      · refine aw_iconst (v := 4) C dX11_inserts_91 (by decide) ?_
        refine aw_aloadn C dX11_inserts_92 rfl ?_
        refine aw_getI C dX11_inserts_93 kcX11 (sA_46 S) 14 (by decide) rfl mF_X11_180 ?_
        refine aw_imul C dX11_inserts_96 ?_
        refine aw_iloadn C dX11_inserts_97 rfl ?_
        refine aw_iadd C dX11_inserts_98 ?_
        refine aw_istore C dX11_inserts_99 (by decide) rfl ?_
        refine aw_aloadn C dX11_inserts_101 rfl ?_
        refine aw_getR (r := 60) C dX11_inserts_102 kcX11 (sA_46 S) 17 (by decide) rfl mF_X11_57 ?_
        refine aw_iload C dX11_inserts_105 rfl ?_
        refine aw_dup2 C dX11_inserts_107 rfl rfl ?_
        refine aw_iald C dX11_inserts_108 (sA_60 S) hw.1 ?_
        replace hw := hw.2
        refine aw_aloadn C dX11_inserts_109 rfl ?_
        refine aw_getR (r := 60) C dX11_inserts_110 kcX11 (sA_46 S) 17 (by decide) rfl mF_X11_57 ?_
        refine aw_iload C dX11_inserts_113 rfl ?_
        refine aw_iald C dX11_inserts_115 (sA_60 S) hw.1 ?_
        replace hw := hw.2
        refine aw_iloadn C dX11_inserts_116 rfl ?_
        refine aw_ic_gt C dX11_inserts_117 133 (by decide) hw (fun hc117 hw => ?_) (fun hc117 hw => ?_)
        · exact aw_msk [true, false, true, true, false] (h133 _ ih x2 x3 ((4 * (G0 46 14)) + x3) (G0 60 (((4 * (G0 46 14)) + x3) : Int32).toNatClampNeg) _ hw)
        · refine aw_iloadn C dX11_inserts_120 rfl ?_
          refine aw_aloadn C dX11_inserts_121 rfl ?_
          refine aw_getR (r := 61) C dX11_inserts_122 kcX11 (sA_46 S) 18 (by decide) rfl mF_X11_60 ?_
          refine aw_aloadn C dX11_inserts_125 rfl ?_
          refine aw_getI C dX11_inserts_126 kcX11 (sA_46 S) 14 (by decide) rfl mF_X11_180 ?_
          refine aw_iald C dX11_inserts_129 (sA_61 S) hw.1 ?_
          replace hw := hw.2
          refine aw_ic_ne C dX11_inserts_130 137 (by decide) hw (fun hc130 hw => ?_) (fun hc130 hw => ?_)
          · refine aw_iconst (v := 0) C dX11_inserts_137 (by decide) ?_
            exact aw_msk [true, false, true, true, false] (h138 _ ih x2 x3 ((4 * (G0 46 14)) + x3) (G0 60 (((4 * (G0 46 14)) + x3) : Int32).toNatClampNeg) 0 _ hw)
          · exact aw_msk [true, false, true, true, false] (h133 _ ih x2 x3 ((4 * (G0 46 14)) + x3) (G0 60 (((4 * (G0 46 14)) + x3) : Int32).toNatClampNeg) _ hw)
  have h15 : ∀ (n : Nat) (x1 : Int32) (x2 : Int32) (x3 : Int32) (G0 : Gt), w_X11_inserts_h15 K n x1 x2 x3 G0 → aw p l e { frames := 1, cells := 0, slots := 0, locals := 20 } s m args below meth c 5 D tA A (MQ below (QC0 D tA ad A sh (fun r G' => r = none ∧ K G')) args s 0 0 A) 0 0 ad 15 [some (.ref 46), some (.int x1), some (.int x2), some (.int x3), none] [] sh G0 := by
    intro  n
    induction n with
    | zero => intro x1 x2 x3 G0 hw; exact hw.elim
    | succ n ih =>
      intro x1 x2 x3 G0 hw
      rw [w_X11_inserts_h15] at hw
      refine aw_iloadn C dX11_inserts_15 rfl ?_
      refine aw_iloadn C dX11_inserts_16 rfl ?_
      refine aw_ic_le C dX11_inserts_17 56 (by decide) hw (fun hc17 hw => ?_) (fun hc17 hw => ?_)
      · refine aw_aloadn C dX11_inserts_56 rfl ?_
        refine aw_getR (r := 58) C dX11_inserts_57 kcX11 (sA_46 S) 15 (by decide) rfl mF_X11_51 ?_
        refine aw_bipush (v := 40) C dX11_inserts_60 (by decide) ?_
        refine aw_aloadn C dX11_inserts_62 rfl ?_
        refine aw_getI C dX11_inserts_63 kcX11 (sA_46 S) 14 (by decide) rfl mF_X11_180 ?_
        refine aw_imul C dX11_inserts_66 ?_
        refine aw_iloadn C dX11_inserts_67 rfl ?_
        refine aw_iadd C dX11_inserts_68 ?_
        refine aw_iloadn C dX11_inserts_69 rfl ?_
        refine aw_iast C dX11_inserts_70 (sA_58 S) hw.1 hw.2 (fun G3 hw => ?_)
        refine aw_aloadn C dX11_inserts_71 rfl ?_
        refine aw_getR (r := 59) C dX11_inserts_72 kcX11 (sA_46 S) 16 (by decide) rfl mF_X11_54 ?_
        refine aw_aloadn C dX11_inserts_75 rfl ?_
        refine aw_getI C dX11_inserts_76 kcX11 (sA_46 S) 14 (by decide) rfl mF_X11_180 ?_
        refine aw_dup2 C dX11_inserts_79 rfl rfl ?_
        refine aw_iald C dX11_inserts_80 (sA_59 S) hw.1 ?_
        replace hw := hw.2
        refine aw_iconst (v := 1) C dX11_inserts_81 (by decide) ?_
        refine aw_iadd C dX11_inserts_82 ?_
        refine aw_iast C dX11_inserts_83 (sA_59 S) hw.1 hw.2 (fun G4 hw => ?_)
        refine aw_iconst (v := 0) C dX11_inserts_84 (by decide) ?_
        refine aw_istoren C dX11_inserts_85 (by decide) rfl ?_
        obtain ⟨n0, hw⟩ := hw
        exact aw_msk [true, false, true, true, false] (h86 n0 x2 0 _ hw)
      · refine aw_aloadn C dX11_inserts_20 rfl ?_
        refine aw_getR (r := 58) C dX11_inserts_21 kcX11 (sA_46 S) 15 (by decide) rfl mF_X11_51 ?_
        refine aw_bipush (v := 40) C dX11_inserts_24 (by decide) ?_
        refine aw_aloadn C dX11_inserts_26 rfl ?_
        refine aw_getI C dX11_inserts_27 kcX11 (sA_46 S) 14 (by decide) rfl mF_X11_180 ?_
        refine aw_imul C dX11_inserts_30 ?_
        refine aw_iloadn C dX11_inserts_31 rfl ?_
        refine aw_iadd C dX11_inserts_32 ?_
        refine aw_aloadn C dX11_inserts_33 rfl ?_
        refine aw_getR (r := 58) C dX11_inserts_34 kcX11 (sA_46 S) 15 (by decide) rfl mF_X11_51 ?_
        refine aw_bipush (v := 40) C dX11_inserts_37 (by decide) ?_
        refine aw_aloadn C dX11_inserts_39 rfl ?_
        refine aw_getI C dX11_inserts_40 kcX11 (sA_46 S) 14 (by decide) rfl mF_X11_180 ?_
        refine aw_imul C dX11_inserts_43 ?_
        refine aw_iloadn C dX11_inserts_44 rfl ?_
        refine aw_iadd C dX11_inserts_45 ?_
        refine aw_iconst (v := 1) C dX11_inserts_46 (by decide) ?_
        refine aw_isub C dX11_inserts_47 ?_
        refine aw_iald C dX11_inserts_48 (sA_58 S) hw.1 ?_
        replace hw := hw.2
        refine aw_iast C dX11_inserts_49 (sA_58 S) hw.1 hw.2 (fun G6 hw => ?_)
        refine aw_iinc (w := (x3 + (-1))) C dX11_inserts_50 rfl rfl (by decide) rfl ?_
        refine aw_goto (tgt := 15) C dX11_inserts_53 (by decide) ?_
        exact aw_msk [true, true, true, true, false] (ih x1 x2 (x3 + (-1)) _ hw)
  unfold w_X11_inserts at hw
  show aw p l e { frames := 1, cells := 0, slots := 0, locals := 20 } s m args below meth c 5 D tA A (MQ below (QC0 D tA ad A sh (fun r G' => r = none ∧ K G')) args s 0 0 A) 0 0 ad 0 [some (.ref 46), some (.int p0), none, none, none] [] sh G0
  refine aw_aloadn C dX11_inserts_0 rfl ?_
  refine aw_callV C dX11_inserts_1 (t_X11_place S _ _ hw) mM_X11_255 bX11_place (sA_46 S) rfl rfl ⟨Nat.le_of_ble_eq_true rfl, Nat.le_of_ble_eq_true rfl, Nat.zero_le _, Nat.zero_le _⟩ _ rfl (Nat.le_of_ble_eq_true rfl) (fun r1 G1 hq => ?_)
  obtain ⟨v2, rfl, hw⟩ := hq
  refine aw_istoren C dX11_inserts_4 (by decide) rfl ?_
  refine aw_aloadn C dX11_inserts_5 rfl ?_
  refine aw_getR (r := 59) C dX11_inserts_6 kcX11 (sA_46 S) 16 (by decide) rfl mF_X11_54 ?_
  refine aw_aloadn C dX11_inserts_9 rfl ?_
  refine aw_getI C dX11_inserts_10 kcX11 (sA_46 S) 14 (by decide) rfl mF_X11_180 ?_
  refine aw_iald C dX11_inserts_13 (sA_59 S) hw.1 ?_
  replace hw := hw.2
  refine aw_istoren C dX11_inserts_14 (by decide) rfl ?_
  obtain ⟨n0, hw⟩ := hw
  exact aw_msk [true, true, true, true, false] (h15 n0 p0 v2 (G1 59 ((G1 46 14) : Int32).toNatClampNeg) _ hw)
def w_X11_places_j32 (K : Int32 → Gt → Prop) (rec4 : Int32 → Int32 → Gt → Prop) (x2 : Int32) (y0 : Int32) (y1 : Int32) (G0 : Gt) : Prop :=
  rec4 (y0 + y1) (x2 + 1) G0
def w_X11_places_h4 (K : Int32 → Gt → Prop) : Nat → Int32 → Int32 → Gt → Prop
  | 0, _, _, _ => False
  | n + 1, x1, x2, G0 =>
    pif (4 ≤ x2) (
      K x1 G0) (
      vp_in ((4 * (G0 46 14)) + x2) 8 ∧
      pif ((G0 60 (((4 * (G0 46 14)) + x2) : Int32).toNatClampNeg) = (-1)) (
        w_X11_places_j32 K (fun z0 z1 z2 => w_X11_places_h4 K n z0 z1 z2) x2 x1 0 G0) (
        w_X11_places_j32 K (fun z0 z1 z2 => w_X11_places_h4 K n z0 z1 z2) x2 x1 1 G0))
def w_X11_places (K : Int32 → Gt → Prop) (G0 : Gt) : Prop :=
  ∃ i, w_X11_places_h4 K i 0 0 G0
set_option maxHeartbeats 4000000 in
set_option maxRecDepth 100000 in
theorem t_X11_places {l : Launch} {sh : Sh} (S : shOK sh) (G0 : Gt) (K : Int32 → Gt → Prop) (hw : w_X11_places K G0) : CT0 l yX11_places cX11_places 3 (some .int) 0 0 [.ref 46] sh G0 (fun r G' => ∃ v, r = some (.int v) ∧ K v G') := by
  refine CT0_of (by decide) (Nat.le_of_ble_eq_true rfl) rfl ?_
  intro p e s m args below meth c D tA ad A C hr _
  have h32 : ∀ (rec4 : Int32 → Int32 → Gt → Prop) (hrec4 : ∀ (x1 : Int32) (x2 : Int32) (G0 : Gt), rec4 x1 x2 G0 → aw p l e { frames := 0, cells := 0, slots := 0, locals := 0 } s m args below meth c 3 D tA A (MQ below (QC0 D tA ad A sh (fun r G' => ∃ v, r = some (.int v) ∧ K v G')) args s 0 0 A) 0 0 ad 4 [some (.ref 46), some (.int x1), some (.int x2)] [] sh G0) (x2 : Int32) (y0 : Int32) (y1 : Int32) (G0 : Gt), w_X11_places_j32 K rec4 x2 y0 y1 G0 → aw p l e { frames := 0, cells := 0, slots := 0, locals := 0 } s m args below meth c 3 D tA A (MQ below (QC0 D tA ad A sh (fun r G' => ∃ v, r = some (.int v) ∧ K v G')) args s 0 0 A) 0 0 ad 32 [some (.ref 46), none, some (.int x2)] [.int y1, .int y0] sh G0 := by
    intro rec4 hrec4 x2 y0 y1 G0 hw
    unfold w_X11_places_j32 at hw
    refine aw_iadd C dX11_places_32 ?_
    refine aw_istoren C dX11_places_33 (by decide) rfl ?_
    refine aw_iinc (w := (x2 + 1)) C dX11_places_34 rfl rfl (by decide) rfl ?_
    refine aw_goto (tgt := 4) C dX11_places_37 (by decide) ?_
    exact aw_msk [true, true, true] (hrec4 (y0 + y1) (x2 + 1) _ hw)
  have h4 : ∀ (n : Nat) (x1 : Int32) (x2 : Int32) (G0 : Gt), w_X11_places_h4 K n x1 x2 G0 → aw p l e { frames := 0, cells := 0, slots := 0, locals := 0 } s m args below meth c 3 D tA A (MQ below (QC0 D tA ad A sh (fun r G' => ∃ v, r = some (.int v) ∧ K v G')) args s 0 0 A) 0 0 ad 4 [some (.ref 46), some (.int x1), some (.int x2)] [] sh G0 := by
    intro  n
    induction n with
    | zero => intro x1 x2 G0 hw; exact hw.elim
    | succ n ih =>
      intro x1 x2 G0 hw
      rw [w_X11_places_h4] at hw
      refine aw_iloadn C dX11_places_4 rfl ?_
      refine aw_iconst (v := 4) C dX11_places_5 (by decide) ?_
      refine aw_ic_ge C dX11_places_6 40 (by decide) hw (fun hc6 hw => ?_) (fun hc6 hw => ?_)
      · refine aw_iloadn C dX11_places_40 rfl ?_
        exact aw_ireturn C hr dX11_places_41 ⟨_, rfl, hw⟩
      · refine aw_iloadn C dX11_places_9 rfl ?_
        refine aw_aloadn C dX11_places_10 rfl ?_
        refine aw_getR (r := 60) C dX11_places_11 kcX11 (sA_46 S) 17 (by decide) rfl mF_X11_57 ?_
        refine aw_iconst (v := 4) C dX11_places_14 (by decide) ?_
        refine aw_aloadn C dX11_places_15 rfl ?_
        refine aw_getI C dX11_places_16 kcX11 (sA_46 S) 14 (by decide) rfl mF_X11_180 ?_
        refine aw_imul C dX11_places_19 ?_
        refine aw_iloadn C dX11_places_20 rfl ?_
        refine aw_iadd C dX11_places_21 ?_
        refine aw_iald C dX11_places_22 (sA_60 S) hw.1 ?_
        replace hw := hw.2
        refine aw_iconst (v := (-1)) C dX11_places_23 (by decide) ?_
        refine aw_ic_ne C dX11_places_24 31 (by decide) hw (fun hc24 hw => ?_) (fun hc24 hw => ?_)
        · refine aw_iconst (v := 1) C dX11_places_31 (by decide) ?_
          exact aw_msk [true, false, true] (h32 _ ih x2 x1 1 _ hw)
        · refine aw_iconst (v := 0) C dX11_places_27 (by decide) ?_
          refine aw_goto (tgt := 32) C dX11_places_28 (by decide) ?_
          exact aw_msk [true, false, true] (h32 _ ih x2 x1 0 _ hw)
  unfold w_X11_places at hw
  show aw p l e { frames := 0, cells := 0, slots := 0, locals := 0 } s m args below meth c 3 D tA A (MQ below (QC0 D tA ad A sh (fun r G' => ∃ v, r = some (.int v) ∧ K v G')) args s 0 0 A) 0 0 ad 0 [some (.ref 46), none, none] [] sh G0
  refine aw_iconst (v := 0) C dX11_places_0 (by decide) ?_
  refine aw_istoren C dX11_places_1 (by decide) rfl ?_
  refine aw_iconst (v := 0) C dX11_places_2 (by decide) ?_
  refine aw_istoren C dX11_places_3 (by decide) rfl ?_
  obtain ⟨n0, hw⟩ := hw
  exact aw_msk [true, true, true] (h4 n0 0 0 _ hw)
def w_X11_hasNone_j333 (K : Gt → Prop)  (G0 : Gt) : Prop :=
  K G0
def w_X11_hasNone_j105 (K : Gt → Prop) (x1 : Int32) (x2 : Int32) (G0 : Gt) : Prop :=
  pif ((G0 46 41) = 4) (
    vp_in x2 120 ∧
    pif ((G0 46 43) = (G0 48 (x2 : Int32).toNatClampNeg)) (
      vp_in x2 120 ∧
      vp_in x1 1220 ∧
      w_X11_opens (fun v3 G2 =>
        w_X11_asks (fun G4 =>
          w_X11_hasNone_j333 K G4) (G0 49 (x2 : Int32).toNatClampNeg) x1 v3 G2) (G0 66 (x1 : Int32).toNatClampNeg) G0) (
      w_X11_hasNone_j333 K G0)) (
    w_X11_hasNone_j333 K G0)
def w_X11_hasNone_j321 (K : Gt → Prop) (y1 : Int32) (y2 : Int32) (G0 : Gt) : Prop :=
  vp_in y1 4 ∧
  pt (gu G0 56 (y1 : Int32).toNatClampNeg y2) fun G13 =>
  w_X11_hasNone_j333 K G13
def w_X11_hasNone (K : Gt → Prop) (p0 : Int32) (G0 : Gt) : Prop :=
  vp_in p0 1220 ∧
  vp_in p0 1220 ∧
  pt (gu G0 46 57 (G0 65 (p0 : Int32).toNatClampNeg)) fun G1 =>
  vp_in (G0 64 (p0 : Int32).toNatClampNeg) 120 ∧
  pif ((G1 47 ((G0 64 (p0 : Int32).toNatClampNeg) : Int32).toNatClampNeg) = 13) (
    pif ((G1 46 41) = 3) (
      vp_in (G0 64 (p0 : Int32).toNatClampNeg) 120 ∧
      pif ((G1 46 43) = (G1 48 ((G0 64 (p0 : Int32).toNatClampNeg) : Int32).toNatClampNeg)) (
        w_X11_ends (fun G5 =>
          w_X11_hasNone_j333 K G5) p0 (G1 46 42) G1) (
        w_X11_hasNone_j105 K p0 (G0 64 (p0 : Int32).toNatClampNeg) G1)) (
      w_X11_hasNone_j105 K p0 (G0 64 (p0 : Int32).toNatClampNeg) G1)) (
  pif ((G1 47 ((G0 64 (p0 : Int32).toNatClampNeg) : Int32).toNatClampNeg) = 20) (
    pif ((G1 46 41) = 2) (
      vp_in p0 1220 ∧
      pif ((G1 67 (p0 : Int32).toNatClampNeg) = 0) (
        vp_in p0 1220 ∧
        w_X11_opens (fun v7 G6 =>
          vp_in (G0 64 (p0 : Int32).toNatClampNeg) 120 ∧
          vp_in ((8 * v7) + (G6 48 ((G0 64 (p0 : Int32).toNatClampNeg) : Int32).toNatClampNeg)) 4960 ∧
          pt (gu G6 72 (((8 * v7) + (G6 48 ((G0 64 (p0 : Int32).toNatClampNeg) : Int32).toNatClampNeg)) : Int32).toNatClampNeg (G6 46 42)) fun G8 =>
          vp_in p0 1220 ∧
          pt (gu G8 67 (p0 : Int32).toNatClampNeg 1) fun G9 =>
          vp_in (G0 64 (p0 : Int32).toNatClampNeg) 120 ∧
          w_X11_asks (fun G10 =>
            w_X11_hasNone_j333 K G10) (G9 50 ((G0 64 (p0 : Int32).toNatClampNeg) : Int32).toNatClampNeg) p0 v7 G9) (G1 66 (p0 : Int32).toNatClampNeg) G1) (
        w_X11_hasNone_j333 K G1)) (
      w_X11_hasNone_j333 K G1)) (
  pif ((G1 47 ((G0 64 (p0 : Int32).toNatClampNeg) : Int32).toNatClampNeg) = 21) (
    vp_in p0 1220 ∧
    pif ((G1 67 (p0 : Int32).toNatClampNeg) = 0) (
      w_X11_waits (fun G12 =>
        w_X11_hasNone_j333 K G12) p0 (G0 64 (p0 : Int32).toNatClampNeg) G1) (
      pif ((G1 46 41) = 2) (
        vp_in p0 1220 ∧
        vp_in (G1 68 (p0 : Int32).toNatClampNeg) 3660 ∧
        pif ((G1 80 ((G1 68 (p0 : Int32).toNatClampNeg) : Int32).toNatClampNeg) = 2) (
          vp_in p0 1220 ∧
          vp_in ((G1 68 (p0 : Int32).toNatClampNeg) + 1) 3660 ∧
          pt (gu G1 46 44 (G1 80 (((G1 68 (p0 : Int32).toNatClampNeg) + 1) : Int32).toNatClampNeg)) fun G11 =>
          w_X11_hasNone_j333 K G11) (
          w_X11_hasNone_j333 K G1)) (
        w_X11_hasNone_j333 K G1))) (
  pif ((G1 47 ((G0 64 (p0 : Int32).toNatClampNeg) : Int32).toNatClampNeg) = 26) (
    vp_in (G0 64 (p0 : Int32).toNatClampNeg) 120 ∧
    vp_in p0 1220 ∧
    pif ((G1 67 (p0 : Int32).toNatClampNeg) = 1) (
      vp_in p0 1220 ∧
      w_X11_hasNone_j321 K (G1 48 ((G0 64 (p0 : Int32).toNatClampNeg) : Int32).toNatClampNeg) (G1 68 (p0 : Int32).toNatClampNeg) G1) (
      vp_in (G0 64 (p0 : Int32).toNatClampNeg) 120 ∧
      vp_in (G1 48 ((G0 64 (p0 : Int32).toNatClampNeg) : Int32).toNatClampNeg) 4 ∧
      w_X11_hasNone_j321 K (G1 48 ((G0 64 (p0 : Int32).toNatClampNeg) : Int32).toNatClampNeg) (G1 56 ((G1 48 ((G0 64 (p0 : Int32).toNatClampNeg) : Int32).toNatClampNeg) : Int32).toNatClampNeg) G1)) (
  pif ((G1 47 ((G0 64 (p0 : Int32).toNatClampNeg) : Int32).toNatClampNeg) = 36) (
    w_X11_setsBack (fun G14 =>
      w_X11_hasNone_j333 K G14) p0 G1) (
    w_X11_hasNone_j333 K G1)))))
set_option maxHeartbeats 4000000 in
set_option maxRecDepth 100000 in
theorem t_X11_hasNone {l : Launch} {sh : Sh} (S : shOK sh) (p0 : Int32) (G0 : Gt) (K : Gt → Prop) (hw : w_X11_hasNone K p0 G0) : CT0 l yX11_hasNone cX11_hasNone 4 none 3 69 [.ref 46, .int p0] sh G0 (fun r G' => r = none ∧ K G') := by
  refine CT0_of (by decide) (Nat.le_of_ble_eq_true rfl) rfl ?_
  intro p e s m args below meth c D tA ad A C hr _
  have h333 : ∀ (G0 : Gt), w_X11_hasNone_j333 K  G0 → aw p l e { frames := 3, cells := 0, slots := 0, locals := 69 } s m args below meth c 4 D tA A (MQ below (QC0 D tA ad A sh (fun r G' => r = none ∧ K G')) args s 0 0 A) 0 0 ad 333 [none, none, none, none] [] sh G0 := by
    intro   G0 hw
    unfold w_X11_hasNone_j333 at hw
    exact aw_return C hr dX11_hasNone_333 ⟨rfl, hw⟩
  have h105 : ∀ (x1 : Int32) (x2 : Int32) (G0 : Gt), w_X11_hasNone_j105 K x1 x2 G0 → aw p l e { frames := 3, cells := 0, slots := 0, locals := 69 } s m args below meth c 4 D tA A (MQ below (QC0 D tA ad A sh (fun r G' => r = none ∧ K G')) args s 0 0 A) 0 0 ad 105 [some (.ref 46), some (.int x1), some (.int x2), none] [] sh G0 := by
    intro  x1 x2 G0 hw
    unfold w_X11_hasNone_j105 at hw
    refine aw_aloadn C dX11_hasNone_105 rfl ?_
    refine aw_getI C dX11_hasNone_106 kcX11 (sA_46 S) 41 (by decide) rfl mF_X11_202 ?_
    refine aw_iconst (v := 4) C dX11_hasNone_109 (by decide) ?_
    refine aw_ic_ne C dX11_hasNone_110 333 (by decide) hw (fun hc110 hw => ?_) (fun hc110 hw => ?_)
    · exact aw_msk [false, false, false, false] (h333 _ hw)
    · refine aw_aloadn C dX11_hasNone_113 rfl ?_
      refine aw_getI C dX11_hasNone_114 kcX11 (sA_46 S) 43 (by decide) rfl mF_X11_231 ?_
      refine aw_aloadn C dX11_hasNone_117 rfl ?_
      refine aw_getR (r := 48) C dX11_hasNone_118 kcX11 (sA_46 S) 2 (by decide) rfl mF_X11_13 ?_
      refine aw_iloadn C dX11_hasNone_121 rfl ?_
      refine aw_iald C dX11_hasNone_122 (sA_48 S) hw.1 ?_
      replace hw := hw.2
      refine aw_ic_ne C dX11_hasNone_123 333 (by decide) hw (fun hc123 hw => ?_) (fun hc123 hw => ?_)
      · exact aw_msk [false, false, false, false] (h333 _ hw)
      · refine aw_aloadn C dX11_hasNone_126 rfl ?_
        refine aw_aloadn C dX11_hasNone_127 rfl ?_
        refine aw_getR (r := 49) C dX11_hasNone_128 kcX11 (sA_46 S) 3 (by decide) rfl mF_X11_16 ?_
        refine aw_iloadn C dX11_hasNone_131 rfl ?_
        refine aw_iald C dX11_hasNone_132 (sA_49 S) hw.1 ?_
        replace hw := hw.2
        refine aw_iloadn C dX11_hasNone_133 rfl ?_
        refine aw_aloadn C dX11_hasNone_134 rfl ?_
        refine aw_aloadn C dX11_hasNone_135 rfl ?_
        refine aw_getR (r := 66) C dX11_hasNone_136 kcX11 (sA_46 S) 24 (by decide) rfl mF_X11_75 ?_
        refine aw_iloadn C dX11_hasNone_139 rfl ?_
        refine aw_iald C dX11_hasNone_140 (sA_66 S) hw.1 ?_
        replace hw := hw.2
        refine aw_callV C dX11_hasNone_141 (t_X11_opens S (G0 66 (x1 : Int32).toNatClampNeg) _ _ hw) mM_X11_244 bX11_opens (sA_46 S) rfl rfl ⟨Nat.le_of_ble_eq_true rfl, Nat.le_of_ble_eq_true rfl, Nat.zero_le _, Nat.zero_le _⟩ _ rfl (Nat.le_of_ble_eq_true rfl) (fun r141 G2 hq => ?_)
        obtain ⟨v3, rfl, hw⟩ := hq
        refine aw_callV C dX11_hasNone_144 (t_X11_asks S (G0 49 (x2 : Int32).toNatClampNeg) x1 v3 _ _ hw) mM_X11_205 bX11_asks (sA_46 S) rfl rfl ⟨Nat.le_of_ble_eq_true rfl, Nat.le_of_ble_eq_true rfl, Nat.zero_le _, Nat.zero_le _⟩ _ rfl (Nat.le_of_ble_eq_true rfl) (fun r144 G4 hq => ?_)
        obtain ⟨rfl, hw⟩ := hq
        refine aw_goto (tgt := 333) C dX11_hasNone_147 (by decide) ?_
        exact aw_msk [false, false, false, false] (h333 _ hw)
  have h321 : ∀ (y1 : Int32) (y2 : Int32) (G0 : Gt), w_X11_hasNone_j321 K y1 y2 G0 → aw p l e { frames := 3, cells := 0, slots := 0, locals := 69 } s m args below meth c 4 D tA A (MQ below (QC0 D tA ad A sh (fun r G' => r = none ∧ K G')) args s 0 0 A) 0 0 ad 321 [none, none, none, none] [.int y2, .int y1, .ref 56] sh G0 := by
    intro  y1 y2 G0 hw
    unfold w_X11_hasNone_j321 at hw
    refine aw_iast C dX11_hasNone_321 (sA_56 S) hw.1 hw.2 (fun G13 hw => ?_)
    refine aw_goto (tgt := 333) C dX11_hasNone_322 (by decide) ?_
    exact aw_msk [false, false, false, false] (h333 _ hw)
  unfold w_X11_hasNone at hw
  show aw p l e { frames := 3, cells := 0, slots := 0, locals := 69 } s m args below meth c 4 D tA A (MQ below (QC0 D tA ad A sh (fun r G' => r = none ∧ K G')) args s 0 0 A) 0 0 ad 0 [some (.ref 46), some (.int p0), none, none] [] sh G0
  refine aw_aloadn C dX11_hasNone_0 rfl ?_
  refine aw_getR (r := 64) C dX11_hasNone_1 kcX11 (sA_46 S) 22 (by decide) rfl mF_X11_69 ?_
  refine aw_iloadn C dX11_hasNone_4 rfl ?_
  refine aw_iald C dX11_hasNone_5 (sA_64 S) hw.1 ?_
  replace hw := hw.2
  refine aw_istoren C dX11_hasNone_6 (by decide) rfl ?_
  refine aw_aloadn C dX11_hasNone_7 rfl ?_
  refine aw_aloadn C dX11_hasNone_8 rfl ?_
  refine aw_getR (r := 65) C dX11_hasNone_9 kcX11 (sA_46 S) 23 (by decide) rfl mF_X11_72 ?_
  refine aw_iloadn C dX11_hasNone_12 rfl ?_
  refine aw_iald C dX11_hasNone_13 (sA_65 S) hw.1 ?_
  replace hw := hw.2
  refine aw_putI C dX11_hasNone_14 kcX11 (sA_46 S) 57 (by decide) rfl mF_X11_212 rfl rfl rfl hw (fun G1 hw => ?_)
  refine aw_aloadn C dX11_hasNone_17 rfl ?_
  refine aw_getR (r := 47) C dX11_hasNone_18 kcX11 (sA_46 S) 1 (by decide) rfl mF_X11_7 ?_
  refine aw_iloadn C dX11_hasNone_21 rfl ?_
  refine aw_iald C dX11_hasNone_22 (sA_47 S) hw.1 ?_
  replace hw := hw.2
  refine sw_if hw (fun ha23_13 hw => ?_) (fun ha23_13 hw => ?_)
  · refine aw_lookup C 72 dX11_hasNone_23 (off := 49) (by decide) (by rw [ha23_13]; decide) (by decide) ?_
    refine aw_aloadn C dX11_hasNone_72 rfl ?_
    refine aw_getI C dX11_hasNone_73 kcX11 (sA_46 S) 41 (by decide) rfl mF_X11_202 ?_
    refine aw_iconst (v := 3) C dX11_hasNone_76 (by decide) ?_
    refine aw_ic_ne C dX11_hasNone_77 105 (by decide) hw (fun hc77 hw => ?_) (fun hc77 hw => ?_)
    · exact aw_msk [true, true, true, false] (h105 p0 (G0 64 (p0 : Int32).toNatClampNeg) _ hw)
    · refine aw_aloadn C dX11_hasNone_80 rfl ?_
      refine aw_getI C dX11_hasNone_81 kcX11 (sA_46 S) 43 (by decide) rfl mF_X11_231 ?_
      refine aw_aloadn C dX11_hasNone_84 rfl ?_
      refine aw_getR (r := 48) C dX11_hasNone_85 kcX11 (sA_46 S) 2 (by decide) rfl mF_X11_13 ?_
      refine aw_iloadn C dX11_hasNone_88 rfl ?_
      refine aw_iald C dX11_hasNone_89 (sA_48 S) hw.1 ?_
      replace hw := hw.2
      refine aw_ic_ne C dX11_hasNone_90 105 (by decide) hw (fun hc90 hw => ?_) (fun hc90 hw => ?_)
      · exact aw_msk [true, true, true, false] (h105 p0 (G0 64 (p0 : Int32).toNatClampNeg) _ hw)
      · refine aw_aloadn C dX11_hasNone_93 rfl ?_
        refine aw_iloadn C dX11_hasNone_94 rfl ?_
        refine aw_aloadn C dX11_hasNone_95 rfl ?_
        refine aw_getI C dX11_hasNone_96 kcX11 (sA_46 S) 42 (by decide) rfl mF_X11_209 ?_
        refine aw_callV C dX11_hasNone_99 (t_X11_ends S p0 (G1 46 42) _ _ hw) mM_X11_262 bX11_ends (sA_46 S) rfl rfl ⟨Nat.le_of_ble_eq_true rfl, Nat.le_of_ble_eq_true rfl, Nat.zero_le _, Nat.zero_le _⟩ _ rfl (Nat.le_of_ble_eq_true rfl) (fun r99 G5 hq => ?_)
        obtain ⟨rfl, hw⟩ := hq
        refine aw_goto (tgt := 333) C dX11_hasNone_102 (by decide) ?_
        exact aw_msk [false, false, false, false] (h333 _ hw)
  refine sw_if hw (fun ha23_20 hw => ?_) (fun ha23_20 hw => ?_)
  · refine aw_lookup C 150 dX11_hasNone_23 (off := 127) (by decide) (by rw [ha23_20]; decide) (by decide) ?_
    refine aw_aloadn C dX11_hasNone_150 rfl ?_
    refine aw_getI C dX11_hasNone_151 kcX11 (sA_46 S) 41 (by decide) rfl mF_X11_202 ?_
    refine aw_iconst (v := 2) C dX11_hasNone_154 (by decide) ?_
    refine aw_ic_ne C dX11_hasNone_155 333 (by decide) hw (fun hc155 hw => ?_) (fun hc155 hw => ?_)
    · exact aw_msk [false, false, false, false] (h333 _ hw)
    · refine aw_aloadn C dX11_hasNone_158 rfl ?_
      refine aw_getR (r := 67) C dX11_hasNone_159 kcX11 (sA_46 S) 25 (by decide) rfl mF_X11_78 ?_
      refine aw_iloadn C dX11_hasNone_162 rfl ?_
      refine aw_iald C dX11_hasNone_163 (sA_67 S) hw.1 ?_
      replace hw := hw.2
      refine aw_if_ne C dX11_hasNone_164 333 (by decide) hw (fun hc164 hw => ?_) (fun hc164 hw => ?_)
      · exact aw_msk [false, false, false, false] (h333 _ hw)
      · refine aw_aloadn C dX11_hasNone_167 rfl ?_
        refine aw_aloadn C dX11_hasNone_168 rfl ?_
        refine aw_getR (r := 66) C dX11_hasNone_169 kcX11 (sA_46 S) 24 (by decide) rfl mF_X11_75 ?_
        refine aw_iloadn C dX11_hasNone_172 rfl ?_
        refine aw_iald C dX11_hasNone_173 (sA_66 S) hw.1 ?_
        replace hw := hw.2
        refine aw_callV C dX11_hasNone_174 (t_X11_opens S (G1 66 (p0 : Int32).toNatClampNeg) _ _ hw) mM_X11_244 bX11_opens (sA_46 S) rfl rfl ⟨Nat.le_of_ble_eq_true rfl, Nat.le_of_ble_eq_true rfl, Nat.zero_le _, Nat.zero_le _⟩ _ rfl (Nat.le_of_ble_eq_true rfl) (fun r174 G6 hq => ?_)
        obtain ⟨v7, rfl, hw⟩ := hq
        refine aw_istoren C dX11_hasNone_177 (by decide) rfl ?_
        refine aw_aloadn C dX11_hasNone_178 rfl ?_
        refine aw_getR (r := 72) C dX11_hasNone_179 kcX11 (sA_46 S) 31 (by decide) rfl mF_X11_93 ?_
        refine aw_bipush (v := 8) C dX11_hasNone_182 (by decide) ?_
        refine aw_iloadn C dX11_hasNone_184 rfl ?_
        refine aw_imul C dX11_hasNone_185 ?_
        refine aw_aloadn C dX11_hasNone_186 rfl ?_
        refine aw_getR (r := 48) C dX11_hasNone_187 kcX11 (sA_46 S) 2 (by decide) rfl mF_X11_13 ?_
        refine aw_iloadn C dX11_hasNone_190 rfl ?_
        refine aw_iald C dX11_hasNone_191 (sA_48 S) hw.1 ?_
        replace hw := hw.2
        refine aw_iadd C dX11_hasNone_192 ?_
        refine aw_aloadn C dX11_hasNone_193 rfl ?_
        refine aw_getI C dX11_hasNone_194 kcX11 (sA_46 S) 42 (by decide) rfl mF_X11_209 ?_
        refine aw_iast C dX11_hasNone_197 (sA_72 S) hw.1 hw.2 (fun G8 hw => ?_)
        refine aw_aloadn C dX11_hasNone_198 rfl ?_
        refine aw_getR (r := 67) C dX11_hasNone_199 kcX11 (sA_46 S) 25 (by decide) rfl mF_X11_78 ?_
        refine aw_iloadn C dX11_hasNone_202 rfl ?_
        refine aw_iconst (v := 1) C dX11_hasNone_203 (by decide) ?_
        refine aw_iast C dX11_hasNone_204 (sA_67 S) hw.1 hw.2 (fun G9 hw => ?_)
        refine aw_aloadn C dX11_hasNone_205 rfl ?_
        refine aw_aloadn C dX11_hasNone_206 rfl ?_
        refine aw_getR (r := 50) C dX11_hasNone_207 kcX11 (sA_46 S) 4 (by decide) rfl mF_X11_19 ?_
        refine aw_iloadn C dX11_hasNone_210 rfl ?_
        refine aw_iald C dX11_hasNone_211 (sA_50 S) hw.1 ?_
        replace hw := hw.2
        refine aw_iloadn C dX11_hasNone_212 rfl ?_
        refine aw_iloadn C dX11_hasNone_213 rfl ?_
        refine aw_callV C dX11_hasNone_214 (t_X11_asks S (G9 50 ((G0 64 (p0 : Int32).toNatClampNeg) : Int32).toNatClampNeg) p0 v7 _ _ hw) mM_X11_205 bX11_asks (sA_46 S) rfl rfl ⟨Nat.le_of_ble_eq_true rfl, Nat.le_of_ble_eq_true rfl, Nat.zero_le _, Nat.zero_le _⟩ _ rfl (Nat.le_of_ble_eq_true rfl) (fun r214 G10 hq => ?_)
        obtain ⟨rfl, hw⟩ := hq
        refine aw_goto (tgt := 333) C dX11_hasNone_217 (by decide) ?_
        exact aw_msk [false, false, false, false] (h333 _ hw)
  refine sw_if hw (fun ha23_21 hw => ?_) (fun ha23_21 hw => ?_)
  · refine aw_lookup C 220 dX11_hasNone_23 (off := 197) (by decide) (by rw [ha23_21]; decide) (by decide) ?_
    refine aw_aloadn C dX11_hasNone_220 rfl ?_
    refine aw_getR (r := 67) C dX11_hasNone_221 kcX11 (sA_46 S) 25 (by decide) rfl mF_X11_78 ?_
    refine aw_iloadn C dX11_hasNone_224 rfl ?_
    refine aw_iald C dX11_hasNone_225 (sA_67 S) hw.1 ?_
    replace hw := hw.2
    refine aw_if_ne C dX11_hasNone_226 238 (by decide) hw (fun hc226 hw => ?_) (fun hc226 hw => ?_)
    · refine aw_aloadn C dX11_hasNone_238 rfl ?_
      refine aw_getI C dX11_hasNone_239 kcX11 (sA_46 S) 41 (by decide) rfl mF_X11_202 ?_
      refine aw_iconst (v := 2) C dX11_hasNone_242 (by decide) ?_
      refine aw_ic_ne C dX11_hasNone_243 333 (by decide) hw (fun hc243 hw => ?_) (fun hc243 hw => ?_)
      · exact aw_msk [false, false, false, false] (h333 _ hw)
      · refine aw_aloadn C dX11_hasNone_246 rfl ?_
        refine aw_getR (r := 80) C dX11_hasNone_247 kcX11 (sA_46 S) 48 (by decide) rfl mF_X11_117 ?_
        refine aw_aloadn C dX11_hasNone_250 rfl ?_
        refine aw_getR (r := 68) C dX11_hasNone_251 kcX11 (sA_46 S) 26 (by decide) rfl mF_X11_81 ?_
        refine aw_iloadn C dX11_hasNone_254 rfl ?_
        refine aw_iald C dX11_hasNone_255 (sA_68 S) hw.1 ?_
        replace hw := hw.2
        refine aw_iald C dX11_hasNone_256 (sA_80 S) hw.1 ?_
        replace hw := hw.2
        refine aw_iconst (v := 2) C dX11_hasNone_257 (by decide) ?_
        refine aw_ic_ne C dX11_hasNone_258 333 (by decide) hw (fun hc258 hw => ?_) (fun hc258 hw => ?_)
        · exact aw_msk [false, false, false, false] (h333 _ hw)
        · refine aw_aloadn C dX11_hasNone_261 rfl ?_
          refine aw_aloadn C dX11_hasNone_262 rfl ?_
          refine aw_getR (r := 80) C dX11_hasNone_263 kcX11 (sA_46 S) 48 (by decide) rfl mF_X11_117 ?_
          refine aw_aloadn C dX11_hasNone_266 rfl ?_
          refine aw_getR (r := 68) C dX11_hasNone_267 kcX11 (sA_46 S) 26 (by decide) rfl mF_X11_81 ?_
          refine aw_iloadn C dX11_hasNone_270 rfl ?_
          refine aw_iald C dX11_hasNone_271 (sA_68 S) hw.1 ?_
          replace hw := hw.2
          refine aw_iconst (v := 1) C dX11_hasNone_272 (by decide) ?_
          refine aw_iadd C dX11_hasNone_273 ?_
          refine aw_iald C dX11_hasNone_274 (sA_80 S) hw.1 ?_
          replace hw := hw.2
          refine aw_putI C dX11_hasNone_275 kcX11 (sA_46 S) 44 (by decide) rfl mF_X11_215 rfl rfl rfl hw (fun G11 hw => ?_)
          refine aw_goto (tgt := 333) C dX11_hasNone_278 (by decide) ?_
          exact aw_msk [false, false, false, false] (h333 _ hw)
    · refine aw_aloadn C dX11_hasNone_229 rfl ?_
      refine aw_iloadn C dX11_hasNone_230 rfl ?_
      refine aw_iloadn C dX11_hasNone_231 rfl ?_
      refine aw_callV C dX11_hasNone_232 (t_X11_waits S p0 (G0 64 (p0 : Int32).toNatClampNeg) _ _ hw) mM_X11_358 bX11_waits (sA_46 S) rfl rfl ⟨Nat.le_of_ble_eq_true rfl, Nat.le_of_ble_eq_true rfl, Nat.zero_le _, Nat.zero_le _⟩ _ rfl (Nat.le_of_ble_eq_true rfl) (fun r232 G12 hq => ?_)
      obtain ⟨rfl, hw⟩ := hq
      refine aw_goto (tgt := 333) C dX11_hasNone_235 (by decide) ?_
      exact aw_msk [false, false, false, false] (h333 _ hw)
  refine sw_if hw (fun ha23_26 hw => ?_) (fun ha23_26 hw => ?_)
  · refine aw_lookup C 281 dX11_hasNone_23 (off := 258) (by decide) (by rw [ha23_26]; decide) (by decide) ?_
    refine aw_aloadn C dX11_hasNone_281 rfl ?_
    refine aw_getR (r := 56) C dX11_hasNone_282 kcX11 (sA_46 S) 10 (by decide) rfl mF_X11_38 ?_
    refine aw_aloadn C dX11_hasNone_285 rfl ?_
    refine aw_getR (r := 48) C dX11_hasNone_286 kcX11 (sA_46 S) 2 (by decide) rfl mF_X11_13 ?_
    refine aw_iloadn C dX11_hasNone_289 rfl ?_
    refine aw_iald C dX11_hasNone_290 (sA_48 S) hw.1 ?_
    replace hw := hw.2
    refine aw_aloadn C dX11_hasNone_291 rfl ?_
    refine aw_getR (r := 67) C dX11_hasNone_292 kcX11 (sA_46 S) 25 (by decide) rfl mF_X11_78 ?_
    refine aw_iloadn C dX11_hasNone_295 rfl ?_
    refine aw_iald C dX11_hasNone_296 (sA_67 S) hw.1 ?_
    replace hw := hw.2
    refine aw_iconst (v := 1) C dX11_hasNone_297 (by decide) ?_
    refine aw_ic_ne C dX11_hasNone_298 310 (by decide) hw (fun hc298 hw => ?_) (fun hc298 hw => ?_)
    · refine aw_aloadn C dX11_hasNone_310 rfl ?_
      refine aw_getR (r := 56) C dX11_hasNone_311 kcX11 (sA_46 S) 10 (by decide) rfl mF_X11_38 ?_
      refine aw_aloadn C dX11_hasNone_314 rfl ?_
      refine aw_getR (r := 48) C dX11_hasNone_315 kcX11 (sA_46 S) 2 (by decide) rfl mF_X11_13 ?_
      refine aw_iloadn C dX11_hasNone_318 rfl ?_
      refine aw_iald C dX11_hasNone_319 (sA_48 S) hw.1 ?_
      replace hw := hw.2
      refine aw_iald C dX11_hasNone_320 (sA_56 S) hw.1 ?_
      replace hw := hw.2
      exact aw_msk [false, false, false, false] (h321 (G1 48 ((G0 64 (p0 : Int32).toNatClampNeg) : Int32).toNatClampNeg) (G1 56 ((G1 48 ((G0 64 (p0 : Int32).toNatClampNeg) : Int32).toNatClampNeg) : Int32).toNatClampNeg) _ hw)
    · refine aw_aloadn C dX11_hasNone_301 rfl ?_
      refine aw_getR (r := 68) C dX11_hasNone_302 kcX11 (sA_46 S) 26 (by decide) rfl mF_X11_81 ?_
      refine aw_iloadn C dX11_hasNone_305 rfl ?_
      refine aw_iald C dX11_hasNone_306 (sA_68 S) hw.1 ?_
      replace hw := hw.2
      refine aw_goto (tgt := 321) C dX11_hasNone_307 (by decide) ?_
      exact aw_msk [false, false, false, false] (h321 (G1 48 ((G0 64 (p0 : Int32).toNatClampNeg) : Int32).toNatClampNeg) (G1 68 (p0 : Int32).toNatClampNeg) _ hw)
  refine sw_if hw (fun ha23_36 hw => ?_) (fun ha23_36 hw => ?_)
  · refine aw_lookup C 325 dX11_hasNone_23 (off := 302) (by decide) (by rw [ha23_36]; decide) (by decide) ?_
    refine aw_aloadn C dX11_hasNone_325 rfl ?_
    refine aw_iloadn C dX11_hasNone_326 rfl ?_
    refine aw_callV C dX11_hasNone_327 (t_X11_setsBack S p0 _ _ hw) mM_X11_276 bX11_setsBack (sA_46 S) rfl rfl ⟨Nat.le_of_ble_eq_true rfl, Nat.le_of_ble_eq_true rfl, Nat.zero_le _, Nat.zero_le _⟩ _ rfl (Nat.le_of_ble_eq_true rfl) (fun r327 G14 hq => ?_)
    obtain ⟨rfl, hw⟩ := hq
    refine aw_goto (tgt := 333) C dX11_hasNone_330 (by decide) ?_
    exact aw_msk [false, false, false, false] (h333 _ hw)
  refine aw_lookup C 333 dX11_hasNone_23 (off := 310) (by decide) (lk_def [(13, 49), (20, 127), (21, 197), (26, 258), (36, 302)] _ 310 (fun q hq => ?_)) (by decide) ?_
  · simp only [List.mem_cons, List.not_mem_nil, or_false] at hq
    rcases hq with rfl | rfl | rfl | rfl | rfl
    · exact lk_ne ha23_13 (by decide)
    · exact lk_ne ha23_20 (by decide)
    · exact lk_ne ha23_21 (by decide)
    · exact lk_ne ha23_26 (by decide)
    · exact lk_ne ha23_36 (by decide)
  exact aw_msk [false, false, false, false] (h333 _ hw)
def w_X11_lasts_h34 (K : Gt → Prop) : Nat → Int32 → Gt → Prop
  | 0, _, _ => False
  | n + 1, x1, G0 =>
    pif ((G0 46 64) ≤ x1) (
      K G0) (
      vp_in x1 14 ∧
      vp_in x1 14 ∧
      pt (gu G0 82 (x1 : Int32).toNatClampNeg (G0 81 (x1 : Int32).toNatClampNeg)) fun G5 =>
      (w_X11_lasts_h34 K n) (x1 + 1) G5)
def w_X11_lasts (K : Gt → Prop) (G0 : Gt) : Prop :=
  pt (gu G0 46 66 (G0 46 62)) fun G1 =>
  pt (gu G1 46 67 (G1 46 58)) fun G2 =>
  pt (gu G2 46 68 (G2 46 63)) fun G3 =>
  pt (gu G3 46 69 (G3 46 64)) fun G4 =>
  ∃ i, w_X11_lasts_h34 K i 0 G4
set_option maxHeartbeats 4000000 in
set_option maxRecDepth 100000 in
theorem t_X11_lasts {l : Launch} {sh : Sh} (S : shOK sh) (G0 : Gt) (K : Gt → Prop) (hw : w_X11_lasts K G0) : CT0 l yX11_lasts cX11_lasts 2 none 0 0 [.ref 46] sh G0 (fun r G' => r = none ∧ K G') := by
  refine CT0_of (by decide) (Nat.le_of_ble_eq_true rfl) rfl ?_
  intro p e s m args below meth c D tA ad A C hr _
  have h34 : ∀ (n : Nat) (x1 : Int32) (G0 : Gt), w_X11_lasts_h34 K n x1 G0 → aw p l e { frames := 0, cells := 0, slots := 0, locals := 0 } s m args below meth c 2 D tA A (MQ below (QC0 D tA ad A sh (fun r G' => r = none ∧ K G')) args s 0 0 A) 0 0 ad 34 [some (.ref 46), some (.int x1)] [] sh G0 := by
    intro  n
    induction n with
    | zero => intro x1 G0 hw; exact hw.elim
    | succ n ih =>
      intro x1 G0 hw
      rw [w_X11_lasts_h34] at hw
      refine aw_iloadn C dX11_lasts_34 rfl ?_
      refine aw_aloadn C dX11_lasts_35 rfl ?_
      refine aw_getI C dX11_lasts_36 kcX11 (sA_46 S) 64 (by decide) rfl mF_X11_395 ?_
      refine aw_ic_ge C dX11_lasts_39 60 (by decide) hw (fun hc39 hw => ?_) (fun hc39 hw => ?_)
      · exact aw_return C hr dX11_lasts_60 ⟨rfl, hw⟩
      · refine aw_aloadn C dX11_lasts_42 rfl ?_
        refine aw_getR (r := 82) C dX11_lasts_43 kcX11 (sA_46 S) 70 (by decide) rfl mF_X11_127 ?_
        refine aw_iloadn C dX11_lasts_46 rfl ?_
        refine aw_aloadn C dX11_lasts_47 rfl ?_
        refine aw_getR (r := 81) C dX11_lasts_48 kcX11 (sA_46 S) 65 (by decide) rfl mF_X11_120 ?_
        refine aw_iloadn C dX11_lasts_51 rfl ?_
        refine aw_iald C dX11_lasts_52 (sA_81 S) hw.1 ?_
        replace hw := hw.2
        refine aw_iast C dX11_lasts_53 (sA_82 S) hw.1 hw.2 (fun G5 hw => ?_)
        refine aw_iinc (w := (x1 + 1)) C dX11_lasts_54 rfl rfl (by decide) rfl ?_
        refine aw_goto (tgt := 34) C dX11_lasts_57 (by decide) ?_
        exact aw_msk [true, true] (ih (x1 + 1) _ hw)
  unfold w_X11_lasts at hw
  show aw p l e { frames := 0, cells := 0, slots := 0, locals := 0 } s m args below meth c 2 D tA A (MQ below (QC0 D tA ad A sh (fun r G' => r = none ∧ K G')) args s 0 0 A) 0 0 ad 0 [some (.ref 46), none] [] sh G0
  refine aw_aloadn C dX11_lasts_0 rfl ?_
  refine aw_aloadn C dX11_lasts_1 rfl ?_
  refine aw_getI C dX11_lasts_2 kcX11 (sA_46 S) 62 (by decide) rfl mF_X11_377 ?_
  refine aw_putI C dX11_lasts_5 kcX11 (sA_46 S) 66 (by decide) rfl mF_X11_429 rfl rfl rfl hw (fun G1 hw => ?_)
  refine aw_aloadn C dX11_lasts_8 rfl ?_
  refine aw_aloadn C dX11_lasts_9 rfl ?_
  refine aw_getI C dX11_lasts_10 kcX11 (sA_46 S) 58 (by decide) rfl mF_X11_404 ?_
  refine aw_putI C dX11_lasts_13 kcX11 (sA_46 S) 67 (by decide) rfl mF_X11_432 rfl rfl rfl hw (fun G2 hw => ?_)
  refine aw_aloadn C dX11_lasts_16 rfl ?_
  refine aw_aloadn C dX11_lasts_17 rfl ?_
  refine aw_getI C dX11_lasts_18 kcX11 (sA_46 S) 63 (by decide) rfl mF_X11_392 ?_
  refine aw_putI C dX11_lasts_21 kcX11 (sA_46 S) 68 (by decide) rfl mF_X11_124 rfl rfl rfl hw (fun G3 hw => ?_)
  refine aw_aloadn C dX11_lasts_24 rfl ?_
  refine aw_aloadn C dX11_lasts_25 rfl ?_
  refine aw_getI C dX11_lasts_26 kcX11 (sA_46 S) 64 (by decide) rfl mF_X11_395 ?_
  refine aw_putI C dX11_lasts_29 kcX11 (sA_46 S) 69 (by decide) rfl mF_X11_435 rfl rfl rfl hw (fun G4 hw => ?_)
  refine aw_iconst (v := 0) C dX11_lasts_32 (by decide) ?_
  refine aw_istoren C dX11_lasts_33 (by decide) rfl ?_
  obtain ⟨n0, hw⟩ := hw
  exact aw_msk [true, true] (h34 n0 0 _ hw)
def w_X11_giveUp (K : Int32 → Gt → Prop) (G0 : Gt) : Prop :=
  w_X11_goes (fun v2 G1 =>
    pif (v2 = 0) (
      K 0 G1) (
      w_X11_restores (fun G3 =>
        pt (gu G3 46 52 0) fun G4 =>
        K (G4 46 58) G4) G1)) (G0 46 52) 1 1 G0
set_option maxHeartbeats 4000000 in
set_option maxRecDepth 100000 in
theorem t_X11_giveUp {l : Launch} {sh : Sh} (S : shOK sh) (G0 : Gt) (K : Int32 → Gt → Prop) (hw : w_X11_giveUp K G0) : CT0 l yX11_giveUp cX11_giveUp 1 (some .int) 1 23 [.ref 46] sh G0 (fun r G' => ∃ v, r = some (.int v) ∧ K v G') := by
  refine CT0_of (by decide) (Nat.le_of_ble_eq_true rfl) rfl ?_
  intro p e s m args below meth c D tA ad A C hr _
  unfold w_X11_giveUp at hw
  show aw p l e { frames := 1, cells := 0, slots := 0, locals := 23 } s m args below meth c 1 D tA A (MQ below (QC0 D tA ad A sh (fun r G' => ∃ v, r = some (.int v) ∧ K v G')) args s 0 0 A) 0 0 ad 0 [some (.ref 46)] [] sh G0
  refine aw_aloadn C dX11_giveUp_0 rfl ?_
  refine aw_aloadn C dX11_giveUp_1 rfl ?_
  refine aw_getI C dX11_giveUp_2 kcX11 (sA_46 S) 52 (by decide) rfl mF_X11_173 ?_
  refine aw_iconst (v := 1) C dX11_giveUp_5 (by decide) ?_
  refine aw_iconst (v := 1) C dX11_giveUp_6 (by decide) ?_
  refine aw_callV C dX11_giveUp_7 (t_X11_goes S (G0 46 52) 1 1 _ _ hw) mM_X11_169 bX11_goes (sA_46 S) rfl rfl ⟨Nat.le_of_ble_eq_true rfl, Nat.le_of_ble_eq_true rfl, Nat.zero_le _, Nat.zero_le _⟩ _ rfl (Nat.le_of_ble_eq_true rfl) (fun r7 G1 hq => ?_)
  obtain ⟨v2, rfl, hw⟩ := hq
  refine aw_if_ne C dX11_giveUp_10 15 (by decide) hw (fun hc10 hw => ?_) (fun hc10 hw => ?_)
  · refine aw_aloadn C dX11_giveUp_15 rfl ?_
    refine aw_callV C dX11_giveUp_16 (t_X11_restores S _ _ hw) mM_X11_398 bX11_restores (sA_46 S) rfl rfl ⟨Nat.le_of_ble_eq_true rfl, Nat.le_of_ble_eq_true rfl, Nat.zero_le _, Nat.zero_le _⟩ _ rfl (Nat.le_of_ble_eq_true rfl) (fun r16 G3 hq => ?_)
    obtain ⟨rfl, hw⟩ := hq
    refine aw_aloadn C dX11_giveUp_19 rfl ?_
    refine aw_iconst (v := 0) C dX11_giveUp_20 (by decide) ?_
    refine aw_putI C dX11_giveUp_21 kcX11 (sA_46 S) 52 (by decide) rfl mF_X11_173 rfl rfl rfl hw (fun G4 hw => ?_)
    refine aw_aloadn C dX11_giveUp_24 rfl ?_
    refine aw_getI C dX11_giveUp_25 kcX11 (sA_46 S) 58 (by decide) rfl mF_X11_404 ?_
    exact aw_ireturn C hr dX11_giveUp_28 ⟨_, rfl, hw⟩
  · refine aw_iconst (v := 0) C dX11_giveUp_13 (by decide) ?_
    exact aw_ireturn C hr dX11_giveUp_14 ⟨_, rfl, hw⟩
def w_X11_breakAt (K : Int32 → Gt → Prop) (p0 : Int32) (p1 : Int32) (G0 : Gt) : Prop :=
  w_X11_isNode (fun v2 G1 =>
    w_X11_goes (fun v4 G3 =>
      pif (v4 = 0) (
        K 0 G3) (
        vp_in p0 120 ∧
        vp_in p0 120 ∧
        bz p1 ∧
        pt (gu G3 52 (p0 : Int32).toNatClampNeg p1) fun G5 =>
        bz (G3 52 (p0 : Int32).toNatClampNeg) ∧ K (G3 52 (p0 : Int32).toNatClampNeg) G5)) v2 1 1 G1) p0 G0
set_option maxHeartbeats 4000000 in
set_option maxRecDepth 100000 in
theorem t_X11_breakAt {l : Launch} {sh : Sh} (S : shOK sh) (p0 : Int32) (p1 : Int32) (G0 : Gt) (K : Int32 → Gt → Prop) (hw : w_X11_breakAt K p0 p1 G0) : CT0 l yX11_breakAt cX11_breakAt 4 (some .boolean) 2 43 [.ref 46, .int p0, .int p1] sh G0 (fun r G' => ∃ v, r = some (.int v) ∧ K v G') := by
  refine CT0_of (by decide) (Nat.le_of_ble_eq_true rfl) rfl ?_
  intro p e s m args below meth c D tA ad A C hr _
  unfold w_X11_breakAt at hw
  show aw p l e { frames := 2, cells := 0, slots := 0, locals := 43 } s m args below meth c 4 D tA A (MQ below (QC0 D tA ad A sh (fun r G' => ∃ v, r = some (.int v) ∧ K v G')) args s 0 0 A) 0 0 ad 0 [some (.ref 46), some (.int p0), some (.int p1), none] [] sh G0
  refine aw_aloadn C dX11_breakAt_0 rfl ?_
  refine aw_aloadn C dX11_breakAt_1 rfl ?_
  refine aw_iloadn C dX11_breakAt_2 rfl ?_
  refine aw_callV C dX11_breakAt_3 (t_X11_isNode S p0 _ _ hw) mM_X11_140 bX11_isNode (sA_46 S) rfl rfl ⟨Nat.le_of_ble_eq_true rfl, Nat.le_of_ble_eq_true rfl, Nat.zero_le _, Nat.zero_le _⟩ _ rfl (Nat.le_of_ble_eq_true rfl) (fun r3 G1 hq => ?_)
  obtain ⟨v2, rfl, hw⟩ := hq
  refine aw_iconst (v := 1) C dX11_breakAt_6 (by decide) ?_
  refine aw_iconst (v := 1) C dX11_breakAt_7 (by decide) ?_
  refine aw_callV C dX11_breakAt_8 (t_X11_goes S v2 1 1 _ _ hw) mM_X11_169 bX11_goes (sA_46 S) rfl rfl ⟨Nat.le_of_ble_eq_true rfl, Nat.le_of_ble_eq_true rfl, Nat.zero_le _, Nat.zero_le _⟩ _ rfl (Nat.le_of_ble_eq_true rfl) (fun r8 G3 hq => ?_)
  obtain ⟨v4, rfl, hw⟩ := hq
  refine aw_if_ne C dX11_breakAt_11 16 (by decide) hw (fun hc11 hw => ?_) (fun hc11 hw => ?_)
  · refine aw_aloadn C dX11_breakAt_16 rfl ?_
    refine aw_getR (r := 52) C dX11_breakAt_17 kcX11 (sA_46 S) 6 (by decide) rfl mF_X11_25 ?_
    refine aw_iloadn C dX11_breakAt_20 rfl ?_
    refine aw_zald C dX11_breakAt_21 (sA_52 S) hw.1 ?_
    replace hw := hw.2
    refine aw_istoren C dX11_breakAt_22 (by decide) rfl ?_
    refine aw_aloadn C dX11_breakAt_23 rfl ?_
    refine aw_getR (r := 52) C dX11_breakAt_24 kcX11 (sA_46 S) 6 (by decide) rfl mF_X11_25 ?_
    refine aw_iloadn C dX11_breakAt_27 rfl ?_
    refine aw_iloadn C dX11_breakAt_28 rfl ?_
    refine aw_zast C dX11_breakAt_29 (sA_52 S) hw.1 (bz_v hw.2.1) hw.2.2 (fun G5 hw => ?_)
    refine aw_iloadn C dX11_breakAt_30 rfl ?_
    exact aw_zreturn C hr dX11_breakAt_31 (bz_n hw.1) ⟨_, rfl, hw.2⟩
  · refine aw_iconst (v := 0) C dX11_breakAt_14 (by decide) ?_
    exact aw_zreturn C hr dX11_breakAt_15 rfl ⟨_, rfl, hw⟩
def w_X11_tells (K : Int32 → Gt → Prop) (p0 : Int32) (G0 : Gt) : Prop :=
  pt (gu G0 46 71 0) fun G1 =>
  K p0 G1
set_option maxHeartbeats 4000000 in
set_option maxRecDepth 100000 in
theorem t_X11_tells {l : Launch} {sh : Sh} (S : shOK sh) (p0 : Int32) (G0 : Gt) (K : Int32 → Gt → Prop) (hw : w_X11_tells K p0 G0) : CT0 l yX11_tells cX11_tells 2 (some .int) 0 0 [.ref 46, .int p0] sh G0 (fun r G' => ∃ v, r = some (.int v) ∧ K v G') := by
  refine CT0_of (by decide) (Nat.le_of_ble_eq_true rfl) rfl ?_
  intro p e s m args below meth c D tA ad A C hr _
  unfold w_X11_tells at hw
  show aw p l e { frames := 0, cells := 0, slots := 0, locals := 0 } s m args below meth c 2 D tA A (MQ below (QC0 D tA ad A sh (fun r G' => ∃ v, r = some (.int v) ∧ K v G')) args s 0 0 A) 0 0 ad 0 [some (.ref 46), some (.int p0)] [] sh G0
  refine aw_aloadn C dX11_tells_0 rfl ?_
  refine aw_iconst (v := 0) C dX11_tells_1 (by decide) ?_
  refine aw_putI C dX11_tells_2 kcX11 (sA_46 S) 71 (by decide) rfl mF_X11_130 rfl rfl rfl hw (fun G1 hw => ?_)
  refine aw_iloadn C dX11_tells_5 rfl ?_
  exact aw_ireturn C hr dX11_tells_6 ⟨_, rfl, hw⟩
def w_X11_look_j45 (K : Int32 → Gt → Prop) (y0 : Int32) (G0 : Gt) : Prop :=
  K y0 G0
def w_X11_look (K : Int32 → Gt → Prop) (p0 : Int32) (G0 : Gt) : Prop :=
  w_X11_isName (fun v2 G1 =>
    w_X11_goes (fun v4 G3 =>
      pif (v4 = 0) (
        K 0 G3) (
        w_X11_cellOf (fun v6 G5 =>
          pif (v6 = (-1)) (
            w_X11_look_j45 K 49999 G5) (
            vp_in v6 4960 ∧
            w_X11_look_j45 K (G5 72 (v6 : Int32).toNatClampNeg) G5)) (G3 46 55) p0 G3)) v2 (G1 46 52) 1 G1) p0 G0
set_option maxHeartbeats 4000000 in
set_option maxRecDepth 100000 in
theorem t_X11_look {l : Launch} {sh : Sh} (S : shOK sh) (p0 : Int32) (G0 : Gt) (K : Int32 → Gt → Prop) (hw : w_X11_look K p0 G0) : CT0 l yX11_look cX11_look 3 (some .int) 2 42 [.ref 46, .int p0] sh G0 (fun r G' => ∃ v, r = some (.int v) ∧ K v G') := by
  refine CT0_of (by decide) (Nat.le_of_ble_eq_true rfl) rfl ?_
  intro p e s m args below meth c D tA ad A C hr _
  have h45 : ∀ (y0 : Int32) (G0 : Gt), w_X11_look_j45 K y0 G0 → aw p l e { frames := 2, cells := 0, slots := 0, locals := 42 } s m args below meth c 3 D tA A (MQ below (QC0 D tA ad A sh (fun r G' => ∃ v, r = some (.int v) ∧ K v G')) args s 0 0 A) 0 0 ad 45 [none, none, none] [.int y0] sh G0 := by
    intro  y0 G0 hw
    unfold w_X11_look_j45 at hw
    exact aw_ireturn C hr dX11_look_45 ⟨_, rfl, hw⟩
  unfold w_X11_look at hw
  show aw p l e { frames := 2, cells := 0, slots := 0, locals := 42 } s m args below meth c 3 D tA A (MQ below (QC0 D tA ad A sh (fun r G' => ∃ v, r = some (.int v) ∧ K v G')) args s 0 0 A) 0 0 ad 0 [some (.ref 46), some (.int p0), none] [] sh G0
  refine aw_aloadn C dX11_look_0 rfl ?_
  refine aw_iloadn C dX11_look_1 rfl ?_
  refine aw_callS C dX11_look_2 (t_X11_isName p0 _ _ hw) mM_X11_147 bX11_isName rfl rfl ⟨Nat.le_of_ble_eq_true rfl, Nat.le_of_ble_eq_true rfl, Nat.zero_le _, Nat.zero_le _⟩ _ rfl (Nat.le_of_ble_eq_true rfl) (fun r2 G1 hq => ?_)
  obtain ⟨v2, rfl, hw⟩ := hq
  refine aw_aloadn C dX11_look_5 rfl ?_
  refine aw_getI C dX11_look_6 kcX11 (sA_46 S) 52 (by decide) rfl mF_X11_173 ?_
  refine aw_iconst (v := 1) C dX11_look_9 (by decide) ?_
  refine aw_callV C dX11_look_10 (t_X11_goes S v2 (G1 46 52) 1 _ _ hw) mM_X11_169 bX11_goes (sA_46 S) rfl rfl ⟨Nat.le_of_ble_eq_true rfl, Nat.le_of_ble_eq_true rfl, Nat.zero_le _, Nat.zero_le _⟩ _ rfl (Nat.le_of_ble_eq_true rfl) (fun r10 G3 hq => ?_)
  obtain ⟨v4, rfl, hw⟩ := hq
  refine aw_if_ne C dX11_look_13 18 (by decide) hw (fun hc13 hw => ?_) (fun hc13 hw => ?_)
  · refine aw_aloadn C dX11_look_18 rfl ?_
    refine aw_aloadn C dX11_look_19 rfl ?_
    refine aw_getI C dX11_look_20 kcX11 (sA_46 S) 55 (by decide) rfl mF_X11_199 ?_
    refine aw_iloadn C dX11_look_23 rfl ?_
    refine aw_callV C dX11_look_24 (t_X11_cellOf S (G3 46 55) p0 _ _ hw) mM_X11_279 bX11_cellOf (sA_46 S) rfl rfl ⟨Nat.le_of_ble_eq_true rfl, Nat.le_of_ble_eq_true rfl, Nat.zero_le _, Nat.zero_le _⟩ _ rfl (Nat.le_of_ble_eq_true rfl) (fun r24 G5 hq => ?_)
    obtain ⟨v6, rfl, hw⟩ := hq
    refine aw_istoren C dX11_look_27 (by decide) rfl ?_
    refine aw_iloadn C dX11_look_28 rfl ?_
    refine aw_iconst (v := (-1)) C dX11_look_29 (by decide) ?_
    refine aw_ic_ne C dX11_look_30 39 (by decide) hw (fun hc30 hw => ?_) (fun hc30 hw => ?_)
    · refine aw_aloadn C dX11_look_39 rfl ?_
      refine aw_getR (r := 72) C dX11_look_40 kcX11 (sA_46 S) 31 (by decide) rfl mF_X11_93 ?_
      refine aw_iloadn C dX11_look_43 rfl ?_
      refine aw_iald C dX11_look_44 (sA_72 S) hw.1 ?_
      replace hw := hw.2
      exact aw_msk [false, false, false] (h45 (G5 72 (v6 : Int32).toNatClampNeg) _ hw)
    · refine aw_ldcw (v := 49999) C dX11_look_33 mK_X11_450 ?_
      refine aw_goto (tgt := 45) C dX11_look_36 (by decide) ?_
      exact aw_msk [false, false, false] (h45 49999 _ hw)
  · refine aw_iconst (v := 0) C dX11_look_16 (by decide) ?_
    exact aw_ireturn C hr dX11_look_17 ⟨_, rfl, hw⟩
def w_X11_active_j16 (K : Int32 → Gt → Prop) (y1 : Int32) (G0 : Gt) : Prop :=
  w_X11_tells (fun v2 G1 =>
    K v2 G1) y1 G0
def w_X11_active (K : Int32 → Gt → Prop) (G0 : Gt) : Prop :=
  pif ((G0 46 52) = 0) (
    w_X11_active_j16 K 0 G0) (
    w_X11_active_j16 K (G0 46 50) G0)
set_option maxHeartbeats 4000000 in
set_option maxRecDepth 100000 in
theorem t_X11_active {l : Launch} {sh : Sh} (S : shOK sh) (G0 : Gt) (K : Int32 → Gt → Prop) (hw : w_X11_active K G0) : CT0 l yX11_active cX11_active 1 (some .int) 1 21 [.ref 46] sh G0 (fun r G' => ∃ v, r = some (.int v) ∧ K v G') := by
  refine CT0_of (by decide) (Nat.le_of_ble_eq_true rfl) rfl ?_
  intro p e s m args below meth c D tA ad A C hr _
  have h16 : ∀ (y1 : Int32) (G0 : Gt), w_X11_active_j16 K y1 G0 → aw p l e { frames := 1, cells := 0, slots := 0, locals := 21 } s m args below meth c 1 D tA A (MQ below (QC0 D tA ad A sh (fun r G' => ∃ v, r = some (.int v) ∧ K v G')) args s 0 0 A) 0 0 ad 16 [none] [.int y1, .ref 46] sh G0 := by
    intro  y1 G0 hw
    unfold w_X11_active_j16 at hw
    refine aw_callV C dX11_active_16 (t_X11_tells S y1 _ _ hw) mM_X11_447 bX11_tells (sA_46 S) rfl rfl ⟨Nat.le_of_ble_eq_true rfl, Nat.le_of_ble_eq_true rfl, Nat.zero_le _, Nat.zero_le _⟩ _ rfl (Nat.le_of_ble_eq_true rfl) (fun r16 G1 hq => ?_)
    obtain ⟨v2, rfl, hw⟩ := hq
    exact aw_ireturn C hr dX11_active_19 ⟨_, rfl, hw⟩
  unfold w_X11_active at hw
  show aw p l e { frames := 1, cells := 0, slots := 0, locals := 21 } s m args below meth c 1 D tA A (MQ below (QC0 D tA ad A sh (fun r G' => ∃ v, r = some (.int v) ∧ K v G')) args s 0 0 A) 0 0 ad 0 [some (.ref 46)] [] sh G0
  refine aw_aloadn C dX11_active_0 rfl ?_
  refine aw_aloadn C dX11_active_1 rfl ?_
  refine aw_getI C dX11_active_2 kcX11 (sA_46 S) 52 (by decide) rfl mF_X11_173 ?_
  refine aw_if_eq C dX11_active_5 15 (by decide) hw (fun hc5 hw => ?_) (fun hc5 hw => ?_)
  · refine aw_iconst (v := 0) C dX11_active_15 (by decide) ?_
    exact aw_msk [false] (h16 0 _ hw)
  · refine aw_aloadn C dX11_active_8 rfl ?_
    refine aw_getI C dX11_active_9 kcX11 (sA_46 S) 50 (by decide) rfl mF_X11_234 ?_
    refine aw_goto (tgt := 16) C dX11_active_12 (by decide) ?_
    exact aw_msk [false] (h16 (G0 46 50) _ hw)
def w_X11_outcome (K : Int32 → Gt → Prop) (G0 : Gt) : Prop :=
  w_X11_tells (fun v2 G1 =>
    K v2 G1) (G0 46 66) G0
set_option maxHeartbeats 4000000 in
set_option maxRecDepth 100000 in
theorem t_X11_outcome {l : Launch} {sh : Sh} (S : shOK sh) (G0 : Gt) (K : Int32 → Gt → Prop) (hw : w_X11_outcome K G0) : CT0 l yX11_outcome cX11_outcome 1 (some .int) 1 21 [.ref 46] sh G0 (fun r G' => ∃ v, r = some (.int v) ∧ K v G') := by
  refine CT0_of (by decide) (Nat.le_of_ble_eq_true rfl) rfl ?_
  intro p e s m args below meth c D tA ad A C hr _
  unfold w_X11_outcome at hw
  show aw p l e { frames := 1, cells := 0, slots := 0, locals := 21 } s m args below meth c 1 D tA A (MQ below (QC0 D tA ad A sh (fun r G' => ∃ v, r = some (.int v) ∧ K v G')) args s 0 0 A) 0 0 ad 0 [some (.ref 46)] [] sh G0
  refine aw_aloadn C dX11_outcome_0 rfl ?_
  refine aw_aloadn C dX11_outcome_1 rfl ?_
  refine aw_getI C dX11_outcome_2 kcX11 (sA_46 S) 66 (by decide) rfl mF_X11_429 ?_
  refine aw_callV C dX11_outcome_5 (t_X11_tells S (G0 46 66) _ _ hw) mM_X11_447 bX11_tells (sA_46 S) rfl rfl ⟨Nat.le_of_ble_eq_true rfl, Nat.le_of_ble_eq_true rfl, Nat.zero_le _, Nat.zero_le _⟩ _ rfl (Nat.le_of_ble_eq_true rfl) (fun r5 G1 hq => ?_)
  obtain ⟨v2, rfl, hw⟩ := hq
  exact aw_ireturn C hr dX11_outcome_8 ⟨_, rfl, hw⟩
def w_X11_steps (K : Int32 → Gt → Prop) (G0 : Gt) : Prop :=
  w_X11_tells (fun v2 G1 =>
    K v2 G1) (G0 46 67) G0
set_option maxHeartbeats 4000000 in
set_option maxRecDepth 100000 in
theorem t_X11_steps {l : Launch} {sh : Sh} (S : shOK sh) (G0 : Gt) (K : Int32 → Gt → Prop) (hw : w_X11_steps K G0) : CT0 l yX11_steps cX11_steps 1 (some .int) 1 21 [.ref 46] sh G0 (fun r G' => ∃ v, r = some (.int v) ∧ K v G') := by
  refine CT0_of (by decide) (Nat.le_of_ble_eq_true rfl) rfl ?_
  intro p e s m args below meth c D tA ad A C hr _
  unfold w_X11_steps at hw
  show aw p l e { frames := 1, cells := 0, slots := 0, locals := 21 } s m args below meth c 1 D tA A (MQ below (QC0 D tA ad A sh (fun r G' => ∃ v, r = some (.int v) ∧ K v G')) args s 0 0 A) 0 0 ad 0 [some (.ref 46)] [] sh G0
  refine aw_aloadn C dX11_steps_0 rfl ?_
  refine aw_aloadn C dX11_steps_1 rfl ?_
  refine aw_getI C dX11_steps_2 kcX11 (sA_46 S) 67 (by decide) rfl mF_X11_432 ?_
  refine aw_callV C dX11_steps_5 (t_X11_tells S (G0 46 67) _ _ hw) mM_X11_447 bX11_tells (sA_46 S) rfl rfl ⟨Nat.le_of_ble_eq_true rfl, Nat.le_of_ble_eq_true rfl, Nat.zero_le _, Nat.zero_le _⟩ _ rfl (Nat.le_of_ble_eq_true rfl) (fun r5 G1 hq => ?_)
  obtain ⟨v2, rfl, hw⟩ := hq
  exact aw_ireturn C hr dX11_steps_8 ⟨_, rfl, hw⟩
def w_X11_cause (K : Int32 → Gt → Prop) (G0 : Gt) : Prop :=
  w_X11_tells (fun v2 G1 =>
    K v2 G1) (G0 46 68) G0
set_option maxHeartbeats 4000000 in
set_option maxRecDepth 100000 in
theorem t_X11_cause {l : Launch} {sh : Sh} (S : shOK sh) (G0 : Gt) (K : Int32 → Gt → Prop) (hw : w_X11_cause K G0) : CT0 l yX11_cause cX11_cause 1 (some .int) 1 21 [.ref 46] sh G0 (fun r G' => ∃ v, r = some (.int v) ∧ K v G') := by
  refine CT0_of (by decide) (Nat.le_of_ble_eq_true rfl) rfl ?_
  intro p e s m args below meth c D tA ad A C hr _
  unfold w_X11_cause at hw
  show aw p l e { frames := 1, cells := 0, slots := 0, locals := 21 } s m args below meth c 1 D tA A (MQ below (QC0 D tA ad A sh (fun r G' => ∃ v, r = some (.int v) ∧ K v G')) args s 0 0 A) 0 0 ad 0 [some (.ref 46)] [] sh G0
  refine aw_aloadn C dX11_cause_0 rfl ?_
  refine aw_aloadn C dX11_cause_1 rfl ?_
  refine aw_getI C dX11_cause_2 kcX11 (sA_46 S) 68 (by decide) rfl mF_X11_124 ?_
  refine aw_callV C dX11_cause_5 (t_X11_tells S (G0 46 68) _ _ hw) mM_X11_447 bX11_tells (sA_46 S) rfl rfl ⟨Nat.le_of_ble_eq_true rfl, Nat.le_of_ble_eq_true rfl, Nat.zero_le _, Nat.zero_le _⟩ _ rfl (Nat.le_of_ble_eq_true rfl) (fun r5 G1 hq => ?_)
  obtain ⟨v2, rfl, hw⟩ := hq
  exact aw_ireturn C hr dX11_cause_8 ⟨_, rfl, hw⟩
def w_X11_traced (K : Int32 → Gt → Prop) (G0 : Gt) : Prop :=
  w_X11_tells (fun v2 G1 =>
    K v2 G1) (G0 46 69) G0
set_option maxHeartbeats 4000000 in
set_option maxRecDepth 100000 in
theorem t_X11_traced {l : Launch} {sh : Sh} (S : shOK sh) (G0 : Gt) (K : Int32 → Gt → Prop) (hw : w_X11_traced K G0) : CT0 l yX11_traced cX11_traced 1 (some .int) 1 21 [.ref 46] sh G0 (fun r G' => ∃ v, r = some (.int v) ∧ K v G') := by
  refine CT0_of (by decide) (Nat.le_of_ble_eq_true rfl) rfl ?_
  intro p e s m args below meth c D tA ad A C hr _
  unfold w_X11_traced at hw
  show aw p l e { frames := 1, cells := 0, slots := 0, locals := 21 } s m args below meth c 1 D tA A (MQ below (QC0 D tA ad A sh (fun r G' => ∃ v, r = some (.int v) ∧ K v G')) args s 0 0 A) 0 0 ad 0 [some (.ref 46)] [] sh G0
  refine aw_aloadn C dX11_traced_0 rfl ?_
  refine aw_aloadn C dX11_traced_1 rfl ?_
  refine aw_getI C dX11_traced_2 kcX11 (sA_46 S) 69 (by decide) rfl mF_X11_435 ?_
  refine aw_callV C dX11_traced_5 (t_X11_tells S (G0 46 69) _ _ hw) mM_X11_447 bX11_tells (sA_46 S) rfl rfl ⟨Nat.le_of_ble_eq_true rfl, Nat.le_of_ble_eq_true rfl, Nat.zero_le _, Nat.zero_le _⟩ _ rfl (Nat.le_of_ble_eq_true rfl) (fun r5 G1 hq => ?_)
  obtain ⟨v2, rfl, hw⟩ := hq
  exact aw_ireturn C hr dX11_traced_8 ⟨_, rfl, hw⟩
def w_X11_traceAt_j30 (K : Int32 → Gt → Prop) (y0 : Int32) (G0 : Gt) : Prop :=
  K y0 G0
def w_X11_traceAt (K : Int32 → Gt → Prop) (p0 : Int32) (G0 : Gt) : Prop :=
  w_X11_in (fun v2 G1 =>
    w_X11_goes (fun v4 G3 =>
      pif (v4 = 0) (
        w_X11_traceAt_j30 K 0 G3) (
        vp_in p0 14 ∧
        w_X11_traceAt_j30 K (G3 82 (p0 : Int32).toNatClampNeg) G3)) v2 1 1 G1) p0 0 ((G0 46 69) - 1) G0
set_option maxHeartbeats 4000000 in
set_option maxRecDepth 100000 in
theorem t_X11_traceAt {l : Launch} {sh : Sh} (S : shOK sh) (p0 : Int32) (G0 : Gt) (K : Int32 → Gt → Prop) (hw : w_X11_traceAt K p0 G0) : CT0 l yX11_traceAt cX11_traceAt 2 (some .int) 1 23 [.ref 46, .int p0] sh G0 (fun r G' => ∃ v, r = some (.int v) ∧ K v G') := by
  refine CT0_of (by decide) (Nat.le_of_ble_eq_true rfl) rfl ?_
  intro p e s m args below meth c D tA ad A C hr _
  have h30 : ∀ (y0 : Int32) (G0 : Gt), w_X11_traceAt_j30 K y0 G0 → aw p l e { frames := 1, cells := 0, slots := 0, locals := 23 } s m args below meth c 2 D tA A (MQ below (QC0 D tA ad A sh (fun r G' => ∃ v, r = some (.int v) ∧ K v G')) args s 0 0 A) 0 0 ad 30 [none, none] [.int y0] sh G0 := by
    intro  y0 G0 hw
    unfold w_X11_traceAt_j30 at hw
    exact aw_ireturn C hr dX11_traceAt_30 ⟨_, rfl, hw⟩
  unfold w_X11_traceAt at hw
  show aw p l e { frames := 1, cells := 0, slots := 0, locals := 23 } s m args below meth c 2 D tA A (MQ below (QC0 D tA ad A sh (fun r G' => ∃ v, r = some (.int v) ∧ K v G')) args s 0 0 A) 0 0 ad 0 [some (.ref 46), some (.int p0)] [] sh G0
  refine aw_aloadn C dX11_traceAt_0 rfl ?_
  refine aw_iloadn C dX11_traceAt_1 rfl ?_
  refine aw_iconst (v := 0) C dX11_traceAt_2 (by decide) ?_
  refine aw_aloadn C dX11_traceAt_3 rfl ?_
  refine aw_getI C dX11_traceAt_4 kcX11 (sA_46 S) 69 (by decide) rfl mF_X11_435 ?_
  refine aw_iconst (v := 1) C dX11_traceAt_7 (by decide) ?_
  refine aw_isub C dX11_traceAt_8 ?_
  refine aw_callS C dX11_traceAt_9 (t_X11_in p0 0 ((G0 46 69) - 1) _ _ hw) mM_X11_136 bX11_in rfl rfl ⟨Nat.le_of_ble_eq_true rfl, Nat.le_of_ble_eq_true rfl, Nat.zero_le _, Nat.zero_le _⟩ _ rfl (Nat.le_of_ble_eq_true rfl) (fun r9 G1 hq => ?_)
  obtain ⟨v2, rfl, hw⟩ := hq
  refine aw_iconst (v := 1) C dX11_traceAt_12 (by decide) ?_
  refine aw_iconst (v := 1) C dX11_traceAt_13 (by decide) ?_
  refine aw_callV C dX11_traceAt_14 (t_X11_goes S v2 1 1 _ _ hw) mM_X11_169 bX11_goes (sA_46 S) rfl rfl ⟨Nat.le_of_ble_eq_true rfl, Nat.le_of_ble_eq_true rfl, Nat.zero_le _, Nat.zero_le _⟩ _ rfl (Nat.le_of_ble_eq_true rfl) (fun r14 G3 hq => ?_)
  obtain ⟨v4, rfl, hw⟩ := hq
  refine aw_if_eq C dX11_traceAt_17 29 (by decide) hw (fun hc17 hw => ?_) (fun hc17 hw => ?_)
  · refine aw_iconst (v := 0) C dX11_traceAt_29 (by decide) ?_
    exact aw_msk [false, false] (h30 0 _ hw)
  · refine aw_aloadn C dX11_traceAt_20 rfl ?_
    refine aw_getR (r := 82) C dX11_traceAt_21 kcX11 (sA_46 S) 70 (by decide) rfl mF_X11_127 ?_
    refine aw_iloadn C dX11_traceAt_24 rfl ?_
    refine aw_iald C dX11_traceAt_25 (sA_82 S) hw.1 ?_
    replace hw := hw.2
    refine aw_goto (tgt := 30) C dX11_traceAt_26 (by decide) ?_
    exact aw_msk [false, false] (h30 (G3 82 (p0 : Int32).toNatClampNeg) _ hw)
def w_X11_buffer (K : Int32 → Gt → Prop) (G0 : Gt) : Prop :=
  w_X11_tells (fun v2 G1 =>
    K v2 G1) (G0 46 14) G0
set_option maxHeartbeats 4000000 in
set_option maxRecDepth 100000 in
theorem t_X11_buffer {l : Launch} {sh : Sh} (S : shOK sh) (G0 : Gt) (K : Int32 → Gt → Prop) (hw : w_X11_buffer K G0) : CT0 l yX11_buffer cX11_buffer 1 (some .int) 1 21 [.ref 46] sh G0 (fun r G' => ∃ v, r = some (.int v) ∧ K v G') := by
  refine CT0_of (by decide) (Nat.le_of_ble_eq_true rfl) rfl ?_
  intro p e s m args below meth c D tA ad A C hr _
  unfold w_X11_buffer at hw
  show aw p l e { frames := 1, cells := 0, slots := 0, locals := 21 } s m args below meth c 1 D tA A (MQ below (QC0 D tA ad A sh (fun r G' => ∃ v, r = some (.int v) ∧ K v G')) args s 0 0 A) 0 0 ad 0 [some (.ref 46)] [] sh G0
  refine aw_aloadn C dX11_buffer_0 rfl ?_
  refine aw_aloadn C dX11_buffer_1 rfl ?_
  refine aw_getI C dX11_buffer_2 kcX11 (sA_46 S) 14 (by decide) rfl mF_X11_180 ?_
  refine aw_callV C dX11_buffer_5 (t_X11_tells S (G0 46 14) _ _ hw) mM_X11_447 bX11_tells (sA_46 S) rfl rfl ⟨Nat.le_of_ble_eq_true rfl, Nat.le_of_ble_eq_true rfl, Nat.zero_le _, Nat.zero_le _⟩ _ rfl (Nat.le_of_ble_eq_true rfl) (fun r5 G1 hq => ?_)
  obtain ⟨v2, rfl, hw⟩ := hq
  exact aw_ireturn C hr dX11_buffer_8 ⟨_, rfl, hw⟩
def w_X11_length_j23 (K : Int32 → Gt → Prop) (y0 : Int32) (G0 : Gt) : Prop :=
  K y0 G0
def w_X11_length (K : Int32 → Gt → Prop) (p0 : Int32) (G0 : Gt) : Prop :=
  w_X11_isBuffer (fun v2 G1 =>
    w_X11_goes (fun v4 G3 =>
      pif (v4 = 0) (
        w_X11_length_j23 K 0 G3) (
        vp_in p0 2 ∧
        w_X11_length_j23 K (G3 59 (p0 : Int32).toNatClampNeg) G3)) v2 1 1 G1) p0 G0
set_option maxHeartbeats 4000000 in
set_option maxRecDepth 100000 in
theorem t_X11_length {l : Launch} {sh : Sh} (S : shOK sh) (p0 : Int32) (G0 : Gt) (K : Int32 → Gt → Prop) (hw : w_X11_length K p0 G0) : CT0 l yX11_length cX11_length 2 (some .int) 1 23 [.ref 46, .int p0] sh G0 (fun r G' => ∃ v, r = some (.int v) ∧ K v G') := by
  refine CT0_of (by decide) (Nat.le_of_ble_eq_true rfl) rfl ?_
  intro p e s m args below meth c D tA ad A C hr _
  have h23 : ∀ (y0 : Int32) (G0 : Gt), w_X11_length_j23 K y0 G0 → aw p l e { frames := 1, cells := 0, slots := 0, locals := 23 } s m args below meth c 2 D tA A (MQ below (QC0 D tA ad A sh (fun r G' => ∃ v, r = some (.int v) ∧ K v G')) args s 0 0 A) 0 0 ad 23 [none, none] [.int y0] sh G0 := by
    intro  y0 G0 hw
    unfold w_X11_length_j23 at hw
    exact aw_ireturn C hr dX11_length_23 ⟨_, rfl, hw⟩
  unfold w_X11_length at hw
  show aw p l e { frames := 1, cells := 0, slots := 0, locals := 23 } s m args below meth c 2 D tA A (MQ below (QC0 D tA ad A sh (fun r G' => ∃ v, r = some (.int v) ∧ K v G')) args s 0 0 A) 0 0 ad 0 [some (.ref 46), some (.int p0)] [] sh G0
  refine aw_aloadn C dX11_length_0 rfl ?_
  refine aw_iloadn C dX11_length_1 rfl ?_
  refine aw_callS C dX11_length_2 (t_X11_isBuffer p0 _ _ hw) mM_X11_177 bX11_isBuffer rfl rfl ⟨Nat.le_of_ble_eq_true rfl, Nat.le_of_ble_eq_true rfl, Nat.zero_le _, Nat.zero_le _⟩ _ rfl (Nat.le_of_ble_eq_true rfl) (fun r2 G1 hq => ?_)
  obtain ⟨v2, rfl, hw⟩ := hq
  refine aw_iconst (v := 1) C dX11_length_5 (by decide) ?_
  refine aw_iconst (v := 1) C dX11_length_6 (by decide) ?_
  refine aw_callV C dX11_length_7 (t_X11_goes S v2 1 1 _ _ hw) mM_X11_169 bX11_goes (sA_46 S) rfl rfl ⟨Nat.le_of_ble_eq_true rfl, Nat.le_of_ble_eq_true rfl, Nat.zero_le _, Nat.zero_le _⟩ _ rfl (Nat.le_of_ble_eq_true rfl) (fun r7 G3 hq => ?_)
  obtain ⟨v4, rfl, hw⟩ := hq
  refine aw_if_eq C dX11_length_10 22 (by decide) hw (fun hc10 hw => ?_) (fun hc10 hw => ?_)
  · refine aw_iconst (v := 0) C dX11_length_22 (by decide) ?_
    exact aw_msk [false, false] (h23 0 _ hw)
  · refine aw_aloadn C dX11_length_13 rfl ?_
    refine aw_getR (r := 59) C dX11_length_14 kcX11 (sA_46 S) 16 (by decide) rfl mF_X11_54 ?_
    refine aw_iloadn C dX11_length_17 rfl ?_
    refine aw_iald C dX11_length_18 (sA_59 S) hw.1 ?_
    replace hw := hw.2
    refine aw_goto (tgt := 23) C dX11_length_19 (by decide) ?_
    exact aw_msk [false, false] (h23 (G3 59 (p0 : Int32).toNatClampNeg) _ hw)
def w_X11_letter_j61 (K : Int32 → Gt → Prop) (y0 : Int32) (G0 : Gt) : Prop :=
  K y0 G0
def w_X11_letter_j38 (K : Int32 → Gt → Prop) (x1 : Int32) (x2 : Int32) (y1 : Int32) (G0 : Gt) : Prop :=
  w_X11_goes (fun v4 G3 =>
    pif (v4 = 0) (
      w_X11_letter_j61 K 0 G3) (
      vp_in ((40 * x1) + x2) 80 ∧
      w_X11_letter_j61 K (G3 58 (((40 * x1) + x2) : Int32).toNatClampNeg) G3)) y1 1 1 G0
def w_X11_letter_j37 (K : Int32 → Gt → Prop) (x1 : Int32) (x2 : Int32) (G0 : Gt) : Prop :=
  w_X11_letter_j38 K x1 x2 0 G0
def w_X11_letter_j24 (K : Int32 → Gt → Prop) (x1 : Int32) (x2 : Int32) (y1 : Int32) (y2 : Int32) (y4 : Int32) (G0 : Gt) : Prop :=
  vp_in y4 2 ∧
  w_X11_in (fun v6 G5 =>
    pif (v6 = 0) (
      w_X11_letter_j37 K x1 x2 G5) (
      w_X11_letter_j38 K x1 x2 1 G5)) y1 y2 ((G0 59 (y4 : Int32).toNatClampNeg) - 1) G0
def w_X11_letter (K : Int32 → Gt → Prop) (p0 : Int32) (p1 : Int32) (G0 : Gt) : Prop :=
  w_X11_isBuffer (fun v2 G1 =>
    pif (v2 = 0) (
      w_X11_letter_j37 K p0 p1 G1) (
      pif (p0 = 1) (
        w_X11_letter_j24 K p0 p1 p1 0 1 G1) (
        w_X11_letter_j24 K p0 p1 p1 0 0 G1))) p0 G0
set_option maxHeartbeats 4000000 in
set_option maxRecDepth 100000 in
theorem t_X11_letter {l : Launch} {sh : Sh} (S : shOK sh) (p0 : Int32) (p1 : Int32) (G0 : Gt) (K : Int32 → Gt → Prop) (hw : w_X11_letter K p0 p1 G0) : CT0 l yX11_letter cX11_letter 3 (some .int) 1 23 [.ref 46, .int p0, .int p1] sh G0 (fun r G' => ∃ v, r = some (.int v) ∧ K v G') := by
  refine CT0_of (by decide) (Nat.le_of_ble_eq_true rfl) rfl ?_
  intro p e s m args below meth c D tA ad A C hr _
  have h61 : ∀ (y0 : Int32) (G0 : Gt), w_X11_letter_j61 K y0 G0 → aw p l e { frames := 1, cells := 0, slots := 0, locals := 23 } s m args below meth c 3 D tA A (MQ below (QC0 D tA ad A sh (fun r G' => ∃ v, r = some (.int v) ∧ K v G')) args s 0 0 A) 0 0 ad 61 [none, none, none] [.int y0] sh G0 := by
    intro  y0 G0 hw
    unfold w_X11_letter_j61 at hw
    exact aw_ireturn C hr dX11_letter_61 ⟨_, rfl, hw⟩
  have h38 : ∀ (x1 : Int32) (x2 : Int32) (y1 : Int32) (G0 : Gt), w_X11_letter_j38 K x1 x2 y1 G0 → aw p l e { frames := 1, cells := 0, slots := 0, locals := 23 } s m args below meth c 3 D tA A (MQ below (QC0 D tA ad A sh (fun r G' => ∃ v, r = some (.int v) ∧ K v G')) args s 0 0 A) 0 0 ad 38 [some (.ref 46), some (.int x1), some (.int x2)] [.int y1, .ref 46] sh G0 := by
    intro  x1 x2 y1 G0 hw
    unfold w_X11_letter_j38 at hw
    refine aw_iconst (v := 1) C dX11_letter_38 (by decide) ?_
    refine aw_iconst (v := 1) C dX11_letter_39 (by decide) ?_
    refine aw_callV C dX11_letter_40 (t_X11_goes S y1 1 1 _ _ hw) mM_X11_169 bX11_goes (sA_46 S) rfl rfl ⟨Nat.le_of_ble_eq_true rfl, Nat.le_of_ble_eq_true rfl, Nat.zero_le _, Nat.zero_le _⟩ _ rfl (Nat.le_of_ble_eq_true rfl) (fun r40 G3 hq => ?_)
    obtain ⟨v4, rfl, hw⟩ := hq
    refine aw_if_eq C dX11_letter_43 60 (by decide) hw (fun hc43 hw => ?_) (fun hc43 hw => ?_)
    · refine aw_iconst (v := 0) C dX11_letter_60 (by decide) ?_
      exact aw_msk [false, false, false] (h61 0 _ hw)
    · refine aw_aloadn C dX11_letter_46 rfl ?_
      refine aw_getR (r := 58) C dX11_letter_47 kcX11 (sA_46 S) 15 (by decide) rfl mF_X11_51 ?_
      refine aw_bipush (v := 40) C dX11_letter_50 (by decide) ?_
      refine aw_iloadn C dX11_letter_52 rfl ?_
      refine aw_imul C dX11_letter_53 ?_
      refine aw_iloadn C dX11_letter_54 rfl ?_
      refine aw_iadd C dX11_letter_55 ?_
      refine aw_iald C dX11_letter_56 (sA_58 S) hw.1 ?_
      replace hw := hw.2
      refine aw_goto (tgt := 61) C dX11_letter_57 (by decide) ?_
      exact aw_msk [false, false, false] (h61 (G3 58 (((40 * x1) + x2) : Int32).toNatClampNeg) _ hw)
  have h37 : ∀ (x1 : Int32) (x2 : Int32) (G0 : Gt), w_X11_letter_j37 K x1 x2 G0 → aw p l e { frames := 1, cells := 0, slots := 0, locals := 23 } s m args below meth c 3 D tA A (MQ below (QC0 D tA ad A sh (fun r G' => ∃ v, r = some (.int v) ∧ K v G')) args s 0 0 A) 0 0 ad 37 [some (.ref 46), some (.int x1), some (.int x2)] [.ref 46] sh G0 := by
    intro  x1 x2 G0 hw
    unfold w_X11_letter_j37 at hw
    refine aw_iconst (v := 0) C dX11_letter_37 (by decide) ?_
    exact aw_msk [true, true, true] (h38 x1 x2 0 _ hw)
  have h24 : ∀ (x1 : Int32) (x2 : Int32) (y1 : Int32) (y2 : Int32) (y4 : Int32) (G0 : Gt), w_X11_letter_j24 K x1 x2 y1 y2 y4 G0 → aw p l e { frames := 1, cells := 0, slots := 0, locals := 23 } s m args below meth c 3 D tA A (MQ below (QC0 D tA ad A sh (fun r G' => ∃ v, r = some (.int v) ∧ K v G')) args s 0 0 A) 0 0 ad 24 [some (.ref 46), some (.int x1), some (.int x2)] [.int y4, .ref 59, .int y2, .int y1, .ref 46] sh G0 := by
    intro  x1 x2 y1 y2 y4 G0 hw
    unfold w_X11_letter_j24 at hw
    refine aw_iald C dX11_letter_24 (sA_59 S) hw.1 ?_
    replace hw := hw.2
    refine aw_iconst (v := 1) C dX11_letter_25 (by decide) ?_
    refine aw_isub C dX11_letter_26 ?_
    refine aw_callS C dX11_letter_27 (t_X11_in y1 y2 ((G0 59 (y4 : Int32).toNatClampNeg) - 1) _ _ hw) mM_X11_136 bX11_in rfl rfl ⟨Nat.le_of_ble_eq_true rfl, Nat.le_of_ble_eq_true rfl, Nat.zero_le _, Nat.zero_le _⟩ _ rfl (Nat.le_of_ble_eq_true rfl) (fun r27 G5 hq => ?_)
    obtain ⟨v6, rfl, hw⟩ := hq
    refine aw_if_eq C dX11_letter_30 37 (by decide) hw (fun hc30 hw => ?_) (fun hc30 hw => ?_)
    · exact aw_msk [true, true, true] (h37 x1 x2 _ hw)
    · refine aw_iconst (v := 1) C dX11_letter_33 (by decide) ?_
      refine aw_goto (tgt := 38) C dX11_letter_34 (by decide) ?_
      exact aw_msk [true, true, true] (h38 x1 x2 1 _ hw)
  unfold w_X11_letter at hw
  show aw p l e { frames := 1, cells := 0, slots := 0, locals := 23 } s m args below meth c 3 D tA A (MQ below (QC0 D tA ad A sh (fun r G' => ∃ v, r = some (.int v) ∧ K v G')) args s 0 0 A) 0 0 ad 0 [some (.ref 46), some (.int p0), some (.int p1)] [] sh G0
  refine aw_aloadn C dX11_letter_0 rfl ?_
  refine aw_iloadn C dX11_letter_1 rfl ?_
  refine aw_callS C dX11_letter_2 (t_X11_isBuffer p0 _ _ hw) mM_X11_177 bX11_isBuffer rfl rfl ⟨Nat.le_of_ble_eq_true rfl, Nat.le_of_ble_eq_true rfl, Nat.zero_le _, Nat.zero_le _⟩ _ rfl (Nat.le_of_ble_eq_true rfl) (fun r2 G1 hq => ?_)
  obtain ⟨v2, rfl, hw⟩ := hq
  refine aw_if_eq C dX11_letter_5 37 (by decide) hw (fun hc5 hw => ?_) (fun hc5 hw => ?_)
  · exact aw_msk [true, true, true] (h37 p0 p1 _ hw)
  · refine aw_iloadn C dX11_letter_8 rfl ?_
    refine aw_iconst (v := 0) C dX11_letter_9 (by decide) ?_
    refine aw_aloadn C dX11_letter_10 rfl ?_
    refine aw_getR (r := 59) C dX11_letter_11 kcX11 (sA_46 S) 16 (by decide) rfl mF_X11_54 ?_
    refine aw_iloadn C dX11_letter_14 rfl ?_
    refine aw_iconst (v := 1) C dX11_letter_15 (by decide) ?_
    refine aw_ic_ne C dX11_letter_16 23 (by decide) hw (fun hc16 hw => ?_) (fun hc16 hw => ?_)
    · refine aw_iconst (v := 0) C dX11_letter_23 (by decide) ?_
      exact aw_msk [true, true, true] (h24 p0 p1 p1 0 0 _ hw)
    · refine aw_iconst (v := 1) C dX11_letter_19 (by decide) ?_
      refine aw_goto (tgt := 24) C dX11_letter_20 (by decide) ?_
      exact aw_msk [true, true, true] (h24 p0 p1 p1 0 1 _ hw)
def w_X11_cursor_j42 (K : Int32 → Gt → Prop) (y0 : Int32) (G0 : Gt) : Prop :=
  K y0 G0
def w_X11_cursor_j20 (K : Int32 → Gt → Prop) (x1 : Int32) (x2 : Int32) (y1 : Int32) (G0 : Gt) : Prop :=
  w_X11_goes (fun v4 G3 =>
    pif (v4 = 0) (
      w_X11_cursor_j42 K 0 G3) (
      vp_in ((4 * x1) + x2) 8 ∧
      w_X11_cursor_j42 K (G3 60 (((4 * x1) + x2) : Int32).toNatClampNeg) G3)) y1 1 1 G0
def w_X11_cursor_j19 (K : Int32 → Gt → Prop) (x1 : Int32) (x2 : Int32) (G0 : Gt) : Prop :=
  w_X11_cursor_j20 K x1 x2 0 G0
def w_X11_cursor (K : Int32 → Gt → Prop) (p0 : Int32) (p1 : Int32) (G0 : Gt) : Prop :=
  w_X11_isBuffer (fun v2 G1 =>
    pif (v2 = 0) (
      w_X11_cursor_j19 K p0 p1 G1) (
      w_X11_isFew (fun v6 G5 =>
        pif (v6 = 0) (
          w_X11_cursor_j19 K p0 p1 G5) (
          w_X11_cursor_j20 K p0 p1 1 G5)) p1 G1)) p0 G0
set_option maxHeartbeats 4000000 in
set_option maxRecDepth 100000 in
theorem t_X11_cursor {l : Launch} {sh : Sh} (S : shOK sh) (p0 : Int32) (p1 : Int32) (G0 : Gt) (K : Int32 → Gt → Prop) (hw : w_X11_cursor K p0 p1 G0) : CT0 l yX11_cursor cX11_cursor 3 (some .int) 2 42 [.ref 46, .int p0, .int p1] sh G0 (fun r G' => ∃ v, r = some (.int v) ∧ K v G') := by
  refine CT0_of (by decide) (Nat.le_of_ble_eq_true rfl) rfl ?_
  intro p e s m args below meth c D tA ad A C hr _
  have h42 : ∀ (y0 : Int32) (G0 : Gt), w_X11_cursor_j42 K y0 G0 → aw p l e { frames := 2, cells := 0, slots := 0, locals := 42 } s m args below meth c 3 D tA A (MQ below (QC0 D tA ad A sh (fun r G' => ∃ v, r = some (.int v) ∧ K v G')) args s 0 0 A) 0 0 ad 42 [none, none, none] [.int y0] sh G0 := by
    intro  y0 G0 hw
    unfold w_X11_cursor_j42 at hw
    exact aw_ireturn C hr dX11_cursor_42 ⟨_, rfl, hw⟩
  have h20 : ∀ (x1 : Int32) (x2 : Int32) (y1 : Int32) (G0 : Gt), w_X11_cursor_j20 K x1 x2 y1 G0 → aw p l e { frames := 2, cells := 0, slots := 0, locals := 42 } s m args below meth c 3 D tA A (MQ below (QC0 D tA ad A sh (fun r G' => ∃ v, r = some (.int v) ∧ K v G')) args s 0 0 A) 0 0 ad 20 [some (.ref 46), some (.int x1), some (.int x2)] [.int y1, .ref 46] sh G0 := by
    intro  x1 x2 y1 G0 hw
    unfold w_X11_cursor_j20 at hw
    refine aw_iconst (v := 1) C dX11_cursor_20 (by decide) ?_
    refine aw_iconst (v := 1) C dX11_cursor_21 (by decide) ?_
    refine aw_callV C dX11_cursor_22 (t_X11_goes S y1 1 1 _ _ hw) mM_X11_169 bX11_goes (sA_46 S) rfl rfl ⟨Nat.le_of_ble_eq_true rfl, Nat.le_of_ble_eq_true rfl, Nat.zero_le _, Nat.zero_le _⟩ _ rfl (Nat.le_of_ble_eq_true rfl) (fun r22 G3 hq => ?_)
    obtain ⟨v4, rfl, hw⟩ := hq
    refine aw_if_eq C dX11_cursor_25 41 (by decide) hw (fun hc25 hw => ?_) (fun hc25 hw => ?_)
    · refine aw_iconst (v := 0) C dX11_cursor_41 (by decide) ?_
      exact aw_msk [false, false, false] (h42 0 _ hw)
    · refine aw_aloadn C dX11_cursor_28 rfl ?_
      refine aw_getR (r := 60) C dX11_cursor_29 kcX11 (sA_46 S) 17 (by decide) rfl mF_X11_57 ?_
      refine aw_iconst (v := 4) C dX11_cursor_32 (by decide) ?_
      refine aw_iloadn C dX11_cursor_33 rfl ?_
      refine aw_imul C dX11_cursor_34 ?_
      refine aw_iloadn C dX11_cursor_35 rfl ?_
      refine aw_iadd C dX11_cursor_36 ?_
      refine aw_iald C dX11_cursor_37 (sA_60 S) hw.1 ?_
      replace hw := hw.2
      refine aw_goto (tgt := 42) C dX11_cursor_38 (by decide) ?_
      exact aw_msk [false, false, false] (h42 (G3 60 (((4 * x1) + x2) : Int32).toNatClampNeg) _ hw)
  have h19 : ∀ (x1 : Int32) (x2 : Int32) (G0 : Gt), w_X11_cursor_j19 K x1 x2 G0 → aw p l e { frames := 2, cells := 0, slots := 0, locals := 42 } s m args below meth c 3 D tA A (MQ below (QC0 D tA ad A sh (fun r G' => ∃ v, r = some (.int v) ∧ K v G')) args s 0 0 A) 0 0 ad 19 [some (.ref 46), some (.int x1), some (.int x2)] [.ref 46] sh G0 := by
    intro  x1 x2 G0 hw
    unfold w_X11_cursor_j19 at hw
    refine aw_iconst (v := 0) C dX11_cursor_19 (by decide) ?_
    exact aw_msk [true, true, true] (h20 x1 x2 0 _ hw)
  unfold w_X11_cursor at hw
  show aw p l e { frames := 2, cells := 0, slots := 0, locals := 42 } s m args below meth c 3 D tA A (MQ below (QC0 D tA ad A sh (fun r G' => ∃ v, r = some (.int v) ∧ K v G')) args s 0 0 A) 0 0 ad 0 [some (.ref 46), some (.int p0), some (.int p1)] [] sh G0
  refine aw_aloadn C dX11_cursor_0 rfl ?_
  refine aw_iloadn C dX11_cursor_1 rfl ?_
  refine aw_callS C dX11_cursor_2 (t_X11_isBuffer p0 _ _ hw) mM_X11_177 bX11_isBuffer rfl rfl ⟨Nat.le_of_ble_eq_true rfl, Nat.le_of_ble_eq_true rfl, Nat.zero_le _, Nat.zero_le _⟩ _ rfl (Nat.le_of_ble_eq_true rfl) (fun r2 G1 hq => ?_)
  obtain ⟨v2, rfl, hw⟩ := hq
  refine aw_if_eq C dX11_cursor_5 19 (by decide) hw (fun hc5 hw => ?_) (fun hc5 hw => ?_)
  · exact aw_msk [true, true, true] (h19 p0 p1 _ hw)
  · refine aw_iloadn C dX11_cursor_8 rfl ?_
    refine aw_callS C dX11_cursor_9 (t_X11_isFew p1 _ _ hw) mM_X11_144 bX11_isFew rfl rfl ⟨Nat.le_of_ble_eq_true rfl, Nat.le_of_ble_eq_true rfl, Nat.zero_le _, Nat.zero_le _⟩ _ rfl (Nat.le_of_ble_eq_true rfl) (fun r9 G5 hq => ?_)
    obtain ⟨v6, rfl, hw⟩ := hq
    refine aw_if_eq C dX11_cursor_12 19 (by decide) hw (fun hc12 hw => ?_) (fun hc12 hw => ?_)
    · exact aw_msk [true, true, true] (h19 p0 p1 _ hw)
    · refine aw_iconst (v := 1) C dX11_cursor_15 (by decide) ?_
      refine aw_goto (tgt := 20) C dX11_cursor_16 (by decide) ?_
      exact aw_msk [true, true, true] (h20 p0 p1 1 _ hw)
def w_X11_activeCursor_j23 (K : Int32 → Gt → Prop) (y0 : Int32) (G0 : Gt) : Prop :=
  K y0 G0
def w_X11_activeCursor (K : Int32 → Gt → Prop) (p0 : Int32) (G0 : Gt) : Prop :=
  w_X11_isBuffer (fun v2 G1 =>
    w_X11_goes (fun v4 G3 =>
      pif (v4 = 0) (
        w_X11_activeCursor_j23 K 0 G3) (
        vp_in p0 2 ∧
        w_X11_activeCursor_j23 K (G3 61 (p0 : Int32).toNatClampNeg) G3)) v2 1 1 G1) p0 G0
set_option maxHeartbeats 4000000 in
set_option maxRecDepth 100000 in
theorem t_X11_activeCursor {l : Launch} {sh : Sh} (S : shOK sh) (p0 : Int32) (G0 : Gt) (K : Int32 → Gt → Prop) (hw : w_X11_activeCursor K p0 G0) : CT0 l yX11_activeCursor cX11_activeCursor 2 (some .int) 1 23 [.ref 46, .int p0] sh G0 (fun r G' => ∃ v, r = some (.int v) ∧ K v G') := by
  refine CT0_of (by decide) (Nat.le_of_ble_eq_true rfl) rfl ?_
  intro p e s m args below meth c D tA ad A C hr _
  have h23 : ∀ (y0 : Int32) (G0 : Gt), w_X11_activeCursor_j23 K y0 G0 → aw p l e { frames := 1, cells := 0, slots := 0, locals := 23 } s m args below meth c 2 D tA A (MQ below (QC0 D tA ad A sh (fun r G' => ∃ v, r = some (.int v) ∧ K v G')) args s 0 0 A) 0 0 ad 23 [none, none] [.int y0] sh G0 := by
    intro  y0 G0 hw
    unfold w_X11_activeCursor_j23 at hw
    exact aw_ireturn C hr dX11_activeCursor_23 ⟨_, rfl, hw⟩
  unfold w_X11_activeCursor at hw
  show aw p l e { frames := 1, cells := 0, slots := 0, locals := 23 } s m args below meth c 2 D tA A (MQ below (QC0 D tA ad A sh (fun r G' => ∃ v, r = some (.int v) ∧ K v G')) args s 0 0 A) 0 0 ad 0 [some (.ref 46), some (.int p0)] [] sh G0
  refine aw_aloadn C dX11_activeCursor_0 rfl ?_
  refine aw_iloadn C dX11_activeCursor_1 rfl ?_
  refine aw_callS C dX11_activeCursor_2 (t_X11_isBuffer p0 _ _ hw) mM_X11_177 bX11_isBuffer rfl rfl ⟨Nat.le_of_ble_eq_true rfl, Nat.le_of_ble_eq_true rfl, Nat.zero_le _, Nat.zero_le _⟩ _ rfl (Nat.le_of_ble_eq_true rfl) (fun r2 G1 hq => ?_)
  obtain ⟨v2, rfl, hw⟩ := hq
  refine aw_iconst (v := 1) C dX11_activeCursor_5 (by decide) ?_
  refine aw_iconst (v := 1) C dX11_activeCursor_6 (by decide) ?_
  refine aw_callV C dX11_activeCursor_7 (t_X11_goes S v2 1 1 _ _ hw) mM_X11_169 bX11_goes (sA_46 S) rfl rfl ⟨Nat.le_of_ble_eq_true rfl, Nat.le_of_ble_eq_true rfl, Nat.zero_le _, Nat.zero_le _⟩ _ rfl (Nat.le_of_ble_eq_true rfl) (fun r7 G3 hq => ?_)
  obtain ⟨v4, rfl, hw⟩ := hq
  refine aw_if_eq C dX11_activeCursor_10 22 (by decide) hw (fun hc10 hw => ?_) (fun hc10 hw => ?_)
  · refine aw_iconst (v := 0) C dX11_activeCursor_22 (by decide) ?_
    exact aw_msk [false, false] (h23 0 _ hw)
  · refine aw_aloadn C dX11_activeCursor_13 rfl ?_
    refine aw_getR (r := 61) C dX11_activeCursor_14 kcX11 (sA_46 S) 18 (by decide) rfl mF_X11_60 ?_
    refine aw_iloadn C dX11_activeCursor_17 rfl ?_
    refine aw_iald C dX11_activeCursor_18 (sA_61 S) hw.1 ?_
    replace hw := hw.2
    refine aw_goto (tgt := 23) C dX11_activeCursor_19 (by decide) ?_
    exact aw_msk [false, false] (h23 (G3 61 (p0 : Int32).toNatClampNeg) _ hw)
def w_X11_option_j23 (K : Int32 → Gt → Prop) (y0 : Int32) (G0 : Gt) : Prop :=
  K y0 G0
def w_X11_option (K : Int32 → Gt → Prop) (p0 : Int32) (G0 : Gt) : Prop :=
  w_X11_isFew (fun v2 G1 =>
    w_X11_goes (fun v4 G3 =>
      pif (v4 = 0) (
        w_X11_option_j23 K 0 G3) (
        vp_in p0 4 ∧
        w_X11_option_j23 K (G3 56 (p0 : Int32).toNatClampNeg) G3)) v2 1 1 G1) p0 G0
set_option maxHeartbeats 4000000 in
set_option maxRecDepth 100000 in
theorem t_X11_option {l : Launch} {sh : Sh} (S : shOK sh) (p0 : Int32) (G0 : Gt) (K : Int32 → Gt → Prop) (hw : w_X11_option K p0 G0) : CT0 l yX11_option cX11_option 2 (some .int) 2 42 [.ref 46, .int p0] sh G0 (fun r G' => ∃ v, r = some (.int v) ∧ K v G') := by
  refine CT0_of (by decide) (Nat.le_of_ble_eq_true rfl) rfl ?_
  intro p e s m args below meth c D tA ad A C hr _
  have h23 : ∀ (y0 : Int32) (G0 : Gt), w_X11_option_j23 K y0 G0 → aw p l e { frames := 2, cells := 0, slots := 0, locals := 42 } s m args below meth c 2 D tA A (MQ below (QC0 D tA ad A sh (fun r G' => ∃ v, r = some (.int v) ∧ K v G')) args s 0 0 A) 0 0 ad 23 [none, none] [.int y0] sh G0 := by
    intro  y0 G0 hw
    unfold w_X11_option_j23 at hw
    exact aw_ireturn C hr dX11_option_23 ⟨_, rfl, hw⟩
  unfold w_X11_option at hw
  show aw p l e { frames := 2, cells := 0, slots := 0, locals := 42 } s m args below meth c 2 D tA A (MQ below (QC0 D tA ad A sh (fun r G' => ∃ v, r = some (.int v) ∧ K v G')) args s 0 0 A) 0 0 ad 0 [some (.ref 46), some (.int p0)] [] sh G0
  refine aw_aloadn C dX11_option_0 rfl ?_
  refine aw_iloadn C dX11_option_1 rfl ?_
  refine aw_callS C dX11_option_2 (t_X11_isFew p0 _ _ hw) mM_X11_144 bX11_isFew rfl rfl ⟨Nat.le_of_ble_eq_true rfl, Nat.le_of_ble_eq_true rfl, Nat.zero_le _, Nat.zero_le _⟩ _ rfl (Nat.le_of_ble_eq_true rfl) (fun r2 G1 hq => ?_)
  obtain ⟨v2, rfl, hw⟩ := hq
  refine aw_iconst (v := 1) C dX11_option_5 (by decide) ?_
  refine aw_iconst (v := 1) C dX11_option_6 (by decide) ?_
  refine aw_callV C dX11_option_7 (t_X11_goes S v2 1 1 _ _ hw) mM_X11_169 bX11_goes (sA_46 S) rfl rfl ⟨Nat.le_of_ble_eq_true rfl, Nat.le_of_ble_eq_true rfl, Nat.zero_le _, Nat.zero_le _⟩ _ rfl (Nat.le_of_ble_eq_true rfl) (fun r7 G3 hq => ?_)
  obtain ⟨v4, rfl, hw⟩ := hq
  refine aw_if_eq C dX11_option_10 22 (by decide) hw (fun hc10 hw => ?_) (fun hc10 hw => ?_)
  · refine aw_iconst (v := 0) C dX11_option_22 (by decide) ?_
    exact aw_msk [false, false] (h23 0 _ hw)
  · refine aw_aloadn C dX11_option_13 rfl ?_
    refine aw_getR (r := 56) C dX11_option_14 kcX11 (sA_46 S) 10 (by decide) rfl mF_X11_38 ?_
    refine aw_iloadn C dX11_option_17 rfl ?_
    refine aw_iald C dX11_option_18 (sA_56 S) hw.1 ?_
    replace hw := hw.2
    refine aw_goto (tgt := 23) C dX11_option_19 (by decide) ?_
    exact aw_msk [false, false] (h23 (G3 56 (p0 : Int32).toNatClampNeg) _ hw)
def w_X11_register_j23 (K : Int32 → Gt → Prop) (y0 : Int32) (G0 : Gt) : Prop :=
  K y0 G0
def w_X11_register (K : Int32 → Gt → Prop) (p0 : Int32) (G0 : Gt) : Prop :=
  w_X11_isFew (fun v2 G1 =>
    w_X11_goes (fun v4 G3 =>
      pif (v4 = 0) (
        w_X11_register_j23 K 0 G3) (
        vp_in p0 4 ∧
        w_X11_register_j23 K (G3 57 (p0 : Int32).toNatClampNeg) G3)) v2 1 1 G1) p0 G0
set_option maxHeartbeats 4000000 in
set_option maxRecDepth 100000 in
theorem t_X11_register {l : Launch} {sh : Sh} (S : shOK sh) (p0 : Int32) (G0 : Gt) (K : Int32 → Gt → Prop) (hw : w_X11_register K p0 G0) : CT0 l yX11_register cX11_register 2 (some .int) 2 42 [.ref 46, .int p0] sh G0 (fun r G' => ∃ v, r = some (.int v) ∧ K v G') := by
  refine CT0_of (by decide) (Nat.le_of_ble_eq_true rfl) rfl ?_
  intro p e s m args below meth c D tA ad A C hr _
  have h23 : ∀ (y0 : Int32) (G0 : Gt), w_X11_register_j23 K y0 G0 → aw p l e { frames := 2, cells := 0, slots := 0, locals := 42 } s m args below meth c 2 D tA A (MQ below (QC0 D tA ad A sh (fun r G' => ∃ v, r = some (.int v) ∧ K v G')) args s 0 0 A) 0 0 ad 23 [none, none] [.int y0] sh G0 := by
    intro  y0 G0 hw
    unfold w_X11_register_j23 at hw
    exact aw_ireturn C hr dX11_register_23 ⟨_, rfl, hw⟩
  unfold w_X11_register at hw
  show aw p l e { frames := 2, cells := 0, slots := 0, locals := 42 } s m args below meth c 2 D tA A (MQ below (QC0 D tA ad A sh (fun r G' => ∃ v, r = some (.int v) ∧ K v G')) args s 0 0 A) 0 0 ad 0 [some (.ref 46), some (.int p0)] [] sh G0
  refine aw_aloadn C dX11_register_0 rfl ?_
  refine aw_iloadn C dX11_register_1 rfl ?_
  refine aw_callS C dX11_register_2 (t_X11_isFew p0 _ _ hw) mM_X11_144 bX11_isFew rfl rfl ⟨Nat.le_of_ble_eq_true rfl, Nat.le_of_ble_eq_true rfl, Nat.zero_le _, Nat.zero_le _⟩ _ rfl (Nat.le_of_ble_eq_true rfl) (fun r2 G1 hq => ?_)
  obtain ⟨v2, rfl, hw⟩ := hq
  refine aw_iconst (v := 1) C dX11_register_5 (by decide) ?_
  refine aw_iconst (v := 1) C dX11_register_6 (by decide) ?_
  refine aw_callV C dX11_register_7 (t_X11_goes S v2 1 1 _ _ hw) mM_X11_169 bX11_goes (sA_46 S) rfl rfl ⟨Nat.le_of_ble_eq_true rfl, Nat.le_of_ble_eq_true rfl, Nat.zero_le _, Nat.zero_le _⟩ _ rfl (Nat.le_of_ble_eq_true rfl) (fun r7 G3 hq => ?_)
  obtain ⟨v4, rfl, hw⟩ := hq
  refine aw_if_eq C dX11_register_10 22 (by decide) hw (fun hc10 hw => ?_) (fun hc10 hw => ?_)
  · refine aw_iconst (v := 0) C dX11_register_22 (by decide) ?_
    exact aw_msk [false, false] (h23 0 _ hw)
  · refine aw_aloadn C dX11_register_13 rfl ?_
    refine aw_getR (r := 57) C dX11_register_14 kcX11 (sA_46 S) 11 (by decide) rfl mF_X11_41 ?_
    refine aw_iloadn C dX11_register_17 rfl ?_
    refine aw_iald C dX11_register_18 (sA_57 S) hw.1 ?_
    replace hw := hw.2
    refine aw_goto (tgt := 23) C dX11_register_19 (by decide) ?_
    exact aw_msk [false, false] (h23 (G3 57 (p0 : Int32).toNatClampNeg) _ hw)
def w_X11_body_j23 (K : Int32 → Gt → Prop) (y0 : Int32) (G0 : Gt) : Prop :=
  K y0 G0
def w_X11_body (K : Int32 → Gt → Prop) (p0 : Int32) (G0 : Gt) : Prop :=
  w_X11_isSlot (fun v2 G1 =>
    w_X11_goes (fun v4 G3 =>
      pif (v4 = 0) (
        w_X11_body_j23 K 0 G3) (
        vp_in p0 6 ∧
        w_X11_body_j23 K (G3 54 (p0 : Int32).toNatClampNeg) G3)) v2 1 1 G1) p0 G0
set_option maxHeartbeats 4000000 in
set_option maxRecDepth 100000 in
theorem t_X11_body {l : Launch} {sh : Sh} (S : shOK sh) (p0 : Int32) (G0 : Gt) (K : Int32 → Gt → Prop) (hw : w_X11_body K p0 G0) : CT0 l yX11_body cX11_body 2 (some .int) 2 42 [.ref 46, .int p0] sh G0 (fun r G' => ∃ v, r = some (.int v) ∧ K v G') := by
  refine CT0_of (by decide) (Nat.le_of_ble_eq_true rfl) rfl ?_
  intro p e s m args below meth c D tA ad A C hr _
  have h23 : ∀ (y0 : Int32) (G0 : Gt), w_X11_body_j23 K y0 G0 → aw p l e { frames := 2, cells := 0, slots := 0, locals := 42 } s m args below meth c 2 D tA A (MQ below (QC0 D tA ad A sh (fun r G' => ∃ v, r = some (.int v) ∧ K v G')) args s 0 0 A) 0 0 ad 23 [none, none] [.int y0] sh G0 := by
    intro  y0 G0 hw
    unfold w_X11_body_j23 at hw
    exact aw_ireturn C hr dX11_body_23 ⟨_, rfl, hw⟩
  unfold w_X11_body at hw
  show aw p l e { frames := 2, cells := 0, slots := 0, locals := 42 } s m args below meth c 2 D tA A (MQ below (QC0 D tA ad A sh (fun r G' => ∃ v, r = some (.int v) ∧ K v G')) args s 0 0 A) 0 0 ad 0 [some (.ref 46), some (.int p0)] [] sh G0
  refine aw_aloadn C dX11_body_0 rfl ?_
  refine aw_iloadn C dX11_body_1 rfl ?_
  refine aw_callS C dX11_body_2 (t_X11_isSlot p0 _ _ hw) mM_X11_150 bX11_isSlot rfl rfl ⟨Nat.le_of_ble_eq_true rfl, Nat.le_of_ble_eq_true rfl, Nat.zero_le _, Nat.zero_le _⟩ _ rfl (Nat.le_of_ble_eq_true rfl) (fun r2 G1 hq => ?_)
  obtain ⟨v2, rfl, hw⟩ := hq
  refine aw_iconst (v := 1) C dX11_body_5 (by decide) ?_
  refine aw_iconst (v := 1) C dX11_body_6 (by decide) ?_
  refine aw_callV C dX11_body_7 (t_X11_goes S v2 1 1 _ _ hw) mM_X11_169 bX11_goes (sA_46 S) rfl rfl ⟨Nat.le_of_ble_eq_true rfl, Nat.le_of_ble_eq_true rfl, Nat.zero_le _, Nat.zero_le _⟩ _ rfl (Nat.le_of_ble_eq_true rfl) (fun r7 G3 hq => ?_)
  obtain ⟨v4, rfl, hw⟩ := hq
  refine aw_if_eq C dX11_body_10 22 (by decide) hw (fun hc10 hw => ?_) (fun hc10 hw => ?_)
  · refine aw_iconst (v := 0) C dX11_body_22 (by decide) ?_
    exact aw_msk [false, false] (h23 0 _ hw)
  · refine aw_aloadn C dX11_body_13 rfl ?_
    refine aw_getR (r := 54) C dX11_body_14 kcX11 (sA_46 S) 8 (by decide) rfl mF_X11_32 ?_
    refine aw_iloadn C dX11_body_17 rfl ?_
    refine aw_iald C dX11_body_18 (sA_54 S) hw.1 ?_
    replace hw := hw.2
    refine aw_goto (tgt := 23) C dX11_body_19 (by decide) ?_
    exact aw_msk [false, false] (h23 (G3 54 (p0 : Int32).toNatClampNeg) _ hw)
def w_X11_hook (K : Int32 → Gt → Prop) (G0 : Gt) : Prop :=
  w_X11_tells (fun v2 G1 =>
    K v2 G1) (G0 46 12) G0
set_option maxHeartbeats 4000000 in
set_option maxRecDepth 100000 in
theorem t_X11_hook {l : Launch} {sh : Sh} (S : shOK sh) (G0 : Gt) (K : Int32 → Gt → Prop) (hw : w_X11_hook K G0) : CT0 l yX11_hook cX11_hook 1 (some .int) 1 21 [.ref 46] sh G0 (fun r G' => ∃ v, r = some (.int v) ∧ K v G') := by
  refine CT0_of (by decide) (Nat.le_of_ble_eq_true rfl) rfl ?_
  intro p e s m args below meth c D tA ad A C hr _
  unfold w_X11_hook at hw
  show aw p l e { frames := 1, cells := 0, slots := 0, locals := 21 } s m args below meth c 1 D tA A (MQ below (QC0 D tA ad A sh (fun r G' => ∃ v, r = some (.int v) ∧ K v G')) args s 0 0 A) 0 0 ad 0 [some (.ref 46)] [] sh G0
  refine aw_aloadn C dX11_hook_0 rfl ?_
  refine aw_aloadn C dX11_hook_1 rfl ?_
  refine aw_getI C dX11_hook_2 kcX11 (sA_46 S) 12 (by decide) rfl mF_X11_44 ?_
  refine aw_callV C dX11_hook_5 (t_X11_tells S (G0 46 12) _ _ hw) mM_X11_447 bX11_tells (sA_46 S) rfl rfl ⟨Nat.le_of_ble_eq_true rfl, Nat.le_of_ble_eq_true rfl, Nat.zero_le _, Nat.zero_le _⟩ _ rfl (Nat.le_of_ble_eq_true rfl) (fun r5 G1 hq => ?_)
  obtain ⟨v2, rfl, hw⟩ := hq
  exact aw_ireturn C hr dX11_hook_8 ⟨_, rfl, hw⟩
def w_X11_canBeNode_j51 (K : Int32 → Gt → Prop) (y0 : Int32) (G0 : Gt) : Prop :=
  bz y0 ∧ K y0 G0
def w_X11_canBeNode_j46 (K : Int32 → Gt → Prop)  (G0 : Gt) : Prop :=
  w_X11_canBeNode_j51 K 1 G0
def w_X11_canBeNode_j31 (K : Int32 → Gt → Prop) (x2 : Int32) (y0 : Int32) (G0 : Gt) : Prop :=
  pif (y0 = 0) (
    w_X11_canBeNode_j46 K G0) (
    w_X11_isNode (fun v2 G1 =>
      pif (v2 = 0) (
        w_X11_canBeNode_j51 K 0 G1) (
        w_X11_canBeNode_j46 K G1)) x2 G0)
def w_X11_canBeNode_j26 (K : Int32 → Gt → Prop) (x2 : Int32) (G0 : Gt) : Prop :=
  w_X11_canBeNode_j31 K x2 1 G0
def w_X11_canBeNode_j30 (K : Int32 → Gt → Prop) (x2 : Int32) (G0 : Gt) : Prop :=
  w_X11_canBeNode_j31 K x2 0 G0
def w_X11_canBeNode (K : Int32 → Gt → Prop) (p0 : Int32) (p1 : Int32) (p2 : Int32) (G0 : Gt) : Prop :=
  pif (p0 = 1) (
    w_X11_canBeNode_j26 K p1 G0) (
    pif (p0 = 7) (
      w_X11_canBeNode_j26 K p1 G0) (
      pif (p0 = 8) (
        pif (p1 = (-1)) (
          w_X11_canBeNode_j30 K p1 G0) (
          pif (p2 = 0) (
            w_X11_canBeNode_j30 K p1 G0) (
            w_X11_canBeNode_j26 K p1 G0))) (
        w_X11_canBeNode_j30 K p1 G0)))
set_option maxHeartbeats 4000000 in
set_option maxRecDepth 100000 in
theorem t_X11_canBeNode {l : Launch} {sh : Sh} (S : shOK sh) (p0 : Int32) (p1 : Int32) (p2 : Int32) (G0 : Gt) (K : Int32 → Gt → Prop) (hw : w_X11_canBeNode K p0 p1 p2 G0) : CT0 l yX11_canBeNode cX11_canBeNode 5 (some .boolean) 2 43 [.ref 46, .int p0, .int p1, .int p2] sh G0 (fun r G' => ∃ v, r = some (.int v) ∧ K v G') := by
  refine CT0_of (by decide) (Nat.le_of_ble_eq_true rfl) rfl ?_
  intro p e s m args below meth c D tA ad A C hr _
  have h51 : ∀ (y0 : Int32) (G0 : Gt), w_X11_canBeNode_j51 K y0 G0 → aw p l e { frames := 2, cells := 0, slots := 0, locals := 43 } s m args below meth c 5 D tA A (MQ below (QC0 D tA ad A sh (fun r G' => ∃ v, r = some (.int v) ∧ K v G')) args s 0 0 A) 0 0 ad 51 [none, none, none, none, none] [.int y0] sh G0 := by
    intro  y0 G0 hw
    unfold w_X11_canBeNode_j51 at hw
    exact aw_zreturn C hr dX11_canBeNode_51 (bz_n hw.1) ⟨_, rfl, hw.2⟩
  have h46 : ∀ (G0 : Gt), w_X11_canBeNode_j46 K  G0 → aw p l e { frames := 2, cells := 0, slots := 0, locals := 43 } s m args below meth c 5 D tA A (MQ below (QC0 D tA ad A sh (fun r G' => ∃ v, r = some (.int v) ∧ K v G')) args s 0 0 A) 0 0 ad 46 [none, none, none, none, none] [] sh G0 := by
    intro   G0 hw
    unfold w_X11_canBeNode_j46 at hw
    refine aw_iconst (v := 1) C dX11_canBeNode_46 (by decide) ?_
    refine aw_goto (tgt := 51) C dX11_canBeNode_47 (by decide) ?_
    exact aw_msk [false, false, false, false, false] (h51 1 _ hw)
  have h31 : ∀ (x2 : Int32) (y0 : Int32) (G0 : Gt), w_X11_canBeNode_j31 K x2 y0 G0 → aw p l e { frames := 2, cells := 0, slots := 0, locals := 43 } s m args below meth c 5 D tA A (MQ below (QC0 D tA ad A sh (fun r G' => ∃ v, r = some (.int v) ∧ K v G')) args s 0 0 A) 0 0 ad 31 [some (.ref 46), none, some (.int x2), none, none] [.int y0] sh G0 := by
    intro  x2 y0 G0 hw
    unfold w_X11_canBeNode_j31 at hw
    refine aw_istore C dX11_canBeNode_31 (by decide) rfl ?_
    refine aw_iload C dX11_canBeNode_33 rfl ?_
    refine aw_if_eq C dX11_canBeNode_35 46 (by decide) hw (fun hc35 hw => ?_) (fun hc35 hw => ?_)
    · exact aw_msk [false, false, false, false, false] (h46 _ hw)
    · refine aw_aloadn C dX11_canBeNode_38 rfl ?_
      refine aw_iloadn C dX11_canBeNode_39 rfl ?_
      refine aw_callV C dX11_canBeNode_40 (t_X11_isNode S x2 _ _ hw) mM_X11_140 bX11_isNode (sA_46 S) rfl rfl ⟨Nat.le_of_ble_eq_true rfl, Nat.le_of_ble_eq_true rfl, Nat.zero_le _, Nat.zero_le _⟩ _ rfl (Nat.le_of_ble_eq_true rfl) (fun r40 G1 hq => ?_)
      obtain ⟨v2, rfl, hw⟩ := hq
      refine aw_if_eq C dX11_canBeNode_43 50 (by decide) hw (fun hc43 hw => ?_) (fun hc43 hw => ?_)
      · refine aw_iconst (v := 0) C dX11_canBeNode_50 (by decide) ?_
        exact aw_msk [false, false, false, false, false] (h51 0 _ hw)
      · exact aw_msk [false, false, false, false, false] (h46 _ hw)
  have h26 : ∀ (x2 : Int32) (G0 : Gt), w_X11_canBeNode_j26 K x2 G0 → aw p l e { frames := 2, cells := 0, slots := 0, locals := 43 } s m args below meth c 5 D tA A (MQ below (QC0 D tA ad A sh (fun r G' => ∃ v, r = some (.int v) ∧ K v G')) args s 0 0 A) 0 0 ad 26 [some (.ref 46), none, some (.int x2), none, none] [] sh G0 := by
    intro  x2 G0 hw
    unfold w_X11_canBeNode_j26 at hw
    refine aw_iconst (v := 1) C dX11_canBeNode_26 (by decide) ?_
    refine aw_goto (tgt := 31) C dX11_canBeNode_27 (by decide) ?_
    exact aw_msk [true, false, true, false, false] (h31 x2 1 _ hw)
  have h30 : ∀ (x2 : Int32) (G0 : Gt), w_X11_canBeNode_j30 K x2 G0 → aw p l e { frames := 2, cells := 0, slots := 0, locals := 43 } s m args below meth c 5 D tA A (MQ below (QC0 D tA ad A sh (fun r G' => ∃ v, r = some (.int v) ∧ K v G')) args s 0 0 A) 0 0 ad 30 [some (.ref 46), none, some (.int x2), none, none] [] sh G0 := by
    intro  x2 G0 hw
    unfold w_X11_canBeNode_j30 at hw
    refine aw_iconst (v := 0) C dX11_canBeNode_30 (by decide) ?_
    exact aw_msk [true, false, true, false, false] (h31 x2 0 _ hw)
  unfold w_X11_canBeNode at hw
  show aw p l e { frames := 2, cells := 0, slots := 0, locals := 43 } s m args below meth c 5 D tA A (MQ below (QC0 D tA ad A sh (fun r G' => ∃ v, r = some (.int v) ∧ K v G')) args s 0 0 A) 0 0 ad 0 [some (.ref 46), some (.int p0), some (.int p1), some (.int p2), none] [] sh G0
  refine aw_iloadn C dX11_canBeNode_0 rfl ?_
  refine aw_iconst (v := 1) C dX11_canBeNode_1 (by decide) ?_
  refine aw_ic_eq C dX11_canBeNode_2 26 (by decide) hw (fun hc2 hw => ?_) (fun hc2 hw => ?_)
  · exact aw_msk [true, false, true, false, false] (h26 p1 _ hw)
  · refine aw_iloadn C dX11_canBeNode_5 rfl ?_
    refine aw_bipush (v := 7) C dX11_canBeNode_6 (by decide) ?_
    refine aw_ic_eq C dX11_canBeNode_8 26 (by decide) hw (fun hc8 hw => ?_) (fun hc8 hw => ?_)
    · exact aw_msk [true, false, true, false, false] (h26 p1 _ hw)
    · refine aw_iloadn C dX11_canBeNode_11 rfl ?_
      refine aw_bipush (v := 8) C dX11_canBeNode_12 (by decide) ?_
      refine aw_ic_ne C dX11_canBeNode_14 30 (by decide) hw (fun hc14 hw => ?_) (fun hc14 hw => ?_)
      · exact aw_msk [true, false, true, false, false] (h30 p1 _ hw)
      · refine aw_iloadn C dX11_canBeNode_17 rfl ?_
        refine aw_iconst (v := (-1)) C dX11_canBeNode_18 (by decide) ?_
        refine aw_ic_eq C dX11_canBeNode_19 30 (by decide) hw (fun hc19 hw => ?_) (fun hc19 hw => ?_)
        · exact aw_msk [true, false, true, false, false] (h30 p1 _ hw)
        · refine aw_iloadn C dX11_canBeNode_22 rfl ?_
          refine aw_if_eq C dX11_canBeNode_23 30 (by decide) hw (fun hc23 hw => ?_) (fun hc23 hw => ?_)
          · exact aw_msk [true, false, true, false, false] (h30 p1 _ hw)
          · exact aw_msk [true, false, true, false, false] (h26 p1 _ hw)
def w_X11_canBe_j54 (K : Int32 → Gt → Prop) (y0 : Int32) (G0 : Gt) : Prop :=
  bz y0 ∧ K y0 G0
def w_X11_canBe_j98 (K : Int32 → Gt → Prop) (y0 : Int32) (G0 : Gt) : Prop :=
  bz y0 ∧ K y0 G0
def w_X11_canBe_j93 (K : Int32 → Gt → Prop)  (G0 : Gt) : Prop :=
  w_X11_canBe_j98 K 1 G0
def w_X11_canBe_j99 (K : Int32 → Gt → Prop)  (G0 : Gt) : Prop :=
  K 1 G0
def w_X11_canBe (K : Int32 → Gt → Prop) (p0 : Int32) (p1 : Int32) (G0 : Gt) : Prop :=
  pif (p0 = 0) (
    pif (p1 = (-1)) (
      w_X11_canBe_j54 K 1 G0) (
      w_X11_canBe_j54 K 0 G0)) (
  pif (p0 = 2) (
    w_X11_isFew (fun v2 G1 =>
      bz v2 ∧ K v2 G1) p1 G0) (
  pif (p0 = 3) (
    w_X11_isName (fun v4 G3 =>
      bz v4 ∧ K v4 G3) p1 G0) (
  pif (p0 = 4) (
    w_X11_isSlot (fun v6 G5 =>
      bz v6 ∧ K v6 G5) p1 G0) (
  pif (p0 = 5) (
    w_X11_in (fun v8 G7 =>
      bz v8 ∧ K v8 G7) p1 (-9999) 9999 G0) (
  pif (p0 = 6) (
    pif (p1 = (-1)) (
      w_X11_canBe_j93 K G0) (
      w_X11_isSlot (fun v10 G9 =>
        pif (v10 = 0) (
          w_X11_canBe_j98 K 0 G9) (
          w_X11_canBe_j93 K G9)) p1 G0)) (
    w_X11_canBe_j99 K G0))))))
set_option maxHeartbeats 4000000 in
set_option maxRecDepth 100000 in
theorem t_X11_canBe {l : Launch} {sh : Sh}  (p0 : Int32) (p1 : Int32) (G0 : Gt) (K : Int32 → Gt → Prop) (hw : w_X11_canBe K p0 p1 G0) : CT0 l yX11_canBe cX11_canBe 2 (some .boolean) 2 42 [.int p0, .int p1] sh G0 (fun r G' => ∃ v, r = some (.int v) ∧ K v G') := by
  refine CT0_of (by decide) (Nat.le_of_ble_eq_true rfl) rfl ?_
  intro p e s m args below meth c D tA ad A C hr _
  have h54 : ∀ (y0 : Int32) (G0 : Gt), w_X11_canBe_j54 K y0 G0 → aw p l e { frames := 2, cells := 0, slots := 0, locals := 42 } s m args below meth c 2 D tA A (MQ below (QC0 D tA ad A sh (fun r G' => ∃ v, r = some (.int v) ∧ K v G')) args s 0 0 A) 0 0 ad 54 [none, none] [.int y0] sh G0 := by
    intro  y0 G0 hw
    unfold w_X11_canBe_j54 at hw
    exact aw_zreturn C hr dX11_canBe_54 (bz_n hw.1) ⟨_, rfl, hw.2⟩
  have h98 : ∀ (y0 : Int32) (G0 : Gt), w_X11_canBe_j98 K y0 G0 → aw p l e { frames := 2, cells := 0, slots := 0, locals := 42 } s m args below meth c 2 D tA A (MQ below (QC0 D tA ad A sh (fun r G' => ∃ v, r = some (.int v) ∧ K v G')) args s 0 0 A) 0 0 ad 98 [none, none] [.int y0] sh G0 := by
    intro  y0 G0 hw
    unfold w_X11_canBe_j98 at hw
    exact aw_zreturn C hr dX11_canBe_98 (bz_n hw.1) ⟨_, rfl, hw.2⟩
  have h93 : ∀ (G0 : Gt), w_X11_canBe_j93 K  G0 → aw p l e { frames := 2, cells := 0, slots := 0, locals := 42 } s m args below meth c 2 D tA A (MQ below (QC0 D tA ad A sh (fun r G' => ∃ v, r = some (.int v) ∧ K v G')) args s 0 0 A) 0 0 ad 93 [none, none] [] sh G0 := by
    intro   G0 hw
    unfold w_X11_canBe_j93 at hw
    refine aw_iconst (v := 1) C dX11_canBe_93 (by decide) ?_
    refine aw_goto (tgt := 98) C dX11_canBe_94 (by decide) ?_
    exact aw_msk [false, false] (h98 1 _ hw)
  have h99 : ∀ (G0 : Gt), w_X11_canBe_j99 K  G0 → aw p l e { frames := 2, cells := 0, slots := 0, locals := 42 } s m args below meth c 2 D tA A (MQ below (QC0 D tA ad A sh (fun r G' => ∃ v, r = some (.int v) ∧ K v G')) args s 0 0 A) 0 0 ad 99 [none, none] [] sh G0 := by
    intro   G0 hw
    unfold w_X11_canBe_j99 at hw
    refine aw_iconst (v := 1) C dX11_canBe_99 (by decide) ?_
    exact aw_zreturn C hr dX11_canBe_100 rfl ⟨_, rfl, hw⟩
  unfold w_X11_canBe at hw
  show aw p l e { frames := 2, cells := 0, slots := 0, locals := 42 } s m args below meth c 2 D tA A (MQ below (QC0 D tA ad A sh (fun r G' => ∃ v, r = some (.int v) ∧ K v G')) args s 0 0 A) 0 0 ad 0 [some (.int p0), some (.int p1)] [] sh G0
  refine aw_iloadn C dX11_canBe_0 rfl ?_
  refine sw_if hw (fun ha1_0 hw => ?_) (fun ha1_0 hw => ?_)
  · refine aw_tab C 44 dX11_canBe_1 ha1_0 (by decide) (by decide) rfl (by decide) ?_
    refine aw_iloadn C dX11_canBe_44 rfl ?_
    refine aw_iconst (v := (-1)) C dX11_canBe_45 (by decide) ?_
    refine aw_ic_ne C dX11_canBe_46 53 (by decide) hw (fun hc46 hw => ?_) (fun hc46 hw => ?_)
    · refine aw_iconst (v := 0) C dX11_canBe_53 (by decide) ?_
      exact aw_msk [false, false] (h54 0 _ hw)
    · refine aw_iconst (v := 1) C dX11_canBe_49 (by decide) ?_
      refine aw_goto (tgt := 54) C dX11_canBe_50 (by decide) ?_
      exact aw_msk [false, false] (h54 1 _ hw)
  refine sw_if hw (fun ha1_2 hw => ?_) (fun ha1_2 hw => ?_)
  · refine aw_tab C 55 dX11_canBe_1 ha1_2 (by decide) (by decide) rfl (by decide) ?_
    refine aw_iloadn C dX11_canBe_55 rfl ?_
    refine aw_callS C dX11_canBe_56 (t_X11_isFew p1 _ _ hw) mM_X11_144 bX11_isFew rfl rfl ⟨Nat.le_of_ble_eq_true rfl, Nat.le_of_ble_eq_true rfl, Nat.zero_le _, Nat.zero_le _⟩ _ rfl (Nat.le_of_ble_eq_true rfl) (fun r56 G1 hq => ?_)
    obtain ⟨v2, rfl, hw⟩ := hq
    exact aw_zreturn C hr dX11_canBe_59 (bz_n hw.1) ⟨_, rfl, hw.2⟩
  refine sw_if hw (fun ha1_3 hw => ?_) (fun ha1_3 hw => ?_)
  · refine aw_tab C 60 dX11_canBe_1 ha1_3 (by decide) (by decide) rfl (by decide) ?_
    refine aw_iloadn C dX11_canBe_60 rfl ?_
    refine aw_callS C dX11_canBe_61 (t_X11_isName p1 _ _ hw) mM_X11_147 bX11_isName rfl rfl ⟨Nat.le_of_ble_eq_true rfl, Nat.le_of_ble_eq_true rfl, Nat.zero_le _, Nat.zero_le _⟩ _ rfl (Nat.le_of_ble_eq_true rfl) (fun r61 G3 hq => ?_)
    obtain ⟨v4, rfl, hw⟩ := hq
    exact aw_zreturn C hr dX11_canBe_64 (bz_n hw.1) ⟨_, rfl, hw.2⟩
  refine sw_if hw (fun ha1_4 hw => ?_) (fun ha1_4 hw => ?_)
  · refine aw_tab C 65 dX11_canBe_1 ha1_4 (by decide) (by decide) rfl (by decide) ?_
    refine aw_iloadn C dX11_canBe_65 rfl ?_
    refine aw_callS C dX11_canBe_66 (t_X11_isSlot p1 _ _ hw) mM_X11_150 bX11_isSlot rfl rfl ⟨Nat.le_of_ble_eq_true rfl, Nat.le_of_ble_eq_true rfl, Nat.zero_le _, Nat.zero_le _⟩ _ rfl (Nat.le_of_ble_eq_true rfl) (fun r66 G5 hq => ?_)
    obtain ⟨v6, rfl, hw⟩ := hq
    exact aw_zreturn C hr dX11_canBe_69 (bz_n hw.1) ⟨_, rfl, hw.2⟩
  refine sw_if hw (fun ha1_5 hw => ?_) (fun ha1_5 hw => ?_)
  · refine aw_tab C 70 dX11_canBe_1 ha1_5 (by decide) (by decide) rfl (by decide) ?_
    refine aw_iloadn C dX11_canBe_70 rfl ?_
    refine aw_sipush (v := (-9999)) C dX11_canBe_71 (by decide) ?_
    refine aw_sipush (v := 9999) C dX11_canBe_74 (by decide) ?_
    refine aw_callS C dX11_canBe_77 (t_X11_in p1 (-9999) 9999 _ _ hw) mM_X11_136 bX11_in rfl rfl ⟨Nat.le_of_ble_eq_true rfl, Nat.le_of_ble_eq_true rfl, Nat.zero_le _, Nat.zero_le _⟩ _ rfl (Nat.le_of_ble_eq_true rfl) (fun r77 G7 hq => ?_)
    obtain ⟨v8, rfl, hw⟩ := hq
    exact aw_zreturn C hr dX11_canBe_80 (bz_n hw.1) ⟨_, rfl, hw.2⟩
  refine sw_if hw (fun ha1_6 hw => ?_) (fun ha1_6 hw => ?_)
  · refine aw_tab C 81 dX11_canBe_1 ha1_6 (by decide) (by decide) rfl (by decide) ?_
    refine aw_iloadn C dX11_canBe_81 rfl ?_
    refine aw_iconst (v := (-1)) C dX11_canBe_82 (by decide) ?_
    refine aw_ic_eq C dX11_canBe_83 93 (by decide) hw (fun hc83 hw => ?_) (fun hc83 hw => ?_)
    · exact aw_msk [false, false] (h93 _ hw)
    · refine aw_iloadn C dX11_canBe_86 rfl ?_
      refine aw_callS C dX11_canBe_87 (t_X11_isSlot p1 _ _ hw) mM_X11_150 bX11_isSlot rfl rfl ⟨Nat.le_of_ble_eq_true rfl, Nat.le_of_ble_eq_true rfl, Nat.zero_le _, Nat.zero_le _⟩ _ rfl (Nat.le_of_ble_eq_true rfl) (fun r87 G9 hq => ?_)
      obtain ⟨v10, rfl, hw⟩ := hq
      refine aw_if_eq C dX11_canBe_90 97 (by decide) hw (fun hc90 hw => ?_) (fun hc90 hw => ?_)
      · refine aw_iconst (v := 0) C dX11_canBe_97 (by decide) ?_
        exact aw_msk [false, false] (h98 0 _ hw)
      · exact aw_msk [false, false] (h93 _ hw)
  refine aw_tabDef C 99 dX11_canBe_1 6 (by decide) (by decide) (by decide) (fun i hi h => ?_) (by decide) ?_
  · exact match i, hi, h with
      | 0, _, h => absurd (h.trans (by decide)) ha1_0
      | 1, _, h => rfl
      | 2, _, h => absurd (h.trans (by decide)) ha1_2
      | 3, _, h => absurd (h.trans (by decide)) ha1_3
      | 4, _, h => absurd (h.trans (by decide)) ha1_4
      | 5, _, h => absurd (h.trans (by decide)) ha1_5
      | 6, _, h => absurd (h.trans (by decide)) ha1_6
      | i + 7, hi, _ => absurd hi (by omega)
  exact aw_msk [false, false] (h99 _ hw)
def w_X11_write_j41 (K : Int32 → Gt → Prop) (x1 : Int32) (x2 : Int32) (y1 : Int32) (y2 : Int32) (y3 : Int32) (G0 : Gt) : Prop :=
  w_X11_goes (fun v6 G5 =>
    pif (v6 = 0) (
      K 0 G5) (
      vp_in x1 2 ∧
      vp_in ((40 * x1) + (G5 59 (x1 : Int32).toNatClampNeg)) 80 ∧
      pt (gu G5 58 (((40 * x1) + (G5 59 (x1 : Int32).toNatClampNeg)) : Int32).toNatClampNeg x2) fun G7 =>
      vp_in x1 2 ∧
      vp_in x1 2 ∧
      pt (gu G7 59 (x1 : Int32).toNatClampNeg ((G7 59 (x1 : Int32).toNatClampNeg) + 1)) fun G8 =>
      vp_in x1 2 ∧
      K (G8 59 (x1 : Int32).toNatClampNeg) G8)) y1 y2 y3 G0
def w_X11_write_j40 (K : Int32 → Gt → Prop) (x1 : Int32) (x2 : Int32) (y1 : Int32) (y2 : Int32) (G0 : Gt) : Prop :=
  w_X11_write_j41 K x1 x2 y1 y2 0 G0
def w_X11_write (K : Int32 → Gt → Prop) (p0 : Int32) (p1 : Int32) (G0 : Gt) : Prop :=
  w_X11_isBuffer (fun v2 G1 =>
    w_X11_in (fun v4 G3 =>
      pif (v2 = 0) (
        w_X11_write_j40 K p0 p1 v2 v4 G3) (
        vp_in p0 2 ∧
        pif (40 ≤ (G3 59 (p0 : Int32).toNatClampNeg)) (
          w_X11_write_j40 K p0 p1 v2 v4 G3) (
          pif ((G3 46 52) = 0) (
            w_X11_write_j41 K p0 p1 v2 v4 1 G3) (
            w_X11_write_j40 K p0 p1 v2 v4 G3)))) p1 0 25 G1) p0 G0
set_option maxHeartbeats 4000000 in
set_option maxRecDepth 100000 in
theorem t_X11_write {l : Launch} {sh : Sh} (S : shOK sh) (p0 : Int32) (p1 : Int32) (G0 : Gt) (K : Int32 → Gt → Prop) (hw : w_X11_write K p0 p1 G0) : CT0 l yX11_write cX11_write 4 (some .int) 1 23 [.ref 46, .int p0, .int p1] sh G0 (fun r G' => ∃ v, r = some (.int v) ∧ K v G') := by
  refine CT0_of (by decide) (Nat.le_of_ble_eq_true rfl) rfl ?_
  intro p e s m args below meth c D tA ad A C hr _
  have h41 : ∀ (x1 : Int32) (x2 : Int32) (y1 : Int32) (y2 : Int32) (y3 : Int32) (G0 : Gt), w_X11_write_j41 K x1 x2 y1 y2 y3 G0 → aw p l e { frames := 1, cells := 0, slots := 0, locals := 23 } s m args below meth c 4 D tA A (MQ below (QC0 D tA ad A sh (fun r G' => ∃ v, r = some (.int v) ∧ K v G')) args s 0 0 A) 0 0 ad 41 [some (.ref 46), some (.int x1), some (.int x2), none] [.int y3, .int y2, .int y1, .ref 46] sh G0 := by
    intro  x1 x2 y1 y2 y3 G0 hw
    unfold w_X11_write_j41 at hw
    refine aw_callV C dX11_write_41 (t_X11_goes S y1 y2 y3 _ _ hw) mM_X11_169 bX11_goes (sA_46 S) rfl rfl ⟨Nat.le_of_ble_eq_true rfl, Nat.le_of_ble_eq_true rfl, Nat.zero_le _, Nat.zero_le _⟩ _ rfl (Nat.le_of_ble_eq_true rfl) (fun r41 G5 hq => ?_)
    obtain ⟨v6, rfl, hw⟩ := hq
    refine aw_if_ne C dX11_write_44 49 (by decide) hw (fun hc44 hw => ?_) (fun hc44 hw => ?_)
    · refine aw_aloadn C dX11_write_49 rfl ?_
      refine aw_getR (r := 58) C dX11_write_50 kcX11 (sA_46 S) 15 (by decide) rfl mF_X11_51 ?_
      refine aw_bipush (v := 40) C dX11_write_53 (by decide) ?_
      refine aw_iloadn C dX11_write_55 rfl ?_
      refine aw_imul C dX11_write_56 ?_
      refine aw_aloadn C dX11_write_57 rfl ?_
      refine aw_getR (r := 59) C dX11_write_58 kcX11 (sA_46 S) 16 (by decide) rfl mF_X11_54 ?_
      refine aw_iloadn C dX11_write_61 rfl ?_
      refine aw_iald C dX11_write_62 (sA_59 S) hw.1 ?_
      replace hw := hw.2
      refine aw_iadd C dX11_write_63 ?_
      refine aw_iloadn C dX11_write_64 rfl ?_
      refine aw_iast C dX11_write_65 (sA_58 S) hw.1 hw.2 (fun G7 hw => ?_)
      refine aw_aloadn C dX11_write_66 rfl ?_
      refine aw_getR (r := 59) C dX11_write_67 kcX11 (sA_46 S) 16 (by decide) rfl mF_X11_54 ?_
      refine aw_iloadn C dX11_write_70 rfl ?_
      refine aw_dup2 C dX11_write_71 rfl rfl ?_
      refine aw_iald C dX11_write_72 (sA_59 S) hw.1 ?_
      replace hw := hw.2
      refine aw_iconst (v := 1) C dX11_write_73 (by decide) ?_
      refine aw_iadd C dX11_write_74 ?_
      refine aw_iast C dX11_write_75 (sA_59 S) hw.1 hw.2 (fun G8 hw => ?_)
      refine aw_aloadn C dX11_write_76 rfl ?_
      refine aw_getR (r := 59) C dX11_write_77 kcX11 (sA_46 S) 16 (by decide) rfl mF_X11_54 ?_
      refine aw_iloadn C dX11_write_80 rfl ?_
      refine aw_iald C dX11_write_81 (sA_59 S) hw.1 ?_
      replace hw := hw.2
      exact aw_ireturn C hr dX11_write_82 ⟨_, rfl, hw⟩
    · refine aw_iconst (v := 0) C dX11_write_47 (by decide) ?_
      exact aw_ireturn C hr dX11_write_48 ⟨_, rfl, hw⟩
  have h40 : ∀ (x1 : Int32) (x2 : Int32) (y1 : Int32) (y2 : Int32) (G0 : Gt), w_X11_write_j40 K x1 x2 y1 y2 G0 → aw p l e { frames := 1, cells := 0, slots := 0, locals := 23 } s m args below meth c 4 D tA A (MQ below (QC0 D tA ad A sh (fun r G' => ∃ v, r = some (.int v) ∧ K v G')) args s 0 0 A) 0 0 ad 40 [some (.ref 46), some (.int x1), some (.int x2), none] [.int y2, .int y1, .ref 46] sh G0 := by
    intro  x1 x2 y1 y2 G0 hw
    unfold w_X11_write_j40 at hw
    refine aw_iconst (v := 0) C dX11_write_40 (by decide) ?_
    exact aw_msk [true, true, true, false] (h41 x1 x2 y1 y2 0 _ hw)
  unfold w_X11_write at hw
  show aw p l e { frames := 1, cells := 0, slots := 0, locals := 23 } s m args below meth c 4 D tA A (MQ below (QC0 D tA ad A sh (fun r G' => ∃ v, r = some (.int v) ∧ K v G')) args s 0 0 A) 0 0 ad 0 [some (.ref 46), some (.int p0), some (.int p1), none] [] sh G0
  refine aw_iloadn C dX11_write_0 rfl ?_
  refine aw_callS C dX11_write_1 (t_X11_isBuffer p0 _ _ hw) mM_X11_177 bX11_isBuffer rfl rfl ⟨Nat.le_of_ble_eq_true rfl, Nat.le_of_ble_eq_true rfl, Nat.zero_le _, Nat.zero_le _⟩ _ rfl (Nat.le_of_ble_eq_true rfl) (fun r1 G1 hq => ?_)
  obtain ⟨v2, rfl, hw⟩ := hq
  refine aw_istoren C dX11_write_4 (by decide) rfl ?_
  refine aw_aloadn C dX11_write_5 rfl ?_
  refine aw_iloadn C dX11_write_6 rfl ?_
  refine aw_iloadn C dX11_write_7 rfl ?_
  refine aw_iconst (v := 0) C dX11_write_8 (by decide) ?_
  refine aw_bipush (v := 25) C dX11_write_9 (by decide) ?_
  refine aw_callS C dX11_write_11 (t_X11_in p1 0 25 _ _ hw) mM_X11_136 bX11_in rfl rfl ⟨Nat.le_of_ble_eq_true rfl, Nat.le_of_ble_eq_true rfl, Nat.zero_le _, Nat.zero_le _⟩ _ rfl (Nat.le_of_ble_eq_true rfl) (fun r11 G3 hq => ?_)
  obtain ⟨v4, rfl, hw⟩ := hq
  refine aw_iloadn C dX11_write_14 rfl ?_
  refine aw_if_eq C dX11_write_15 40 (by decide) hw (fun hc15 hw => ?_) (fun hc15 hw => ?_)
  · exact aw_msk [true, true, true, false] (h40 p0 p1 v2 v4 _ hw)
  · refine aw_aloadn C dX11_write_18 rfl ?_
    refine aw_getR (r := 59) C dX11_write_19 kcX11 (sA_46 S) 16 (by decide) rfl mF_X11_54 ?_
    refine aw_iloadn C dX11_write_22 rfl ?_
    refine aw_iald C dX11_write_23 (sA_59 S) hw.1 ?_
    replace hw := hw.2
    refine aw_bipush (v := 40) C dX11_write_24 (by decide) ?_
    refine aw_ic_ge C dX11_write_26 40 (by decide) hw (fun hc26 hw => ?_) (fun hc26 hw => ?_)
    · exact aw_msk [true, true, true, false] (h40 p0 p1 v2 v4 _ hw)
    · refine aw_aloadn C dX11_write_29 rfl ?_
      refine aw_getI C dX11_write_30 kcX11 (sA_46 S) 52 (by decide) rfl mF_X11_173 ?_
      refine aw_if_ne C dX11_write_33 40 (by decide) hw (fun hc33 hw => ?_) (fun hc33 hw => ?_)
      · exact aw_msk [true, true, true, false] (h40 p0 p1 v2 v4 _ hw)
      · refine aw_iconst (v := 1) C dX11_write_36 (by decide) ?_
        refine aw_goto (tgt := 41) C dX11_write_37 (by decide) ?_
        exact aw_msk [true, true, true, false] (h41 p0 p1 v2 v4 1 _ hw)
def w_X11_keeps_h2 (K : Gt → Prop) : Nat → Int32 → Gt → Prop
  | 0, _, _ => False
  | n + 1, x1, G0 =>
    pif (104 ≤ x1) (
      K G0) (
      w_X11_keptAt (fun v2 G1 =>
        vp_in x1 112 ∧
        pt (gu G1 62 (x1 : Int32).toNatClampNeg v2) fun G3 =>
        (w_X11_keeps_h2 K n) (x1 + 1) G3) x1 G0)
def w_X11_keeps (K : Gt → Prop) (G0 : Gt) : Prop :=
  ∃ i, w_X11_keeps_h2 K i 0 G0
set_option maxHeartbeats 4000000 in
set_option maxRecDepth 100000 in
theorem t_X11_keeps {l : Launch} {sh : Sh} (S : shOK sh) (G0 : Gt) (K : Gt → Prop) (hw : w_X11_keeps K G0) : CT0 l yX11_keeps cX11_keeps 2 none 1 21 [.ref 46] sh G0 (fun r G' => r = none ∧ K G') := by
  refine CT0_of (by decide) (Nat.le_of_ble_eq_true rfl) rfl ?_
  intro p e s m args below meth c D tA ad A C hr _
  have h2 : ∀ (n : Nat) (x1 : Int32) (G0 : Gt), w_X11_keeps_h2 K n x1 G0 → aw p l e { frames := 1, cells := 0, slots := 0, locals := 21 } s m args below meth c 2 D tA A (MQ below (QC0 D tA ad A sh (fun r G' => r = none ∧ K G')) args s 0 0 A) 0 0 ad 2 [some (.ref 46), some (.int x1)] [] sh G0 := by
    intro  n
    induction n with
    | zero => intro x1 G0 hw; exact hw.elim
    | succ n ih =>
      intro x1 G0 hw
      rw [w_X11_keeps_h2] at hw
      refine aw_iloadn C dX11_keeps_2 rfl ?_
      refine aw_bipush (v := 104) C dX11_keeps_3 (by decide) ?_
      refine aw_ic_ge C dX11_keeps_5 25 (by decide) hw (fun hc5 hw => ?_) (fun hc5 hw => ?_)
      · exact aw_return C hr dX11_keeps_25 ⟨rfl, hw⟩
      · refine aw_aloadn C dX11_keeps_8 rfl ?_
        refine aw_getR (r := 62) C dX11_keeps_9 kcX11 (sA_46 S) 19 (by decide) rfl mF_X11_63 ?_
        refine aw_iloadn C dX11_keeps_12 rfl ?_
        refine aw_aloadn C dX11_keeps_13 rfl ?_
        refine aw_iloadn C dX11_keeps_14 rfl ?_
        refine aw_callV C dX11_keeps_15 (t_X11_keptAt S x1 _ _ hw) mM_X11_183 bX11_keptAt (sA_46 S) rfl rfl ⟨Nat.le_of_ble_eq_true rfl, Nat.le_of_ble_eq_true rfl, Nat.zero_le _, Nat.zero_le _⟩ _ rfl (Nat.le_of_ble_eq_true rfl) (fun r15 G1 hq => ?_)
        obtain ⟨v2, rfl, hw⟩ := hq
        refine aw_iast C dX11_keeps_18 (sA_62 S) hw.1 hw.2 (fun G3 hw => ?_)
        refine aw_iinc (w := (x1 + 1)) C dX11_keeps_19 rfl rfl (by decide) rfl ?_
        refine aw_goto (tgt := 2) C dX11_keeps_22 (by decide) ?_
        exact aw_msk [true, true] (ih (x1 + 1) _ hw)
  unfold w_X11_keeps at hw
  show aw p l e { frames := 1, cells := 0, slots := 0, locals := 21 } s m args below meth c 2 D tA A (MQ below (QC0 D tA ad A sh (fun r G' => r = none ∧ K G')) args s 0 0 A) 0 0 ad 0 [some (.ref 46), none] [] sh G0
  refine aw_iconst (v := 0) C dX11_keeps_0 (by decide) ?_
  refine aw_istoren C dX11_keeps_1 (by decide) rfl ?_
  obtain ⟨n0, hw⟩ := hw
  exact aw_msk [true, true] (h2 n0 0 _ hw)
def w_X11_begins (K : Int32 → Gt → Prop) (p0 : Int32) (p1 : Int32) (p2 : Int32) (p3 : Int32) (G0 : Gt) : Prop :=
  w_X11_lays (fun v2 G1 =>
    w_X11_asks (fun G3 =>
      K v2 G3) p0 v2 p3 G1) (-1) p2 p3 p1 G0
set_option maxHeartbeats 4000000 in
set_option maxRecDepth 100000 in
theorem t_X11_begins {l : Launch} {sh : Sh} (S : shOK sh) (p0 : Int32) (p1 : Int32) (p2 : Int32) (p3 : Int32) (G0 : Gt) (K : Int32 → Gt → Prop) (hw : w_X11_begins K p0 p1 p2 p3 G0) : CT0 l yX11_begins cX11_begins 6 (some .int) 1 24 [.ref 46, .int p0, .int p1, .int p2, .int p3] sh G0 (fun r G' => ∃ v, r = some (.int v) ∧ K v G') := by
  refine CT0_of (by decide) (Nat.le_of_ble_eq_true rfl) rfl ?_
  intro p e s m args below meth c D tA ad A C hr _
  unfold w_X11_begins at hw
  show aw p l e { frames := 1, cells := 0, slots := 0, locals := 24 } s m args below meth c 6 D tA A (MQ below (QC0 D tA ad A sh (fun r G' => ∃ v, r = some (.int v) ∧ K v G')) args s 0 0 A) 0 0 ad 0 [some (.ref 46), some (.int p0), some (.int p1), some (.int p2), some (.int p3), none] [] sh G0
  refine aw_aloadn C dX11_begins_0 rfl ?_
  refine aw_iconst (v := (-1)) C dX11_begins_1 (by decide) ?_
  refine aw_iloadn C dX11_begins_2 rfl ?_
  refine aw_iload C dX11_begins_3 rfl ?_
  refine aw_iloadn C dX11_begins_5 rfl ?_
  refine aw_callV C dX11_begins_6 (t_X11_lays S (-1) p2 p3 p1 _ _ hw) mM_X11_227 bX11_lays (sA_46 S) rfl rfl ⟨Nat.le_of_ble_eq_true rfl, Nat.le_of_ble_eq_true rfl, Nat.zero_le _, Nat.zero_le _⟩ _ rfl (Nat.le_of_ble_eq_true rfl) (fun r6 G1 hq => ?_)
  obtain ⟨v2, rfl, hw⟩ := hq
  refine aw_istore C dX11_begins_9 (by decide) rfl ?_
  refine aw_aloadn C dX11_begins_11 rfl ?_
  refine aw_iloadn C dX11_begins_12 rfl ?_
  refine aw_iload C dX11_begins_13 rfl ?_
  refine aw_iload C dX11_begins_15 rfl ?_
  refine aw_callV C dX11_begins_17 (t_X11_asks S p0 v2 p3 _ _ hw) mM_X11_205 bX11_asks (sA_46 S) rfl rfl ⟨Nat.le_of_ble_eq_true rfl, Nat.le_of_ble_eq_true rfl, Nat.zero_le _, Nat.zero_le _⟩ _ rfl (Nat.le_of_ble_eq_true rfl) (fun r17 G3 hq => ?_)
  obtain ⟨rfl, hw⟩ := hq
  refine aw_iload C dX11_begins_20 rfl ?_
  exact aw_ireturn C hr dX11_begins_22 ⟨_, rfl, hw⟩
