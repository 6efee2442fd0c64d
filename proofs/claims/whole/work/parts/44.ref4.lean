def w_X11_step_j94 (K : Int32 → Gt → Prop) (x2 : Int32) (G0 : Gt) : Prop :=
  K x2 G0
def w_X11_step_j74 (K : Int32 → Gt → Prop) (rec26 : Int32 → Int32 → Int32 → Gt → Prop) (x1 : Int32) (x2 : Int32) (y0 : Int32) (G0 : Gt) : Prop :=
  rec26 x1 x2 y0 G0
def w_X11_step_j73 (K : Int32 → Gt → Prop) (rec26 : Int32 → Int32 → Int32 → Gt → Prop) (x1 : Int32) (x2 : Int32) (G0 : Gt) : Prop :=
  w_X11_step_j74 K rec26 x1 x2 0 G0
def w_X11_step_j43 (K : Int32 → Gt → Prop) (rec26 : Int32 → Int32 → Int32 → Gt → Prop) (x1 : Int32) (y0 : Int32) (y1 : Int32) (G0 : Gt) : Prop :=
  pif ((G0 46 53) = 0) (
    pif (x1 ≤ (y0 + y1)) (
      w_X11_step_j73 K rec26 x1 (y0 + y1) G0) (
      vp_in (G0 46 54) 120 ∧
      pif ((G0 52 ((G0 46 54) : Int32).toNatClampNeg) = 0) (
        w_X11_step_j74 K rec26 x1 (y0 + y1) 1 G0) (
        w_X11_step_j73 K rec26 x1 (y0 + y1) G0))) (
    w_X11_step_j73 K rec26 x1 (y0 + y1) G0)
def w_X11_step_h26 (K : Int32 → Gt → Prop) : Nat → Int32 → Int32 → Int32 → Gt → Prop
  | 0, _, _, _, _ => False
  | n + 1, x1, x2, x3, G0 =>
    pif (x3 = 0) (
      pif ((G0 46 53) = 0) (
        w_X11_step_j94 K x2 G0) (
        pt (gu G0 46 52 0) fun G5 =>
        w_X11_lasts (fun G6 =>
          w_X11_step_j94 K x2 G6) G5)) (
      w_X11_beginsNext (fun v8 G7 =>
        pif (v8 = 0) (
          w_X11_step_j43 K (fun z0 z1 z2 z3 => w_X11_step_h26 K n z0 z1 z2 z3) x1 x2 0 G7) (
          w_X11_step_j43 K (fun z0 z1 z2 z3 => w_X11_step_h26 K n z0 z1 z2 z3) x1 x2 1 G7)) G0)
def w_X11_step (K : Int32 → Gt → Prop) (p0 : Int32) (G0 : Gt) : Prop :=
  w_X11_in (fun v2 G1 =>
    w_X11_goes (fun v4 G3 =>
      pif (v4 = 0) (
        K 0 G3) (
        ∃ i, w_X11_step_h26 K i p0 0 1 G3)) v2 (G1 46 52) 1 G1) p0 1 600 G0
set_option maxHeartbeats 4000000 in
set_option maxRecDepth 100000 in
theorem t_X11_step {l : Launch} {sh : Sh} (S : shOK sh) (p0 : Int32) (G0 : Gt) (K : Int32 → Gt → Prop) (hw : w_X11_step K p0 G0) : CT0 l yX11_step cX11_step 4 (some .int) 8 189 [.ref 46, .int p0] sh G0 (fun r G' => ∃ v, r = some (.int v) ∧ K v G') := by
  refine CT0_of (by decide) (Nat.le_of_ble_eq_true rfl) rfl ?_
  intro p e s m args below meth c D tA ad A C hr _
  have h94 : ∀ (x2 : Int32) (G0 : Gt), w_X11_step_j94 K x2 G0 → aw p l e { frames := 8, cells := 0, slots := 0, locals := 189 } s m args below meth c 4 D tA A (MQ below (QC0 D tA ad A sh (fun r G' => ∃ v, r = some (.int v) ∧ K v G')) args s 0 0 A) 0 0 ad 94 [none, none, some (.int x2), none] [] sh G0 := by
    intro  x2 G0 hw
    unfold w_X11_step_j94 at hw
    refine aw_iloadn C dX11_step_94 rfl ?_
    exact aw_ireturn C hr dX11_step_95 ⟨_, rfl, hw⟩
  have h74 : ∀ (rec26 : Int32 → Int32 → Int32 → Gt → Prop) (hrec26 : ∀ (x1 : Int32) (x2 : Int32) (x3 : Int32) (G0 : Gt), rec26 x1 x2 x3 G0 → aw p l e { frames := 8, cells := 0, slots := 0, locals := 189 } s m args below meth c 4 D tA A (MQ below (QC0 D tA ad A sh (fun r G' => ∃ v, r = some (.int v) ∧ K v G')) args s 0 0 A) 0 0 ad 26 [some (.ref 46), some (.int x1), some (.int x2), some (.int x3)] [] sh G0) (x1 : Int32) (x2 : Int32) (y0 : Int32) (G0 : Gt), w_X11_step_j74 K rec26 x1 x2 y0 G0 → aw p l e { frames := 8, cells := 0, slots := 0, locals := 189 } s m args below meth c 4 D tA A (MQ below (QC0 D tA ad A sh (fun r G' => ∃ v, r = some (.int v) ∧ K v G')) args s 0 0 A) 0 0 ad 74 [some (.ref 46), some (.int x1), some (.int x2), none] [.int y0] sh G0 := by
    intro rec26 hrec26 x1 x2 y0 G0 hw
    unfold w_X11_step_j74 at hw
    refine aw_istoren C dX11_step_74 (by decide) rfl ?_
    refine aw_goto (tgt := 26) C dX11_step_75 (by decide) ?_
    exact aw_msk [true, true, true, true] (hrec26 x1 x2 y0 _ hw)
  have h73 : ∀ (rec26 : Int32 → Int32 → Int32 → Gt → Prop) (hrec26 : ∀ (x1 : Int32) (x2 : Int32) (x3 : Int32) (G0 : Gt), rec26 x1 x2 x3 G0 → aw p l e { frames := 8, cells := 0, slots := 0, locals := 189 } s m args below meth c 4 D tA A (MQ below (QC0 D tA ad A sh (fun r G' => ∃ v, r = some (.int v) ∧ K v G')) args s 0 0 A) 0 0 ad 26 [some (.ref 46), some (.int x1), some (.int x2), some (.int x3)] [] sh G0) (x1 : Int32) (x2 : Int32) (G0 : Gt), w_X11_step_j73 K rec26 x1 x2 G0 → aw p l e { frames := 8, cells := 0, slots := 0, locals := 189 } s m args below meth c 4 D tA A (MQ below (QC0 D tA ad A sh (fun r G' => ∃ v, r = some (.int v) ∧ K v G')) args s 0 0 A) 0 0 ad 73 [some (.ref 46), some (.int x1), some (.int x2), none] [] sh G0 := by
    intro rec26 hrec26 x1 x2 G0 hw
    unfold w_X11_step_j73 at hw
    refine aw_iconst (v := 0) C dX11_step_73 (by decide) ?_
    exact aw_msk [true, true, true, false] (h74 _ hrec26 x1 x2 0 _ hw)
  have h43 : ∀ (rec26 : Int32 → Int32 → Int32 → Gt → Prop) (hrec26 : ∀ (x1 : Int32) (x2 : Int32) (x3 : Int32) (G0 : Gt), rec26 x1 x2 x3 G0 → aw p l e { frames := 8, cells := 0, slots := 0, locals := 189 } s m args below meth c 4 D tA A (MQ below (QC0 D tA ad A sh (fun r G' => ∃ v, r = some (.int v) ∧ K v G')) args s 0 0 A) 0 0 ad 26 [some (.ref 46), some (.int x1), some (.int x2), some (.int x3)] [] sh G0) (x1 : Int32) (y0 : Int32) (y1 : Int32) (G0 : Gt), w_X11_step_j43 K rec26 x1 y0 y1 G0 → aw p l e { frames := 8, cells := 0, slots := 0, locals := 189 } s m args below meth c 4 D tA A (MQ below (QC0 D tA ad A sh (fun r G' => ∃ v, r = some (.int v) ∧ K v G')) args s 0 0 A) 0 0 ad 43 [some (.ref 46), some (.int x1), none, none] [.int y1, .int y0] sh G0 := by
    intro rec26 hrec26 x1 y0 y1 G0 hw
    unfold w_X11_step_j43 at hw
    refine aw_iadd C dX11_step_43 ?_
    refine aw_istoren C dX11_step_44 (by decide) rfl ?_
    refine aw_aloadn C dX11_step_45 rfl ?_
    refine aw_getI C dX11_step_46 kcX11 (sA_46 S) 53 (by decide) rfl mF_X11_389 ?_
    refine aw_if_ne C dX11_step_49 73 (by decide) hw (fun hc49 hw => ?_) (fun hc49 hw => ?_)
    · exact aw_msk [true, true, true, false] (h73 _ hrec26 x1 (y0 + y1) _ hw)
    · refine aw_iloadn C dX11_step_52 rfl ?_
      refine aw_iloadn C dX11_step_53 rfl ?_
      refine aw_ic_ge C dX11_step_54 73 (by decide) hw (fun hc54 hw => ?_) (fun hc54 hw => ?_)
      · exact aw_msk [true, true, true, false] (h73 _ hrec26 x1 (y0 + y1) _ hw)
      · refine aw_aloadn C dX11_step_57 rfl ?_
        refine aw_getR (r := 52) C dX11_step_58 kcX11 (sA_46 S) 6 (by decide) rfl mF_X11_25 ?_
        refine aw_aloadn C dX11_step_61 rfl ?_
        refine aw_getI C dX11_step_62 kcX11 (sA_46 S) 54 (by decide) rfl mF_X11_193 ?_
        refine aw_zald C dX11_step_65 (sA_52 S) hw.1 ?_
        replace hw := hw.2
        refine aw_if_ne C dX11_step_66 73 (by decide) hw (fun hc66 hw => ?_) (fun hc66 hw => ?_)
        · exact aw_msk [true, true, true, false] (h73 _ hrec26 x1 (y0 + y1) _ hw)
        · refine aw_iconst (v := 1) C dX11_step_69 (by decide) ?_
          refine aw_goto (tgt := 74) C dX11_step_70 (by decide) ?_
          exact aw_msk [true, true, true, false] (h74 _ hrec26 x1 (y0 + y1) 1 _ hw)
  have h26 : ∀ (n : Nat) (x1 : Int32) (x2 : Int32) (x3 : Int32) (G0 : Gt), w_X11_step_h26 K n x1 x2 x3 G0 → aw p l e { frames := 8, cells := 0, slots := 0, locals := 189 } s m args below meth c 4 D tA A (MQ below (QC0 D tA ad A sh (fun r G' => ∃ v, r = some (.int v) ∧ K v G')) args s 0 0 A) 0 0 ad 26 [some (.ref 46), some (.int x1), some (.int x2), some (.int x3)] [] sh G0 := by
    intro  n
    induction n with
    | zero => intro x1 x2 x3 G0 hw; exact hw.elim
    | succ n ih =>
      intro x1 x2 x3 G0 hw
      rw [w_X11_step_h26] at hw
      refine aw_iloadn C dX11_step_26 rfl ?_
      refine aw_if_eq C dX11_step_27 78 (by decide) hw (fun hc27 hw => ?_) (fun hc27 hw => ?_)
      · refine aw_aloadn C dX11_step_78 rfl ?_
        refine aw_getI C dX11_step_79 kcX11 (sA_46 S) 53 (by decide) rfl mF_X11_389 ?_
        refine aw_if_eq C dX11_step_82 94 (by decide) hw (fun hc82 hw => ?_) (fun hc82 hw => ?_)
        · exact aw_msk [false, false, true, false] (h94 x2 _ hw)
        · refine aw_aloadn C dX11_step_85 rfl ?_
          refine aw_iconst (v := 0) C dX11_step_86 (by decide) ?_
          refine aw_putI C dX11_step_87 kcX11 (sA_46 S) 52 (by decide) rfl mF_X11_173 rfl rfl rfl hw (fun G5 hw => ?_)
          refine aw_aloadn C dX11_step_90 rfl ?_
          refine aw_callV C dX11_step_91 (t_X11_lasts S _ _ hw) mM_X11_441 bX11_lasts (sA_46 S) rfl rfl ⟨Nat.le_of_ble_eq_true rfl, Nat.le_of_ble_eq_true rfl, Nat.zero_le _, Nat.zero_le _⟩ _ rfl (Nat.le_of_ble_eq_true rfl) (fun r91 G6 hq => ?_)
          obtain ⟨rfl, hw⟩ := hq
          exact aw_msk [false, false, true, false] (h94 x2 _ hw)
      · refine aw_iloadn C dX11_step_30 rfl ?_
        refine aw_aloadn C dX11_step_31 rfl ?_
        refine aw_callV C dX11_step_32 (t_X11_beginsNext S _ _ hw) mM_X11_425 bX11_beginsNext (sA_46 S) rfl rfl ⟨Nat.le_of_ble_eq_true rfl, Nat.le_of_ble_eq_true rfl, Nat.zero_le _, Nat.zero_le _⟩ _ rfl (Nat.le_of_ble_eq_true rfl) (fun r32 G7 hq => ?_)
        obtain ⟨v8, rfl, hw⟩ := hq
        refine aw_if_eq C dX11_step_35 42 (by decide) hw (fun hc35 hw => ?_) (fun hc35 hw => ?_)
        · refine aw_iconst (v := 0) C dX11_step_42 (by decide) ?_
          exact aw_msk [true, true, false, false] (h43 _ ih x1 x2 0 _ hw)
        · refine aw_iconst (v := 1) C dX11_step_38 (by decide) ?_
          refine aw_goto (tgt := 43) C dX11_step_39 (by decide) ?_
          exact aw_msk [true, true, false, false] (h43 _ ih x1 x2 1 _ hw)
  unfold w_X11_step at hw
  show aw p l e { frames := 8, cells := 0, slots := 0, locals := 189 } s m args below meth c 4 D tA A (MQ below (QC0 D tA ad A sh (fun r G' => ∃ v, r = some (.int v) ∧ K v G')) args s 0 0 A) 0 0 ad 0 [some (.ref 46), some (.int p0), none, none] [] sh G0
  refine aw_aloadn C dX11_step_0 rfl ?_
  refine aw_iloadn C dX11_step_1 rfl ?_
  refine aw_iconst (v := 1) C dX11_step_2 (by decide) ?_
  refine aw_sipush (v := 600) C dX11_step_3 (by decide) ?_
  refine aw_callS C dX11_step_6 (t_X11_in p0 1 600 _ _ hw) mM_X11_136 bX11_in rfl rfl ⟨Nat.le_of_ble_eq_true rfl, Nat.le_of_ble_eq_true rfl, Nat.zero_le _, Nat.zero_le _⟩ _ rfl (Nat.le_of_ble_eq_true rfl) (fun r6 G1 hq => ?_)
  obtain ⟨v2, rfl, hw⟩ := hq
  refine aw_aloadn C dX11_step_9 rfl ?_
  refine aw_getI C dX11_step_10 kcX11 (sA_46 S) 52 (by decide) rfl mF_X11_173 ?_
  refine aw_iconst (v := 1) C dX11_step_13 (by decide) ?_
  refine aw_callV C dX11_step_14 (t_X11_goes S v2 (G1 46 52) 1 _ _ hw) mM_X11_169 bX11_goes (sA_46 S) rfl rfl ⟨Nat.le_of_ble_eq_true rfl, Nat.le_of_ble_eq_true rfl, Nat.zero_le _, Nat.zero_le _⟩ _ rfl (Nat.le_of_ble_eq_true rfl) (fun r14 G3 hq => ?_)
  obtain ⟨v4, rfl, hw⟩ := hq
  refine aw_if_ne C dX11_step_17 22 (by decide) hw (fun hc17 hw => ?_) (fun hc17 hw => ?_)
  · refine aw_iconst (v := 0) C dX11_step_22 (by decide) ?_
    refine aw_istoren C dX11_step_23 (by decide) rfl ?_
    refine aw_iconst (v := 1) C dX11_step_24 (by decide) ?_
    refine aw_istoren C dX11_step_25 (by decide) rfl ?_
    obtain ⟨n0, hw⟩ := hw
    exact aw_msk [true, true, true, true] (h26 n0 p0 0 1 _ hw)
  · refine aw_iconst (v := 0) C dX11_step_20 (by decide) ?_
    exact aw_ireturn C hr dX11_step_21 ⟨_, rfl, hw⟩
def w_X11_runsAll_h5 (K : Gt → Prop) : Nat → Gt → Prop
  | 0, _ => False
  | n + 1, G0 =>
    pif ((G0 46 53) = 0) (
      w_X11_beginsNext (fun v3 G2 =>
        (w_X11_runsAll_h5 K n) G2) G0) (
      K G0)
def w_X11_runsAll (K : Gt → Prop) (p0 : Int32) (G0 : Gt) : Prop :=
  w_X11_prepares (fun G1 =>
    ∃ i, w_X11_runsAll_h5 K i G1) p0 G0
set_option maxHeartbeats 4000000 in
set_option maxRecDepth 100000 in
theorem t_X11_runsAll {l : Launch} {sh : Sh} (S : shOK sh) (p0 : Int32) (G0 : Gt) (K : Gt → Prop) (hw : w_X11_runsAll K p0 G0) : CT0 l yX11_runsAll cX11_runsAll 3 none 8 189 [.ref 46, .int p0] sh G0 (fun r G' => r = none ∧ K G') := by
  refine CT0_of (by decide) (Nat.le_of_ble_eq_true rfl) rfl ?_
  intro p e s m args below meth c D tA ad A C hr _
  have h5 : ∀ (n : Nat) (G0 : Gt), w_X11_runsAll_h5 K n  G0 → aw p l e { frames := 8, cells := 0, slots := 0, locals := 189 } s m args below meth c 3 D tA A (MQ below (QC0 D tA ad A sh (fun r G' => r = none ∧ K G')) args s 0 0 A) 0 0 ad 5 [some (.ref 46), none, none] [] sh G0 := by
    intro  n
    induction n with
    | zero => intro  G0 hw; exact hw.elim
    | succ n ih =>
      intro  G0 hw
      rw [w_X11_runsAll_h5] at hw
      refine aw_aloadn C dX11_runsAll_5 rfl ?_
      refine aw_getI C dX11_runsAll_6 kcX11 (sA_46 S) 53 (by decide) rfl mF_X11_389 ?_
      refine aw_if_ne C dX11_runsAll_9 20 (by decide) hw (fun hc9 hw => ?_) (fun hc9 hw => ?_)
      · exact aw_return C hr dX11_runsAll_20 ⟨rfl, hw⟩
      · refine aw_aloadn C dX11_runsAll_12 rfl ?_
        refine aw_callV C dX11_runsAll_13 (t_X11_beginsNext S _ _ hw) mM_X11_425 bX11_beginsNext (sA_46 S) rfl rfl ⟨Nat.le_of_ble_eq_true rfl, Nat.le_of_ble_eq_true rfl, Nat.zero_le _, Nat.zero_le _⟩ _ rfl (Nat.le_of_ble_eq_true rfl) (fun r13 G2 hq => ?_)
        obtain ⟨v3, rfl, hw⟩ := hq
        refine aw_istoren C dX11_runsAll_16 (by decide) rfl ?_
        refine aw_goto (tgt := 5) C dX11_runsAll_17 (by decide) ?_
        exact aw_msk [true, false, false] (ih _ hw)
  unfold w_X11_runsAll at hw
  show aw p l e { frames := 8, cells := 0, slots := 0, locals := 189 } s m args below meth c 3 D tA A (MQ below (QC0 D tA ad A sh (fun r G' => r = none ∧ K G')) args s 0 0 A) 0 0 ad 0 [some (.ref 46), some (.int p0), none] [] sh G0
  refine aw_aloadn C dX11_runsAll_0 rfl ?_
  refine aw_iloadn C dX11_runsAll_1 rfl ?_
  refine aw_callV C dX11_runsAll_2 (t_X11_prepares S p0 _ _ hw) mM_X11_422 bX11_prepares (sA_46 S) rfl rfl ⟨Nat.le_of_ble_eq_true rfl, Nat.le_of_ble_eq_true rfl, Nat.zero_le _, Nat.zero_le _⟩ _ rfl (Nat.le_of_ble_eq_true rfl) (fun r2 G1 hq => ?_)
  obtain ⟨rfl, hw⟩ := hq
  obtain ⟨n0, hw⟩ := hw
  exact aw_msk [true, false, false] (h5 n0 _ hw)
def w_X11_tries_h63 (K : Int32 → Gt → Prop) : Nat → Int32 → Gt → Prop
  | 0, _, _ => False
  | n + 1, x2, G0 =>
    pif (4 ≤ x2) (
      K 1 G0) (
      vp_in x2 4 ∧
      vp_in x2 4 ∧
      pt (gu G0 57 (x2 : Int32).toNatClampNeg (G0 63 (x2 : Int32).toNatClampNeg)) fun G7 =>
      (w_X11_tries_h63 K n) (x2 + 1) G7)
def w_X11_tries_h29 (K : Int32 → Gt → Prop) : Nat → Int32 → Int32 → Gt → Prop
  | 0, _, _, _ => False
  | n + 1, x1, x2, G0 =>
    pif (4 ≤ x2) (
      w_X11_runsAll (fun G5 =>
        w_X11_restores (fun G6 =>
          ∃ i, w_X11_tries_h63 K i 0 G6) G5) x1 G0) (
      vp_in x2 4 ∧
      vp_in x2 4 ∧
      pt (gu G0 63 (x2 : Int32).toNatClampNeg (G0 57 (x2 : Int32).toNatClampNeg)) fun G8 =>
      (w_X11_tries_h29 K n) x1 (x2 + 1) G8)
def w_X11_tries_j18 (K : Int32 → Gt → Prop) (x1 : Int32) (y1 : Int32) (y2 : Int32) (G0 : Gt) : Prop :=
  w_X11_goes (fun v4 G3 =>
    pif (v4 = 0) (
      K 0 G3) (
      ∃ i, w_X11_tries_h29 K i x1 0 G3)) y1 y2 1 G0
def w_X11_tries (K : Int32 → Gt → Prop) (p0 : Int32) (G0 : Gt) : Prop :=
  w_X11_isNode (fun v2 G1 =>
    pif ((G1 46 52) = 0) (
      w_X11_tries_j18 K p0 v2 1 G1) (
      w_X11_tries_j18 K p0 v2 0 G1)) p0 G0
set_option maxHeartbeats 4000000 in
set_option maxRecDepth 100000 in
theorem t_X11_tries {l : Launch} {sh : Sh} (S : shOK sh) (p0 : Int32) (G0 : Gt) (K : Int32 → Gt → Prop) (hw : w_X11_tries K p0 G0) : CT0 l yX11_tries cX11_tries 3 (some .boolean) 9 211 [.ref 46, .int p0] sh G0 (fun r G' => ∃ v, r = some (.int v) ∧ K v G') := by
  refine CT0_of (by decide) (Nat.le_of_ble_eq_true rfl) rfl ?_
  intro p e s m args below meth c D tA ad A C hr _
  have h63 : ∀ (n : Nat) (x2 : Int32) (G0 : Gt), w_X11_tries_h63 K n x2 G0 → aw p l e { frames := 9, cells := 0, slots := 0, locals := 211 } s m args below meth c 3 D tA A (MQ below (QC0 D tA ad A sh (fun r G' => ∃ v, r = some (.int v) ∧ K v G')) args s 0 0 A) 0 0 ad 63 [some (.ref 46), none, some (.int x2)] [] sh G0 := by
    intro  n
    induction n with
    | zero => intro x2 G0 hw; exact hw.elim
    | succ n ih =>
      intro x2 G0 hw
      rw [w_X11_tries_h63] at hw
      refine aw_iloadn C dX11_tries_63 rfl ?_
      refine aw_iconst (v := 4) C dX11_tries_64 (by decide) ?_
      refine aw_ic_ge C dX11_tries_65 86 (by decide) hw (fun hc65 hw => ?_) (fun hc65 hw => ?_)
      · refine aw_iconst (v := 1) C dX11_tries_86 (by decide) ?_
        exact aw_zreturn C hr dX11_tries_87 rfl ⟨_, rfl, hw⟩
      · refine aw_aloadn C dX11_tries_68 rfl ?_
        refine aw_getR (r := 57) C dX11_tries_69 kcX11 (sA_46 S) 11 (by decide) rfl mF_X11_41 ?_
        refine aw_iloadn C dX11_tries_72 rfl ?_
        refine aw_aloadn C dX11_tries_73 rfl ?_
        refine aw_getR (r := 63) C dX11_tries_74 kcX11 (sA_46 S) 20 (by decide) rfl mF_X11_66 ?_
        refine aw_iloadn C dX11_tries_77 rfl ?_
        refine aw_iald C dX11_tries_78 (sA_63 S) hw.1 ?_
        replace hw := hw.2
        refine aw_iast C dX11_tries_79 (sA_57 S) hw.1 hw.2 (fun G7 hw => ?_)
        refine aw_iinc (w := (x2 + 1)) C dX11_tries_80 rfl rfl (by decide) rfl ?_
        refine aw_goto (tgt := 63) C dX11_tries_83 (by decide) ?_
        exact aw_msk [true, false, true] (ih (x2 + 1) _ hw)
  have h29 : ∀ (n : Nat) (x1 : Int32) (x2 : Int32) (G0 : Gt), w_X11_tries_h29 K n x1 x2 G0 → aw p l e { frames := 9, cells := 0, slots := 0, locals := 211 } s m args below meth c 3 D tA A (MQ below (QC0 D tA ad A sh (fun r G' => ∃ v, r = some (.int v) ∧ K v G')) args s 0 0 A) 0 0 ad 29 [some (.ref 46), some (.int x1), some (.int x2)] [] sh G0 := by
    intro  n
    induction n with
    | zero => intro x1 x2 G0 hw; exact hw.elim
    | succ n ih =>
      intro x1 x2 G0 hw
      rw [w_X11_tries_h29] at hw
      refine aw_iloadn C dX11_tries_29 rfl ?_
      refine aw_iconst (v := 4) C dX11_tries_30 (by decide) ?_
      refine aw_ic_ge C dX11_tries_31 52 (by decide) hw (fun hc31 hw => ?_) (fun hc31 hw => ?_)
      · refine aw_aloadn C dX11_tries_52 rfl ?_
        refine aw_iloadn C dX11_tries_53 rfl ?_
        refine aw_callV C dX11_tries_54 (t_X11_runsAll S x1 _ _ hw) mM_X11_438 bX11_runsAll (sA_46 S) rfl rfl ⟨Nat.le_of_ble_eq_true rfl, Nat.le_of_ble_eq_true rfl, Nat.zero_le _, Nat.zero_le _⟩ _ rfl (Nat.le_of_ble_eq_true rfl) (fun r54 G5 hq => ?_)
        obtain ⟨rfl, hw⟩ := hq
        refine aw_aloadn C dX11_tries_57 rfl ?_
        refine aw_callV C dX11_tries_58 (t_X11_restores S _ _ hw) mM_X11_398 bX11_restores (sA_46 S) rfl rfl ⟨Nat.le_of_ble_eq_true rfl, Nat.le_of_ble_eq_true rfl, Nat.zero_le _, Nat.zero_le _⟩ _ rfl (Nat.le_of_ble_eq_true rfl) (fun r58 G6 hq => ?_)
        obtain ⟨rfl, hw⟩ := hq
        refine aw_iconst (v := 0) C dX11_tries_61 (by decide) ?_
        refine aw_istoren C dX11_tries_62 (by decide) rfl ?_
        obtain ⟨n0, hw⟩ := hw
        exact aw_msk [true, false, true] (h63 n0 0 _ hw)
      · refine aw_aloadn C dX11_tries_34 rfl ?_
        refine aw_getR (r := 63) C dX11_tries_35 kcX11 (sA_46 S) 20 (by decide) rfl mF_X11_66 ?_
        refine aw_iloadn C dX11_tries_38 rfl ?_
        refine aw_aloadn C dX11_tries_39 rfl ?_
        refine aw_getR (r := 57) C dX11_tries_40 kcX11 (sA_46 S) 11 (by decide) rfl mF_X11_41 ?_
        refine aw_iloadn C dX11_tries_43 rfl ?_
        refine aw_iald C dX11_tries_44 (sA_57 S) hw.1 ?_
        replace hw := hw.2
        refine aw_iast C dX11_tries_45 (sA_63 S) hw.1 hw.2 (fun G8 hw => ?_)
        refine aw_iinc (w := (x2 + 1)) C dX11_tries_46 rfl rfl (by decide) rfl ?_
        refine aw_goto (tgt := 29) C dX11_tries_49 (by decide) ?_
        exact aw_msk [true, true, true] (ih x1 (x2 + 1) _ hw)
  have h18 : ∀ (x1 : Int32) (y1 : Int32) (y2 : Int32) (G0 : Gt), w_X11_tries_j18 K x1 y1 y2 G0 → aw p l e { frames := 9, cells := 0, slots := 0, locals := 211 } s m args below meth c 3 D tA A (MQ below (QC0 D tA ad A sh (fun r G' => ∃ v, r = some (.int v) ∧ K v G')) args s 0 0 A) 0 0 ad 18 [some (.ref 46), some (.int x1), none] [.int y2, .int y1, .ref 46] sh G0 := by
    intro  x1 y1 y2 G0 hw
    unfold w_X11_tries_j18 at hw
    refine aw_iconst (v := 1) C dX11_tries_18 (by decide) ?_
    refine aw_callV C dX11_tries_19 (t_X11_goes S y1 y2 1 _ _ hw) mM_X11_169 bX11_goes (sA_46 S) rfl rfl ⟨Nat.le_of_ble_eq_true rfl, Nat.le_of_ble_eq_true rfl, Nat.zero_le _, Nat.zero_le _⟩ _ rfl (Nat.le_of_ble_eq_true rfl) (fun r19 G3 hq => ?_)
    obtain ⟨v4, rfl, hw⟩ := hq
    refine aw_if_ne C dX11_tries_22 27 (by decide) hw (fun hc22 hw => ?_) (fun hc22 hw => ?_)
    · refine aw_iconst (v := 0) C dX11_tries_27 (by decide) ?_
      refine aw_istoren C dX11_tries_28 (by decide) rfl ?_
      obtain ⟨n0, hw⟩ := hw
      exact aw_msk [true, true, true] (h29 n0 x1 0 _ hw)
    · refine aw_iconst (v := 0) C dX11_tries_25 (by decide) ?_
      exact aw_zreturn C hr dX11_tries_26 rfl ⟨_, rfl, hw⟩
  unfold w_X11_tries at hw
  show aw p l e { frames := 9, cells := 0, slots := 0, locals := 211 } s m args below meth c 3 D tA A (MQ below (QC0 D tA ad A sh (fun r G' => ∃ v, r = some (.int v) ∧ K v G')) args s 0 0 A) 0 0 ad 0 [some (.ref 46), some (.int p0), none] [] sh G0
  refine aw_aloadn C dX11_tries_0 rfl ?_
  refine aw_aloadn C dX11_tries_1 rfl ?_
  refine aw_iloadn C dX11_tries_2 rfl ?_
  refine aw_callV C dX11_tries_3 (t_X11_isNode S p0 _ _ hw) mM_X11_140 bX11_isNode (sA_46 S) rfl rfl ⟨Nat.le_of_ble_eq_true rfl, Nat.le_of_ble_eq_true rfl, Nat.zero_le _, Nat.zero_le _⟩ _ rfl (Nat.le_of_ble_eq_true rfl) (fun r3 G1 hq => ?_)
  obtain ⟨v2, rfl, hw⟩ := hq
  refine aw_aloadn C dX11_tries_6 rfl ?_
  refine aw_getI C dX11_tries_7 kcX11 (sA_46 S) 52 (by decide) rfl mF_X11_173 ?_
  refine aw_if_ne C dX11_tries_10 17 (by decide) hw (fun hc10 hw => ?_) (fun hc10 hw => ?_)
  · refine aw_iconst (v := 0) C dX11_tries_17 (by decide) ?_
    exact aw_msk [true, true, false] (h18 p0 v2 0 _ hw)
  · refine aw_iconst (v := 1) C dX11_tries_13 (by decide) ?_
    refine aw_goto (tgt := 18) C dX11_tries_14 (by decide) ?_
    exact aw_msk [true, true, false] (h18 p0 v2 1 _ hw)
def w_X11_triedSteps_j16 (K : Int32 → Gt → Prop) (y0 : Int32) (G0 : Gt) : Prop :=
  K y0 G0
def w_X11_triedSteps (K : Int32 → Gt → Prop) (p0 : Int32) (G0 : Gt) : Prop :=
  w_X11_tries (fun v2 G1 =>
    pif (v2 = 0) (
      w_X11_triedSteps_j16 K 0 G1) (
      w_X11_triedSteps_j16 K (G1 46 58) G1)) p0 G0
set_option maxHeartbeats 4000000 in
set_option maxRecDepth 100000 in
theorem t_X11_triedSteps {l : Launch} {sh : Sh} (S : shOK sh) (p0 : Int32) (G0 : Gt) (K : Int32 → Gt → Prop) (hw : w_X11_triedSteps K p0 G0) : CT0 l yX11_triedSteps cX11_triedSteps 2 (some .int) 10 233 [.ref 46, .int p0] sh G0 (fun r G' => ∃ v, r = some (.int v) ∧ K v G') := by
  refine CT0_of (by decide) (Nat.le_of_ble_eq_true rfl) rfl ?_
  intro p e s m args below meth c D tA ad A C hr _
  have h16 : ∀ (y0 : Int32) (G0 : Gt), w_X11_triedSteps_j16 K y0 G0 → aw p l e { frames := 10, cells := 0, slots := 0, locals := 233 } s m args below meth c 2 D tA A (MQ below (QC0 D tA ad A sh (fun r G' => ∃ v, r = some (.int v) ∧ K v G')) args s 0 0 A) 0 0 ad 16 [none, none] [.int y0] sh G0 := by
    intro  y0 G0 hw
    unfold w_X11_triedSteps_j16 at hw
    exact aw_ireturn C hr dX11_triedSteps_16 ⟨_, rfl, hw⟩
  unfold w_X11_triedSteps at hw
  show aw p l e { frames := 10, cells := 0, slots := 0, locals := 233 } s m args below meth c 2 D tA A (MQ below (QC0 D tA ad A sh (fun r G' => ∃ v, r = some (.int v) ∧ K v G')) args s 0 0 A) 0 0 ad 0 [some (.ref 46), some (.int p0)] [] sh G0
  refine aw_aloadn C dX11_triedSteps_0 rfl ?_
  refine aw_iloadn C dX11_triedSteps_1 rfl ?_
  refine aw_callV C dX11_triedSteps_2 (t_X11_tries S p0 _ _ hw) mM_X11_444 bX11_tries (sA_46 S) rfl rfl ⟨Nat.le_of_ble_eq_true rfl, Nat.le_of_ble_eq_true rfl, Nat.zero_le _, Nat.zero_le _⟩ _ rfl (Nat.le_of_ble_eq_true rfl) (fun r2 G1 hq => ?_)
  obtain ⟨v2, rfl, hw⟩ := hq
  refine aw_if_eq C dX11_triedSteps_5 15 (by decide) hw (fun hc5 hw => ?_) (fun hc5 hw => ?_)
  · refine aw_iconst (v := 0) C dX11_triedSteps_15 (by decide) ?_
    exact aw_msk [false, false] (h16 0 _ hw)
  · refine aw_aloadn C dX11_triedSteps_8 rfl ?_
    refine aw_getI C dX11_triedSteps_9 kcX11 (sA_46 S) 58 (by decide) rfl mF_X11_404 ?_
    refine aw_goto (tgt := 16) C dX11_triedSteps_12 (by decide) ?_
    exact aw_msk [false, false] (h16 (G1 46 58) _ hw)
def w_X11_run_j18 (K : Int32 → Gt → Prop) (x1 : Int32) (y1 : Int32) (y2 : Int32) (G0 : Gt) : Prop :=
  w_X11_goes (fun v4 G3 =>
    pif (v4 = 0) (
      K 0 G3) (
      w_X11_runsAll (fun G5 =>
        w_X11_lasts (fun G6 =>
          K (G6 46 66) G6) G5) x1 G3)) y1 y2 1 G0
def w_X11_run (K : Int32 → Gt → Prop) (p0 : Int32) (G0 : Gt) : Prop :=
  w_X11_isNode (fun v2 G1 =>
    pif ((G1 46 52) = 0) (
      w_X11_run_j18 K p0 v2 1 G1) (
      w_X11_run_j18 K p0 v2 0 G1)) p0 G0
set_option maxHeartbeats 4000000 in
set_option maxRecDepth 100000 in
theorem t_X11_run {l : Launch} {sh : Sh} (S : shOK sh) (p0 : Int32) (G0 : Gt) (K : Int32 → Gt → Prop) (hw : w_X11_run K p0 G0) : CT0 l yX11_run cX11_run 2 (some .int) 9 211 [.ref 46, .int p0] sh G0 (fun r G' => ∃ v, r = some (.int v) ∧ K v G') := by
  refine CT0_of (by decide) (Nat.le_of_ble_eq_true rfl) rfl ?_
  intro p e s m args below meth c D tA ad A C hr _
  have h18 : ∀ (x1 : Int32) (y1 : Int32) (y2 : Int32) (G0 : Gt), w_X11_run_j18 K x1 y1 y2 G0 → aw p l e { frames := 9, cells := 0, slots := 0, locals := 211 } s m args below meth c 2 D tA A (MQ below (QC0 D tA ad A sh (fun r G' => ∃ v, r = some (.int v) ∧ K v G')) args s 0 0 A) 0 0 ad 18 [some (.ref 46), some (.int x1)] [.int y2, .int y1, .ref 46] sh G0 := by
    intro  x1 y1 y2 G0 hw
    unfold w_X11_run_j18 at hw
    refine aw_iconst (v := 1) C dX11_run_18 (by decide) ?_
    refine aw_callV C dX11_run_19 (t_X11_goes S y1 y2 1 _ _ hw) mM_X11_169 bX11_goes (sA_46 S) rfl rfl ⟨Nat.le_of_ble_eq_true rfl, Nat.le_of_ble_eq_true rfl, Nat.zero_le _, Nat.zero_le _⟩ _ rfl (Nat.le_of_ble_eq_true rfl) (fun r19 G3 hq => ?_)
    obtain ⟨v4, rfl, hw⟩ := hq
    refine aw_if_ne C dX11_run_22 27 (by decide) hw (fun hc22 hw => ?_) (fun hc22 hw => ?_)
    · refine aw_aloadn C dX11_run_27 rfl ?_
      refine aw_iloadn C dX11_run_28 rfl ?_
      refine aw_callV C dX11_run_29 (t_X11_runsAll S x1 _ _ hw) mM_X11_438 bX11_runsAll (sA_46 S) rfl rfl ⟨Nat.le_of_ble_eq_true rfl, Nat.le_of_ble_eq_true rfl, Nat.zero_le _, Nat.zero_le _⟩ _ rfl (Nat.le_of_ble_eq_true rfl) (fun r29 G5 hq => ?_)
      obtain ⟨rfl, hw⟩ := hq
      refine aw_aloadn C dX11_run_32 rfl ?_
      refine aw_callV C dX11_run_33 (t_X11_lasts S _ _ hw) mM_X11_441 bX11_lasts (sA_46 S) rfl rfl ⟨Nat.le_of_ble_eq_true rfl, Nat.le_of_ble_eq_true rfl, Nat.zero_le _, Nat.zero_le _⟩ _ rfl (Nat.le_of_ble_eq_true rfl) (fun r33 G6 hq => ?_)
      obtain ⟨rfl, hw⟩ := hq
      refine aw_aloadn C dX11_run_36 rfl ?_
      refine aw_getI C dX11_run_37 kcX11 (sA_46 S) 66 (by decide) rfl mF_X11_429 ?_
      exact aw_ireturn C hr dX11_run_40 ⟨_, rfl, hw⟩
    · refine aw_iconst (v := 0) C dX11_run_25 (by decide) ?_
      exact aw_ireturn C hr dX11_run_26 ⟨_, rfl, hw⟩
  unfold w_X11_run at hw
  show aw p l e { frames := 9, cells := 0, slots := 0, locals := 211 } s m args below meth c 2 D tA A (MQ below (QC0 D tA ad A sh (fun r G' => ∃ v, r = some (.int v) ∧ K v G')) args s 0 0 A) 0 0 ad 0 [some (.ref 46), some (.int p0)] [] sh G0
  refine aw_aloadn C dX11_run_0 rfl ?_
  refine aw_aloadn C dX11_run_1 rfl ?_
  refine aw_iloadn C dX11_run_2 rfl ?_
  refine aw_callV C dX11_run_3 (t_X11_isNode S p0 _ _ hw) mM_X11_140 bX11_isNode (sA_46 S) rfl rfl ⟨Nat.le_of_ble_eq_true rfl, Nat.le_of_ble_eq_true rfl, Nat.zero_le _, Nat.zero_le _⟩ _ rfl (Nat.le_of_ble_eq_true rfl) (fun r3 G1 hq => ?_)
  obtain ⟨v2, rfl, hw⟩ := hq
  refine aw_aloadn C dX11_run_6 rfl ?_
  refine aw_getI C dX11_run_7 kcX11 (sA_46 S) 52 (by decide) rfl mF_X11_173 ?_
  refine aw_if_ne C dX11_run_10 17 (by decide) hw (fun hc10 hw => ?_) (fun hc10 hw => ?_)
  · refine aw_iconst (v := 0) C dX11_run_17 (by decide) ?_
    exact aw_msk [true, true] (h18 p0 v2 0 _ hw)
  · refine aw_iconst (v := 1) C dX11_run_13 (by decide) ?_
    refine aw_goto (tgt := 18) C dX11_run_14 (by decide) ?_
    exact aw_msk [true, true] (h18 p0 v2 1 _ hw)
def w_X11_tried_j16 (K : Int32 → Gt → Prop) (y0 : Int32) (G0 : Gt) : Prop :=
  K y0 G0
def w_X11_tried (K : Int32 → Gt → Prop) (p0 : Int32) (G0 : Gt) : Prop :=
  w_X11_tries (fun v2 G1 =>
    pif (v2 = 0) (
      w_X11_tried_j16 K 0 G1) (
      w_X11_tried_j16 K (G1 46 62) G1)) p0 G0
set_option maxHeartbeats 4000000 in
set_option maxRecDepth 100000 in
theorem t_X11_tried {l : Launch} {sh : Sh} (S : shOK sh) (p0 : Int32) (G0 : Gt) (K : Int32 → Gt → Prop) (hw : w_X11_tried K p0 G0) : CT0 l yX11_tried cX11_tried 2 (some .int) 10 233 [.ref 46, .int p0] sh G0 (fun r G' => ∃ v, r = some (.int v) ∧ K v G') := by
  refine CT0_of (by decide) (Nat.le_of_ble_eq_true rfl) rfl ?_
  intro p e s m args below meth c D tA ad A C hr _
  have h16 : ∀ (y0 : Int32) (G0 : Gt), w_X11_tried_j16 K y0 G0 → aw p l e { frames := 10, cells := 0, slots := 0, locals := 233 } s m args below meth c 2 D tA A (MQ below (QC0 D tA ad A sh (fun r G' => ∃ v, r = some (.int v) ∧ K v G')) args s 0 0 A) 0 0 ad 16 [none, none] [.int y0] sh G0 := by
    intro  y0 G0 hw
    unfold w_X11_tried_j16 at hw
    exact aw_ireturn C hr dX11_tried_16 ⟨_, rfl, hw⟩
  unfold w_X11_tried at hw
  show aw p l e { frames := 10, cells := 0, slots := 0, locals := 233 } s m args below meth c 2 D tA A (MQ below (QC0 D tA ad A sh (fun r G' => ∃ v, r = some (.int v) ∧ K v G')) args s 0 0 A) 0 0 ad 0 [some (.ref 46), some (.int p0)] [] sh G0
  refine aw_aloadn C dX11_tried_0 rfl ?_
  refine aw_iloadn C dX11_tried_1 rfl ?_
  refine aw_callV C dX11_tried_2 (t_X11_tries S p0 _ _ hw) mM_X11_444 bX11_tries (sA_46 S) rfl rfl ⟨Nat.le_of_ble_eq_true rfl, Nat.le_of_ble_eq_true rfl, Nat.zero_le _, Nat.zero_le _⟩ _ rfl (Nat.le_of_ble_eq_true rfl) (fun r2 G1 hq => ?_)
  obtain ⟨v2, rfl, hw⟩ := hq
  refine aw_if_eq C dX11_tried_5 15 (by decide) hw (fun hc5 hw => ?_) (fun hc5 hw => ?_)
  · refine aw_iconst (v := 0) C dX11_tried_15 (by decide) ?_
    exact aw_msk [false, false] (h16 0 _ hw)
  · refine aw_aloadn C dX11_tried_8 rfl ?_
    refine aw_getI C dX11_tried_9 kcX11 (sA_46 S) 62 (by decide) rfl mF_X11_377 ?_
    refine aw_goto (tgt := 16) C dX11_tried_12 (by decide) ?_
    exact aw_msk [false, false] (h16 (G1 46 62) _ hw)
