def w_X7_clear (K : Gt → Prop) (G0 : Gt) : Prop :=
  pt (gu G0 129 2 0) fun G1 =>
  K G1
set_option maxHeartbeats 4000000 in
set_option maxRecDepth 100000 in
theorem t_X7_clear {l : Launch}  (G0 : Gt) (K : Gt → Prop) (hw : w_X7_clear K G0) : CT0 l yX7_clear cX7_clear 1 none 0 0 [.ref 129] shB G0 (fun r G' => r = none ∧ K G') := by
  refine CT0_of (by decide) (Nat.le_of_ble_eq_true rfl) rfl ?_
  intro p e s m args below meth c D tA ad A C hr _
  unfold w_X7_clear at hw
  show aw p l e { frames := 0, cells := 0, slots := 0, locals := 0 } s m args below meth c 1 D tA A (MQ below (QC0 D tA ad A shB (fun r G' => r = none ∧ K G')) args s 0 0 A) 0 0 ad 0 [some (.ref 129)] [] shB G0
  refine aw_aloadn C dX7_clear_0 rfl ?_
  refine aw_iconst (v := 0) C dX7_clear_1 (by decide) ?_
  refine aw_putI C dX7_clear_2 kcX7 shB_129 2 (by decide) rfl mF_X7_24 rfl rfl rfl hw (fun G1 hw => ?_)
  exact aw_return C hr dX7_clear_5 ⟨rfl, hw⟩
def w_X7_open_h26 (K : Int32 → Gt → Prop) : Nat → Int32 → Int32 → Gt → Prop
  | 0, _, _, _ => False
  | n + 1, x2, x3, G0 =>
    pif (8 ≤ x3) (
      K x2 G0) (
      pt (rput G0 133 9680 ((x2 * 8) + x3) 49999) fun G3 =>
      (w_X7_open_h26 K n) x2 (x3 + 1) G3)
def w_X7_open (K : Int32 → Gt → Prop) (p0 : Int32) (G0 : Gt) : Prop :=
  pt (gu G0 129 2 ((G0 129 2) + 1)) fun G1 =>
  pt (rput G1 131 1210 (G0 129 2) p0) fun G2 =>
  ∃ i, w_X7_open_h26 K i (G0 129 2) 0 G2
set_option maxHeartbeats 4000000 in
set_option maxRecDepth 100000 in
theorem t_X7_open {l : Launch}  (p0 : Int32) (G0 : Gt) (K : Int32 → Gt → Prop) (hw : w_X7_open K p0 G0) : CT0 l yX7_open cX7_open 4 (some .int) 1 22 [.ref 129, .int p0] shB G0 (fun r G' => ∃ v, r = some (.int v) ∧ K v G') := by
  refine CT0_of (by decide) (Nat.le_of_ble_eq_true rfl) rfl ?_
  intro p e s m args below meth c D tA ad A C hr _
  have h26 : ∀ (n : Nat) (x2 : Int32) (x3 : Int32) (G0 : Gt), w_X7_open_h26 K n x2 x3 G0 → aw p l e { frames := 1, cells := 0, slots := 0, locals := 22 } s m args below meth c 4 D tA A (MQ below (QC0 D tA ad A shB (fun r G' => ∃ v, r = some (.int v) ∧ K v G')) args s 0 0 A) 0 0 ad 26 [some (.ref 129), none, some (.int x2), some (.int x3)] [] shB G0 := by
    intro  n
    induction n with
    | zero => intro x2 x3 G0 hw; exact hw.elim
    | succ n ih =>
      intro x2 x3 G0 hw
      rw [w_X7_open_h26] at hw
      refine aw_iloadn C dX7_open_26 rfl ?_
      refine aw_bipush (v := 8) C dX7_open_27 (by decide) ?_
      refine aw_ic_ge C dX7_open_29 53 (by decide) hw (fun hc29 hw => ?_) (fun hc29 hw => ?_)
      · refine aw_iloadn C dX7_open_53 rfl ?_
        exact aw_ireturn C hr dX7_open_54 ⟨_, rfl, hw⟩
      · refine aw_aloadn C dX7_open_32 rfl ?_
        refine aw_getR (r := 132) C dX7_open_33 kcX7 shB_129 1 (by decide) rfl mF_X7_21 ?_
        refine aw_iloadn C dX7_open_36 rfl ?_
        refine aw_bipush (v := 8) C dX7_open_37 (by decide) ?_
        refine aw_imul C dX7_open_39 ?_
        refine aw_iloadn C dX7_open_40 rfl ?_
        refine aw_iadd C dX7_open_41 ?_
        refine aw_ldc (v := 49999) C dX7_open_42 mK_X7_20 ?_
        refine aw_callV C dX7_open_44 (t_put rowB_132 (Nat.le_of_ble_eq_true rfl) ((x2 * 8) + x3) 49999 _) mM_X7_28 bX6_put rowB_132.1 rfl rfl ⟨Nat.le_of_ble_eq_true rfl, Nat.le_of_ble_eq_true rfl, Nat.zero_le _, Nat.zero_le _⟩ _ rfl (Nat.le_of_ble_eq_true rfl) (fun r44 G3 hq => ?_)
        obtain ⟨rfl, hq⟩ := hq
        replace hw := pt_eq hw hq
        refine aw_iinc (w := (x3 + 1)) C dX7_open_47 rfl rfl (by decide) rfl ?_
        refine aw_goto (tgt := 26) C dX7_open_50 (by decide) ?_
        exact aw_msk [true, false, true, true] (ih x2 (x3 + 1) _ hw)
  unfold w_X7_open at hw
  show aw p l e { frames := 1, cells := 0, slots := 0, locals := 22 } s m args below meth c 4 D tA A (MQ below (QC0 D tA ad A shB (fun r G' => ∃ v, r = some (.int v) ∧ K v G')) args s 0 0 A) 0 0 ad 0 [some (.ref 129), some (.int p0), none, none] [] shB G0
  refine aw_aloadn C dX7_open_0 rfl ?_
  refine aw_getI C dX7_open_1 kcX7 shB_129 2 (by decide) rfl mF_X7_24 ?_
  refine aw_istoren C dX7_open_4 (by decide) rfl ?_
  refine aw_aloadn C dX7_open_5 rfl ?_
  refine aw_dup C dX7_open_6 rfl ?_
  refine aw_getI C dX7_open_7 kcX7 shB_129 2 (by decide) rfl mF_X7_24 ?_
  refine aw_iconst (v := 1) C dX7_open_10 (by decide) ?_
  refine aw_iadd C dX7_open_11 ?_
  refine aw_putI C dX7_open_12 kcX7 shB_129 2 (by decide) rfl mF_X7_24 rfl rfl rfl hw (fun G1 hw => ?_)
  refine aw_aloadn C dX7_open_15 rfl ?_
  refine aw_getR (r := 130) C dX7_open_16 kcX7 shB_129 0 (by decide) rfl mF_X7_14 ?_
  refine aw_iloadn C dX7_open_19 rfl ?_
  refine aw_iloadn C dX7_open_20 rfl ?_
  refine aw_callV C dX7_open_21 (t_put rowB_130 (Nat.le_of_ble_eq_true rfl) (G0 129 2) p0 _) mM_X7_28 bX6_put rowB_130.1 rfl rfl ⟨Nat.le_of_ble_eq_true rfl, Nat.le_of_ble_eq_true rfl, Nat.zero_le _, Nat.zero_le _⟩ _ rfl (Nat.le_of_ble_eq_true rfl) (fun r21 G2 hq => ?_)
  obtain ⟨rfl, hq⟩ := hq
  replace hw := pt_eq hw hq
  refine aw_iconst (v := 0) C dX7_open_24 (by decide) ?_
  refine aw_istoren C dX7_open_25 (by decide) rfl ?_
  obtain ⟨n0, hw⟩ := hw
  exact aw_msk [true, false, true, true] (h26 n0 (G0 129 2) 0 _ hw)
def w_X7_bind (K : Gt → Prop) (p0 : Int32) (p1 : Int32) (p2 : Int32) (G0 : Gt) : Prop :=
  pt (rput G0 133 9680 ((p0 * 8) + p1) p2) fun G1 =>
  K G1
set_option maxHeartbeats 4000000 in
set_option maxRecDepth 100000 in
theorem t_X7_bind {l : Launch}  (p0 : Int32) (p1 : Int32) (p2 : Int32) (G0 : Gt) (K : Gt → Prop) (hw : w_X7_bind K p0 p1 p2 G0) : CT0 l yX7_bind cX7_bind 4 none 1 22 [.ref 129, .int p0, .int p1, .int p2] shB G0 (fun r G' => r = none ∧ K G') := by
  refine CT0_of (by decide) (Nat.le_of_ble_eq_true rfl) rfl ?_
  intro p e s m args below meth c D tA ad A C hr _
  unfold w_X7_bind at hw
  show aw p l e { frames := 1, cells := 0, slots := 0, locals := 22 } s m args below meth c 4 D tA A (MQ below (QC0 D tA ad A shB (fun r G' => r = none ∧ K G')) args s 0 0 A) 0 0 ad 0 [some (.ref 129), some (.int p0), some (.int p1), some (.int p2)] [] shB G0
  refine aw_aloadn C dX7_bind_0 rfl ?_
  refine aw_getR (r := 132) C dX7_bind_1 kcX7 shB_129 1 (by decide) rfl mF_X7_21 ?_
  refine aw_iloadn C dX7_bind_4 rfl ?_
  refine aw_bipush (v := 8) C dX7_bind_5 (by decide) ?_
  refine aw_imul C dX7_bind_7 ?_
  refine aw_iloadn C dX7_bind_8 rfl ?_
  refine aw_iadd C dX7_bind_9 ?_
  refine aw_iloadn C dX7_bind_10 rfl ?_
  refine aw_callV C dX7_bind_11 (t_put rowB_132 (Nat.le_of_ble_eq_true rfl) ((p0 * 8) + p1) p2 _) mM_X7_28 bX6_put rowB_132.1 rfl rfl ⟨Nat.le_of_ble_eq_true rfl, Nat.le_of_ble_eq_true rfl, Nat.zero_le _, Nat.zero_le _⟩ _ rfl (Nat.le_of_ble_eq_true rfl) (fun r11 G1 hq => ?_)
  obtain ⟨rfl, hq⟩ := hq
  replace hw := pt_eq hw hq
  exact aw_return C hr dX7_bind_14 ⟨rfl, hw⟩
def w_X7_holderOf_j53 (K : Int32 → Gt → Prop)  (G0 : Gt) : Prop :=
  K (-1) G0
def w_X7_holderOf_h5 (K : Int32 → Gt → Prop) : Nat → Int32 → Int32 → Int32 → Gt → Prop
  | 0, _, _, _, _ => False
  | n + 1, x2, x3, x4, G0 =>
    pif (1210 ≤ x4) (
      w_X7_holderOf_j53 K G0) (
      pif (x3 = (-1)) (
        w_X7_holderOf_j53 K G0) (
        pif ((rat G0 133 9680 ((x3 * 8) + x2)) = 49999) (
          (w_X7_holderOf_h5 K n) x2 (rat G0 131 1210 x3) (x4 + 1) G0) (
          K x3 G0)))
def w_X7_holderOf (K : Int32 → Gt → Prop) (p0 : Int32) (p1 : Int32) (G0 : Gt) : Prop :=
  ∃ i, w_X7_holderOf_h5 K i p1 p0 0 G0
set_option maxHeartbeats 4000000 in
set_option maxRecDepth 100000 in
theorem t_X7_holderOf {l : Launch}  (p0 : Int32) (p1 : Int32) (G0 : Gt) (K : Int32 → Gt → Prop) (hw : w_X7_holderOf K p0 p1 G0) : CT0 l yX7_holderOf cX7_holderOf 5 (some .int) 1 21 [.ref 129, .int p0, .int p1] shB G0 (fun r G' => ∃ v, r = some (.int v) ∧ K v G') := by
  refine CT0_of (by decide) (Nat.le_of_ble_eq_true rfl) rfl ?_
  intro p e s m args below meth c D tA ad A C hr _
  have h53 : ∀ (G0 : Gt), w_X7_holderOf_j53 K  G0 → aw p l e { frames := 1, cells := 0, slots := 0, locals := 21 } s m args below meth c 5 D tA A (MQ below (QC0 D tA ad A shB (fun r G' => ∃ v, r = some (.int v) ∧ K v G')) args s 0 0 A) 0 0 ad 53 [none, none, none, none, none] [] shB G0 := by
    intro   G0 hw
    unfold w_X7_holderOf_j53 at hw
    refine aw_iconst (v := (-1)) C dX7_holderOf_53 (by decide) ?_
    exact aw_ireturn C hr dX7_holderOf_54 ⟨_, rfl, hw⟩
  have h5 : ∀ (n : Nat) (x2 : Int32) (x3 : Int32) (x4 : Int32) (G0 : Gt), w_X7_holderOf_h5 K n x2 x3 x4 G0 → aw p l e { frames := 1, cells := 0, slots := 0, locals := 21 } s m args below meth c 5 D tA A (MQ below (QC0 D tA ad A shB (fun r G' => ∃ v, r = some (.int v) ∧ K v G')) args s 0 0 A) 0 0 ad 5 [some (.ref 129), none, some (.int x2), some (.int x3), some (.int x4)] [] shB G0 := by
    intro  n
    induction n with
    | zero => intro x2 x3 x4 G0 hw; exact hw.elim
    | succ n ih =>
      intro x2 x3 x4 G0 hw
      rw [w_X7_holderOf_h5] at hw
      refine aw_iload C dX7_holderOf_5 rfl ?_
      refine aw_sipush (v := 1210) C dX7_holderOf_7 (by decide) ?_
      refine aw_ic_ge C dX7_holderOf_10 53 (by decide) hw (fun hc10 hw => ?_) (fun hc10 hw => ?_)
      · exact aw_msk [false, false, false, false, false] (h53 _ hw)
      · refine aw_iloadn C dX7_holderOf_13 rfl ?_
        refine aw_iconst (v := (-1)) C dX7_holderOf_14 (by decide) ?_
        refine aw_ic_eq C dX7_holderOf_15 53 (by decide) hw (fun hc15 hw => ?_) (fun hc15 hw => ?_)
        · exact aw_msk [false, false, false, false, false] (h53 _ hw)
        · refine aw_aloadn C dX7_holderOf_18 rfl ?_
          refine aw_getR (r := 132) C dX7_holderOf_19 kcX7 shB_129 1 (by decide) rfl mF_X7_21 ?_
          refine aw_iloadn C dX7_holderOf_22 rfl ?_
          refine aw_bipush (v := 8) C dX7_holderOf_23 (by decide) ?_
          refine aw_imul C dX7_holderOf_25 ?_
          refine aw_iloadn C dX7_holderOf_26 rfl ?_
          refine aw_iadd C dX7_holderOf_27 ?_
          refine aw_callV C dX7_holderOf_28 (t_at rowB_132 (Nat.le_of_ble_eq_true rfl) ((x3 * 8) + x2) _) mM_X7_31 bX6_at rowB_132.1 rfl rfl ⟨Nat.le_of_ble_eq_true rfl, Nat.le_of_ble_eq_true rfl, Nat.zero_le _, Nat.zero_le _⟩ _ rfl (Nat.le_of_ble_eq_true rfl) (fun r28 G28x hq => ?_)
          obtain ⟨rfl, rfl⟩ := hq
          refine aw_ldc (v := 49999) C dX7_holderOf_31 mK_X7_20 ?_
          refine aw_ic_eq C dX7_holderOf_33 38 (by decide) hw (fun hc33 hw => ?_) (fun hc33 hw => ?_)
          · refine aw_aloadn C dX7_holderOf_38 rfl ?_
            refine aw_getR (r := 130) C dX7_holderOf_39 kcX7 shB_129 0 (by decide) rfl mF_X7_14 ?_
            refine aw_iloadn C dX7_holderOf_42 rfl ?_
            refine aw_callV C dX7_holderOf_43 (t_at rowB_130 (Nat.le_of_ble_eq_true rfl) x3 _) mM_X7_31 bX6_at rowB_130.1 rfl rfl ⟨Nat.le_of_ble_eq_true rfl, Nat.le_of_ble_eq_true rfl, Nat.zero_le _, Nat.zero_le _⟩ _ rfl (Nat.le_of_ble_eq_true rfl) (fun r43 G43x hq => ?_)
            obtain ⟨rfl, rfl⟩ := hq
            refine aw_istoren C dX7_holderOf_46 (by decide) rfl ?_
            refine aw_iinc (w := (x4 + 1)) C dX7_holderOf_47 rfl rfl (by decide) rfl ?_
            refine aw_goto (tgt := 5) C dX7_holderOf_50 (by decide) ?_
            exact aw_msk [true, false, true, true, true] (ih x2 (rat G0 131 1210 x3) (x4 + 1) _ hw)
          · refine aw_iloadn C dX7_holderOf_36 rfl ?_
            exact aw_ireturn C hr dX7_holderOf_37 ⟨_, rfl, hw⟩
  unfold w_X7_holderOf at hw
  show aw p l e { frames := 1, cells := 0, slots := 0, locals := 21 } s m args below meth c 5 D tA A (MQ below (QC0 D tA ad A shB (fun r G' => ∃ v, r = some (.int v) ∧ K v G')) args s 0 0 A) 0 0 ad 0 [some (.ref 129), some (.int p0), some (.int p1), none, none] [] shB G0
  refine aw_iloadn C dX7_holderOf_0 rfl ?_
  refine aw_istoren C dX7_holderOf_1 (by decide) rfl ?_
  refine aw_iconst (v := 0) C dX7_holderOf_2 (by decide) ?_
  refine aw_istore C dX7_holderOf_3 (by decide) rfl ?_
  obtain ⟨n0, hw⟩ := hw
  exact aw_msk [true, false, true, true, true] (h5 n0 p1 p0 0 _ hw)
def w_X7_valueOf_j30 (K : Int32 → Gt → Prop) (y0 : Int32) (G0 : Gt) : Prop :=
  K y0 G0
def w_X7_valueOf (K : Int32 → Gt → Prop) (p0 : Int32) (p1 : Int32) (G0 : Gt) : Prop :=
  w_X7_holderOf (fun v2 G1 =>
    pif (v2 = (-1)) (
      w_X7_valueOf_j30 K 49999 G1) (
      w_X7_valueOf_j30 K (rat G1 133 9680 ((v2 * 8) + p1)) G1)) p0 p1 G0
set_option maxHeartbeats 4000000 in
set_option maxRecDepth 100000 in
theorem t_X7_valueOf {l : Launch}  (p0 : Int32) (p1 : Int32) (G0 : Gt) (K : Int32 → Gt → Prop) (hw : w_X7_valueOf K p0 p1 G0) : CT0 l yX7_valueOf cX7_valueOf 4 (some .int) 2 45 [.ref 129, .int p0, .int p1] shB G0 (fun r G' => ∃ v, r = some (.int v) ∧ K v G') := by
  refine CT0_of (by decide) (Nat.le_of_ble_eq_true rfl) rfl ?_
  intro p e s m args below meth c D tA ad A C hr _
  have h30 : ∀ (y0 : Int32) (G0 : Gt), w_X7_valueOf_j30 K y0 G0 → aw p l e { frames := 2, cells := 0, slots := 0, locals := 45 } s m args below meth c 4 D tA A (MQ below (QC0 D tA ad A shB (fun r G' => ∃ v, r = some (.int v) ∧ K v G')) args s 0 0 A) 0 0 ad 30 [none, none, none, none] [.int y0] shB G0 := by
    intro  y0 G0 hw
    unfold w_X7_valueOf_j30 at hw
    exact aw_ireturn C hr dX7_valueOf_30 ⟨_, rfl, hw⟩
  unfold w_X7_valueOf at hw
  show aw p l e { frames := 2, cells := 0, slots := 0, locals := 45 } s m args below meth c 4 D tA A (MQ below (QC0 D tA ad A shB (fun r G' => ∃ v, r = some (.int v) ∧ K v G')) args s 0 0 A) 0 0 ad 0 [some (.ref 129), some (.int p0), some (.int p1), none] [] shB G0
  refine aw_aloadn C dX7_valueOf_0 rfl ?_
  refine aw_iloadn C dX7_valueOf_1 rfl ?_
  refine aw_iloadn C dX7_valueOf_2 rfl ?_
  refine aw_callV C dX7_valueOf_3 (t_X7_holderOf p0 p1 _ _ hw) mM_X7_35 bX7_holderOf shB_129 rfl rfl ⟨Nat.le_of_ble_eq_true rfl, Nat.le_of_ble_eq_true rfl, Nat.zero_le _, Nat.zero_le _⟩ _ rfl (Nat.le_of_ble_eq_true rfl) (fun r3 G1 hq => ?_)
  obtain ⟨v2, rfl, hw⟩ := hq
  refine aw_istoren C dX7_valueOf_6 (by decide) rfl ?_
  refine aw_iloadn C dX7_valueOf_7 rfl ?_
  refine aw_iconst (v := (-1)) C dX7_valueOf_8 (by decide) ?_
  refine aw_ic_ne C dX7_valueOf_9 17 (by decide) hw (fun hc9 hw => ?_) (fun hc9 hw => ?_)
  · refine aw_aloadn C dX7_valueOf_17 rfl ?_
    refine aw_getR (r := 132) C dX7_valueOf_18 kcX7 shB_129 1 (by decide) rfl mF_X7_21 ?_
    refine aw_iloadn C dX7_valueOf_21 rfl ?_
    refine aw_bipush (v := 8) C dX7_valueOf_22 (by decide) ?_
    refine aw_imul C dX7_valueOf_24 ?_
    refine aw_iloadn C dX7_valueOf_25 rfl ?_
    refine aw_iadd C dX7_valueOf_26 ?_
    refine aw_callV C dX7_valueOf_27 (t_at rowB_132 (Nat.le_of_ble_eq_true rfl) ((v2 * 8) + p1) _) mM_X7_31 bX6_at rowB_132.1 rfl rfl ⟨Nat.le_of_ble_eq_true rfl, Nat.le_of_ble_eq_true rfl, Nat.zero_le _, Nat.zero_le _⟩ _ rfl (Nat.le_of_ble_eq_true rfl) (fun r27 G27x hq => ?_)
    obtain ⟨rfl, rfl⟩ := hq
    exact aw_msk [false, false, false, false] (h30 (rat G1 133 9680 ((v2 * 8) + p1)) _ hw)
  · refine aw_ldc (v := 49999) C dX7_valueOf_12 mK_X7_20 ?_
    refine aw_goto (tgt := 30) C dX7_valueOf_14 (by decide) ?_
    exact aw_msk [false, false, false, false] (h30 49999 _ hw)
def w_X1_land (K : Gt → Prop) (p0 : Int32) (G0 : Gt) : Prop :=
  pt (rput G0 116 601 p0 (rat G0 118 601 p0)) fun G1 =>
  pt (rput G1 118 601 p0 0) fun G2 =>
  K G2
set_option maxHeartbeats 4000000 in
set_option maxRecDepth 100000 in
theorem t_X1_land {l : Launch}  (p0 : Int32) (G0 : Gt) (K : Gt → Prop) (hw : w_X1_land K p0 G0) : CT0 l yX1_land cX1_land 2 none 1 22 [.ref 106, .int p0] shB G0 (fun r G' => r = none ∧ K G') := by
  refine CT0_of (by decide) (Nat.le_of_ble_eq_true rfl) rfl ?_
  intro p e s m args below meth c D tA ad A C hr _
  unfold w_X1_land at hw
  show aw p l e { frames := 1, cells := 0, slots := 0, locals := 22 } s m args below meth c 2 D tA A (MQ below (QC0 D tA ad A shB (fun r G' => r = none ∧ K G')) args s 0 0 A) 0 0 ad 0 [some (.ref 106), some (.int p0)] [] shB G0
  refine aw_aloadn C dX1_land_0 rfl ?_
  refine aw_getR (r := 115) C dX1_land_1 kcX1 shB_106 4 (by decide) rfl mF_X1_29 ?_
  refine aw_iloadn C dX1_land_4 rfl ?_
  refine aw_aloadn C dX1_land_5 rfl ?_
  refine aw_getR (r := 117) C dX1_land_6 kcX1 shB_106 5 (by decide) rfl mF_X1_32 ?_
  refine aw_iloadn C dX1_land_9 rfl ?_
  refine aw_callV C dX1_land_10 (t_at rowB_117 (Nat.le_of_ble_eq_true rfl) p0 _) mM_X1_51 bX6_at rowB_117.1 rfl rfl ⟨Nat.le_of_ble_eq_true rfl, Nat.le_of_ble_eq_true rfl, Nat.zero_le _, Nat.zero_le _⟩ _ rfl (Nat.le_of_ble_eq_true rfl) (fun r10 G10x hq => ?_)
  obtain ⟨rfl, rfl⟩ := hq
  refine aw_callV C dX1_land_13 (t_put rowB_115 (Nat.le_of_ble_eq_true rfl) p0 (rat G0 118 601 p0) _) mM_X1_55 bX6_put rowB_115.1 rfl rfl ⟨Nat.le_of_ble_eq_true rfl, Nat.le_of_ble_eq_true rfl, Nat.zero_le _, Nat.zero_le _⟩ _ rfl (Nat.le_of_ble_eq_true rfl) (fun r13 G1 hq => ?_)
  obtain ⟨rfl, hq⟩ := hq
  replace hw := pt_eq hw hq
  refine aw_aloadn C dX1_land_16 rfl ?_
  refine aw_getR (r := 117) C dX1_land_17 kcX1 shB_106 5 (by decide) rfl mF_X1_32 ?_
  refine aw_iloadn C dX1_land_20 rfl ?_
  refine aw_iconst (v := 0) C dX1_land_21 (by decide) ?_
  refine aw_callV C dX1_land_22 (t_put rowB_117 (Nat.le_of_ble_eq_true rfl) p0 0 _) mM_X1_55 bX6_put rowB_117.1 rfl rfl ⟨Nat.le_of_ble_eq_true rfl, Nat.le_of_ble_eq_true rfl, Nat.zero_le _, Nat.zero_le _⟩ _ rfl (Nat.le_of_ble_eq_true rfl) (fun r22 G2 hq => ?_)
  obtain ⟨rfl, hq⟩ := hq
  replace hw := pt_eq hw hq
  exact aw_return C hr dX1_land_25 ⟨rfl, hw⟩
def w_X1_rootOf_j37 (K : Int32 → Gt → Prop) (x2 : Int32) (G0 : Gt) : Prop :=
  K x2 G0
def w_X1_rootOf_h4 (K : Int32 → Gt → Prop) : Nat → Int32 → Int32 → Gt → Prop
  | 0, _, _, _ => False
  | n + 1, x2, x3, G0 =>
    pif (601 ≤ x3) (
      w_X1_rootOf_j37 K x2 G0) (
      pif ((rat G0 114 601 x2) = 0) (
        (w_X1_rootOf_h4 K n) (rat G0 110 601 x2) (x3 + 1) G0) (
        w_X1_rootOf_j37 K x2 G0))
def w_X1_rootOf (K : Int32 → Gt → Prop) (p0 : Int32) (G0 : Gt) : Prop :=
  ∃ i, w_X1_rootOf_h4 K i p0 0 G0
set_option maxHeartbeats 4000000 in
set_option maxRecDepth 100000 in
theorem t_X1_rootOf {l : Launch}  (p0 : Int32) (G0 : Gt) (K : Int32 → Gt → Prop) (hw : w_X1_rootOf K p0 G0) : CT0 l yX1_rootOf cX1_rootOf 4 (some .int) 1 21 [.ref 106, .int p0] shB G0 (fun r G' => ∃ v, r = some (.int v) ∧ K v G') := by
  refine CT0_of (by decide) (Nat.le_of_ble_eq_true rfl) rfl ?_
  intro p e s m args below meth c D tA ad A C hr _
  have h37 : ∀ (x2 : Int32) (G0 : Gt), w_X1_rootOf_j37 K x2 G0 → aw p l e { frames := 1, cells := 0, slots := 0, locals := 21 } s m args below meth c 4 D tA A (MQ below (QC0 D tA ad A shB (fun r G' => ∃ v, r = some (.int v) ∧ K v G')) args s 0 0 A) 0 0 ad 37 [none, none, some (.int x2), none] [] shB G0 := by
    intro  x2 G0 hw
    unfold w_X1_rootOf_j37 at hw
    refine aw_iloadn C dX1_rootOf_37 rfl ?_
    exact aw_ireturn C hr dX1_rootOf_38 ⟨_, rfl, hw⟩
  have h4 : ∀ (n : Nat) (x2 : Int32) (x3 : Int32) (G0 : Gt), w_X1_rootOf_h4 K n x2 x3 G0 → aw p l e { frames := 1, cells := 0, slots := 0, locals := 21 } s m args below meth c 4 D tA A (MQ below (QC0 D tA ad A shB (fun r G' => ∃ v, r = some (.int v) ∧ K v G')) args s 0 0 A) 0 0 ad 4 [some (.ref 106), none, some (.int x2), some (.int x3)] [] shB G0 := by
    intro  n
    induction n with
    | zero => intro x2 x3 G0 hw; exact hw.elim
    | succ n ih =>
      intro x2 x3 G0 hw
      rw [w_X1_rootOf_h4] at hw
      refine aw_iloadn C dX1_rootOf_4 rfl ?_
      refine aw_sipush (v := 601) C dX1_rootOf_5 (by decide) ?_
      refine aw_ic_ge C dX1_rootOf_8 37 (by decide) hw (fun hc8 hw => ?_) (fun hc8 hw => ?_)
      · exact aw_msk [false, false, true, false] (h37 x2 _ hw)
      · refine aw_aloadn C dX1_rootOf_11 rfl ?_
        refine aw_getR (r := 113) C dX1_rootOf_12 kcX1 shB_106 3 (by decide) rfl mF_X1_26 ?_
        refine aw_iloadn C dX1_rootOf_15 rfl ?_
        refine aw_callV C dX1_rootOf_16 (t_at rowB_113 (Nat.le_of_ble_eq_true rfl) x2 _) mM_X1_51 bX6_at rowB_113.1 rfl rfl ⟨Nat.le_of_ble_eq_true rfl, Nat.le_of_ble_eq_true rfl, Nat.zero_le _, Nat.zero_le _⟩ _ rfl (Nat.le_of_ble_eq_true rfl) (fun r16 G16x hq => ?_)
        obtain ⟨rfl, rfl⟩ := hq
        refine aw_if_ne C dX1_rootOf_19 37 (by decide) hw (fun hc19 hw => ?_) (fun hc19 hw => ?_)
        · exact aw_msk [false, false, true, false] (h37 x2 _ hw)
        · refine aw_aloadn C dX1_rootOf_22 rfl ?_
          refine aw_getR (r := 109) C dX1_rootOf_23 kcX1 shB_106 1 (by decide) rfl mF_X1_20 ?_
          refine aw_iloadn C dX1_rootOf_26 rfl ?_
          refine aw_callV C dX1_rootOf_27 (t_at rowB_109 (Nat.le_of_ble_eq_true rfl) x2 _) mM_X1_51 bX6_at rowB_109.1 rfl rfl ⟨Nat.le_of_ble_eq_true rfl, Nat.le_of_ble_eq_true rfl, Nat.zero_le _, Nat.zero_le _⟩ _ rfl (Nat.le_of_ble_eq_true rfl) (fun r27 G27x hq => ?_)
          obtain ⟨rfl, rfl⟩ := hq
          refine aw_istoren C dX1_rootOf_30 (by decide) rfl ?_
          refine aw_iinc (w := (x3 + 1)) C dX1_rootOf_31 rfl rfl (by decide) rfl ?_
          refine aw_goto (tgt := 4) C dX1_rootOf_34 (by decide) ?_
          exact aw_msk [true, false, true, true] (ih (rat G0 110 601 x2) (x3 + 1) _ hw)
  unfold w_X1_rootOf at hw
  show aw p l e { frames := 1, cells := 0, slots := 0, locals := 21 } s m args below meth c 4 D tA A (MQ below (QC0 D tA ad A shB (fun r G' => ∃ v, r = some (.int v) ∧ K v G')) args s 0 0 A) 0 0 ad 0 [some (.ref 106), some (.int p0), none, none] [] shB G0
  refine aw_iloadn C dX1_rootOf_0 rfl ?_
  refine aw_istoren C dX1_rootOf_1 (by decide) rfl ?_
  refine aw_iconst (v := 0) C dX1_rootOf_2 (by decide) ?_
  refine aw_istoren C dX1_rootOf_3 (by decide) rfl ?_
  obtain ⟨n0, hw⟩ := hw
  exact aw_msk [true, false, true, true] (h4 n0 p0 0 _ hw)
def w_X3_clear (K : Gt → Prop) (G0 : Gt) : Prop :=
  pt (gu G0 134 5 0) fun G1 =>
  pt (gu G1 134 6 0) fun G2 =>
  K G2
set_option maxHeartbeats 4000000 in
set_option maxRecDepth 100000 in
theorem t_X3_clear {l : Launch}  (G0 : Gt) (K : Gt → Prop) (hw : w_X3_clear K G0) : CT0 l yX3_clear cX3_clear 1 none 0 0 [.ref 134] shB G0 (fun r G' => r = none ∧ K G') := by
  refine CT0_of (by decide) (Nat.le_of_ble_eq_true rfl) rfl ?_
  intro p e s m args below meth c D tA ad A C hr _
  unfold w_X3_clear at hw
  show aw p l e { frames := 0, cells := 0, slots := 0, locals := 0 } s m args below meth c 1 D tA A (MQ below (QC0 D tA ad A shB (fun r G' => r = none ∧ K G')) args s 0 0 A) 0 0 ad 0 [some (.ref 134)] [] shB G0
  refine aw_aloadn C dX3_clear_0 rfl ?_
  refine aw_iconst (v := 0) C dX3_clear_1 (by decide) ?_
  refine aw_putI C dX3_clear_2 kcX3 shB_134 5 (by decide) rfl mF_X3_32 rfl rfl rfl hw (fun G1 hw => ?_)
  refine aw_aloadn C dX3_clear_5 rfl ?_
  refine aw_iconst (v := 0) C dX3_clear_6 (by decide) ?_
  refine aw_putI C dX3_clear_7 kcX3 shB_134 6 (by decide) rfl mF_X3_36 rfl rfl rfl hw (fun G2 hw => ?_)
  exact aw_return C hr dX3_clear_10 ⟨rfl, hw⟩
def w_X3_makeFunction (K : Int32 → Gt → Prop) (p0 : Int32) (G0 : Gt) : Prop :=
  pt (rput G0 136 601 (G0 134 5) p0) fun G1 =>
  pt (gu G1 134 5 ((G1 134 5) + 1)) fun G2 =>
  K ((20000 + (G2 134 5)) - 1) G2
set_option maxHeartbeats 4000000 in
set_option maxRecDepth 100000 in
theorem t_X3_makeFunction {l : Launch}  (p0 : Int32) (G0 : Gt) (K : Int32 → Gt → Prop) (hw : w_X3_makeFunction K p0 G0) : CT0 l yX3_makeFunction cX3_makeFunction 2 (some .int) 1 22 [.ref 134, .int p0] shB G0 (fun r G' => ∃ v, r = some (.int v) ∧ K v G') := by
  refine CT0_of (by decide) (Nat.le_of_ble_eq_true rfl) rfl ?_
  intro p e s m args below meth c D tA ad A C hr _
  unfold w_X3_makeFunction at hw
  show aw p l e { frames := 1, cells := 0, slots := 0, locals := 22 } s m args below meth c 2 D tA A (MQ below (QC0 D tA ad A shB (fun r G' => ∃ v, r = some (.int v) ∧ K v G')) args s 0 0 A) 0 0 ad 0 [some (.ref 134), some (.int p0)] [] shB G0
  refine aw_aloadn C dX3_makeFunction_0 rfl ?_
  refine aw_getR (r := 135) C dX3_makeFunction_1 kcX3 shB_134 0 (by decide) rfl mF_X3_14 ?_
  refine aw_aloadn C dX3_makeFunction_4 rfl ?_
  refine aw_getI C dX3_makeFunction_5 kcX3 shB_134 5 (by decide) rfl mF_X3_32 ?_
  refine aw_iloadn C dX3_makeFunction_8 rfl ?_
  refine aw_callV C dX3_makeFunction_9 (t_put rowB_135 (Nat.le_of_ble_eq_true rfl) (G0 134 5) p0 _) mM_X3_39 bX6_put rowB_135.1 rfl rfl ⟨Nat.le_of_ble_eq_true rfl, Nat.le_of_ble_eq_true rfl, Nat.zero_le _, Nat.zero_le _⟩ _ rfl (Nat.le_of_ble_eq_true rfl) (fun r9 G1 hq => ?_)
  obtain ⟨rfl, hq⟩ := hq
  replace hw := pt_eq hw hq
  refine aw_aloadn C dX3_makeFunction_12 rfl ?_
  refine aw_dup C dX3_makeFunction_13 rfl ?_
  refine aw_getI C dX3_makeFunction_14 kcX3 shB_134 5 (by decide) rfl mF_X3_32 ?_
  refine aw_iconst (v := 1) C dX3_makeFunction_17 (by decide) ?_
  refine aw_iadd C dX3_makeFunction_18 ?_
  refine aw_putI C dX3_makeFunction_19 kcX3 shB_134 5 (by decide) rfl mF_X3_32 rfl rfl rfl hw (fun G2 hw => ?_)
  refine aw_sipush (v := 20000) C dX3_makeFunction_22 (by decide) ?_
  refine aw_aloadn C dX3_makeFunction_25 rfl ?_
  refine aw_getI C dX3_makeFunction_26 kcX3 shB_134 5 (by decide) rfl mF_X3_32 ?_
  refine aw_iadd C dX3_makeFunction_29 ?_
  refine aw_iconst (v := 1) C dX3_makeFunction_30 (by decide) ?_
  refine aw_isub C dX3_makeFunction_31 ?_
  exact aw_ireturn C hr dX3_makeFunction_32 ⟨_, rfl, hw⟩
def w_X3_makeGenerator (K : Int32 → Gt → Prop) (p0 : Int32) (G0 : Gt) : Prop :=
  pt (rput G0 138 601 (G0 134 6) p0) fun G1 =>
  pt (rput G1 140 601 (G1 134 6) 0) fun G2 =>
  pt (gu G2 134 6 ((G2 134 6) + 1)) fun G3 =>
  K ((30000 + (G3 134 6)) - 1) G3
set_option maxHeartbeats 4000000 in
set_option maxRecDepth 100000 in
theorem t_X3_makeGenerator {l : Launch}  (p0 : Int32) (G0 : Gt) (K : Int32 → Gt → Prop) (hw : w_X3_makeGenerator K p0 G0) : CT0 l yX3_makeGenerator cX3_makeGenerator 2 (some .int) 1 22 [.ref 134, .int p0] shB G0 (fun r G' => ∃ v, r = some (.int v) ∧ K v G') := by
  refine CT0_of (by decide) (Nat.le_of_ble_eq_true rfl) rfl ?_
  intro p e s m args below meth c D tA ad A C hr _
  unfold w_X3_makeGenerator at hw
  show aw p l e { frames := 1, cells := 0, slots := 0, locals := 22 } s m args below meth c 2 D tA A (MQ below (QC0 D tA ad A shB (fun r G' => ∃ v, r = some (.int v) ∧ K v G')) args s 0 0 A) 0 0 ad 0 [some (.ref 134), some (.int p0)] [] shB G0
  refine aw_aloadn C dX3_makeGenerator_0 rfl ?_
  refine aw_getR (r := 137) C dX3_makeGenerator_1 kcX3 shB_134 1 (by decide) rfl mF_X3_20 ?_
  refine aw_aloadn C dX3_makeGenerator_4 rfl ?_
  refine aw_getI C dX3_makeGenerator_5 kcX3 shB_134 6 (by decide) rfl mF_X3_36 ?_
  refine aw_iloadn C dX3_makeGenerator_8 rfl ?_
  refine aw_callV C dX3_makeGenerator_9 (t_put rowB_137 (Nat.le_of_ble_eq_true rfl) (G0 134 6) p0 _) mM_X3_39 bX6_put rowB_137.1 rfl rfl ⟨Nat.le_of_ble_eq_true rfl, Nat.le_of_ble_eq_true rfl, Nat.zero_le _, Nat.zero_le _⟩ _ rfl (Nat.le_of_ble_eq_true rfl) (fun r9 G1 hq => ?_)
  obtain ⟨rfl, hq⟩ := hq
  replace hw := pt_eq hw hq
  refine aw_aloadn C dX3_makeGenerator_12 rfl ?_
  refine aw_getR (r := 139) C dX3_makeGenerator_13 kcX3 shB_134 2 (by decide) rfl mF_X3_23 ?_
  refine aw_aloadn C dX3_makeGenerator_16 rfl ?_
  refine aw_getI C dX3_makeGenerator_17 kcX3 shB_134 6 (by decide) rfl mF_X3_36 ?_
  refine aw_iconst (v := 0) C dX3_makeGenerator_20 (by decide) ?_
  refine aw_callV C dX3_makeGenerator_21 (t_put rowB_139 (Nat.le_of_ble_eq_true rfl) (G1 134 6) 0 _) mM_X3_39 bX6_put rowB_139.1 rfl rfl ⟨Nat.le_of_ble_eq_true rfl, Nat.le_of_ble_eq_true rfl, Nat.zero_le _, Nat.zero_le _⟩ _ rfl (Nat.le_of_ble_eq_true rfl) (fun r21 G2 hq => ?_)
  obtain ⟨rfl, hq⟩ := hq
  replace hw := pt_eq hw hq
  refine aw_aloadn C dX3_makeGenerator_24 rfl ?_
  refine aw_dup C dX3_makeGenerator_25 rfl ?_
  refine aw_getI C dX3_makeGenerator_26 kcX3 shB_134 6 (by decide) rfl mF_X3_36 ?_
  refine aw_iconst (v := 1) C dX3_makeGenerator_29 (by decide) ?_
  refine aw_iadd C dX3_makeGenerator_30 ?_
  refine aw_putI C dX3_makeGenerator_31 kcX3 shB_134 6 (by decide) rfl mF_X3_36 rfl rfl rfl hw (fun G3 hw => ?_)
  refine aw_sipush (v := 30000) C dX3_makeGenerator_34 (by decide) ?_
  refine aw_aloadn C dX3_makeGenerator_37 rfl ?_
  refine aw_getI C dX3_makeGenerator_38 kcX3 shB_134 6 (by decide) rfl mF_X3_36 ?_
  refine aw_iadd C dX3_makeGenerator_41 ?_
  refine aw_iconst (v := 1) C dX3_makeGenerator_42 (by decide) ?_
  refine aw_isub C dX3_makeGenerator_43 ?_
  exact aw_ireturn C hr dX3_makeGenerator_44 ⟨_, rfl, hw⟩
def w_X3_isFunction_j24 (K : Int32 → Gt → Prop) (y0 : Int32) (G0 : Gt) : Prop :=
  bz y0 ∧ K y0 G0
def w_X3_isFunction_j23 (K : Int32 → Gt → Prop)  (G0 : Gt) : Prop :=
  w_X3_isFunction_j24 K 0 G0
def w_X3_isFunction (K : Int32 → Gt → Prop) (p0 : Int32) (G0 : Gt) : Prop :=
  pif (p0 < 20000) (
    w_X3_isFunction_j23 K G0) (
    pif ((G0 134 5) ≤ (p0 - 20000)) (
      w_X3_isFunction_j23 K G0) (
      w_X3_isFunction_j24 K 1 G0))
set_option maxHeartbeats 4000000 in
set_option maxRecDepth 100000 in
theorem t_X3_isFunction {l : Launch}  (p0 : Int32) (G0 : Gt) (K : Int32 → Gt → Prop) (hw : w_X3_isFunction K p0 G0) : CT0 l yX3_isFunction cX3_isFunction 2 (some .boolean) 0 0 [.ref 134, .int p0] shB G0 (fun r G' => ∃ v, r = some (.int v) ∧ K v G') := by
  refine CT0_of (by decide) (Nat.le_of_ble_eq_true rfl) rfl ?_
  intro p e s m args below meth c D tA ad A C hr _
  have h24 : ∀ (y0 : Int32) (G0 : Gt), w_X3_isFunction_j24 K y0 G0 → aw p l e { frames := 0, cells := 0, slots := 0, locals := 0 } s m args below meth c 2 D tA A (MQ below (QC0 D tA ad A shB (fun r G' => ∃ v, r = some (.int v) ∧ K v G')) args s 0 0 A) 0 0 ad 24 [none, none] [.int y0] shB G0 := by
    intro  y0 G0 hw
    unfold w_X3_isFunction_j24 at hw
    exact aw_zreturn C hr dX3_isFunction_24 (bz_n hw.1) ⟨_, rfl, hw.2⟩
  have h23 : ∀ (G0 : Gt), w_X3_isFunction_j23 K  G0 → aw p l e { frames := 0, cells := 0, slots := 0, locals := 0 } s m args below meth c 2 D tA A (MQ below (QC0 D tA ad A shB (fun r G' => ∃ v, r = some (.int v) ∧ K v G')) args s 0 0 A) 0 0 ad 23 [none, none] [] shB G0 := by
    intro   G0 hw
    unfold w_X3_isFunction_j23 at hw
    refine aw_iconst (v := 0) C dX3_isFunction_23 (by decide) ?_
    exact aw_msk [false, false] (h24 0 _ hw)
  unfold w_X3_isFunction at hw
  show aw p l e { frames := 0, cells := 0, slots := 0, locals := 0 } s m args below meth c 2 D tA A (MQ below (QC0 D tA ad A shB (fun r G' => ∃ v, r = some (.int v) ∧ K v G')) args s 0 0 A) 0 0 ad 0 [some (.ref 134), some (.int p0)] [] shB G0
  refine aw_iloadn C dX3_isFunction_0 rfl ?_
  refine aw_sipush (v := 20000) C dX3_isFunction_1 (by decide) ?_
  refine aw_ic_lt C dX3_isFunction_4 23 (by decide) hw (fun hc4 hw => ?_) (fun hc4 hw => ?_)
  · exact aw_msk [false, false] (h23 _ hw)
  · refine aw_iloadn C dX3_isFunction_7 rfl ?_
    refine aw_sipush (v := 20000) C dX3_isFunction_8 (by decide) ?_
    refine aw_isub C dX3_isFunction_11 ?_
    refine aw_aloadn C dX3_isFunction_12 rfl ?_
    refine aw_getI C dX3_isFunction_13 kcX3 shB_134 5 (by decide) rfl mF_X3_32 ?_
    refine aw_ic_ge C dX3_isFunction_16 23 (by decide) hw (fun hc16 hw => ?_) (fun hc16 hw => ?_)
    · exact aw_msk [false, false] (h23 _ hw)
    · refine aw_iconst (v := 1) C dX3_isFunction_19 (by decide) ?_
      refine aw_goto (tgt := 24) C dX3_isFunction_20 (by decide) ?_
      exact aw_msk [false, false] (h24 1 _ hw)
def w_X3_isGenerator_j24 (K : Int32 → Gt → Prop) (y0 : Int32) (G0 : Gt) : Prop :=
  bz y0 ∧ K y0 G0
def w_X3_isGenerator_j23 (K : Int32 → Gt → Prop)  (G0 : Gt) : Prop :=
  w_X3_isGenerator_j24 K 0 G0
def w_X3_isGenerator (K : Int32 → Gt → Prop) (p0 : Int32) (G0 : Gt) : Prop :=
  pif (p0 < 30000) (
    w_X3_isGenerator_j23 K G0) (
    pif ((G0 134 6) ≤ (p0 - 30000)) (
      w_X3_isGenerator_j23 K G0) (
      w_X3_isGenerator_j24 K 1 G0))
set_option maxHeartbeats 4000000 in
set_option maxRecDepth 100000 in
theorem t_X3_isGenerator {l : Launch}  (p0 : Int32) (G0 : Gt) (K : Int32 → Gt → Prop) (hw : w_X3_isGenerator K p0 G0) : CT0 l yX3_isGenerator cX3_isGenerator 2 (some .boolean) 0 0 [.ref 134, .int p0] shB G0 (fun r G' => ∃ v, r = some (.int v) ∧ K v G') := by
  refine CT0_of (by decide) (Nat.le_of_ble_eq_true rfl) rfl ?_
  intro p e s m args below meth c D tA ad A C hr _
  have h24 : ∀ (y0 : Int32) (G0 : Gt), w_X3_isGenerator_j24 K y0 G0 → aw p l e { frames := 0, cells := 0, slots := 0, locals := 0 } s m args below meth c 2 D tA A (MQ below (QC0 D tA ad A shB (fun r G' => ∃ v, r = some (.int v) ∧ K v G')) args s 0 0 A) 0 0 ad 24 [none, none] [.int y0] shB G0 := by
    intro  y0 G0 hw
    unfold w_X3_isGenerator_j24 at hw
    exact aw_zreturn C hr dX3_isGenerator_24 (bz_n hw.1) ⟨_, rfl, hw.2⟩
  have h23 : ∀ (G0 : Gt), w_X3_isGenerator_j23 K  G0 → aw p l e { frames := 0, cells := 0, slots := 0, locals := 0 } s m args below meth c 2 D tA A (MQ below (QC0 D tA ad A shB (fun r G' => ∃ v, r = some (.int v) ∧ K v G')) args s 0 0 A) 0 0 ad 23 [none, none] [] shB G0 := by
    intro   G0 hw
    unfold w_X3_isGenerator_j23 at hw
    refine aw_iconst (v := 0) C dX3_isGenerator_23 (by decide) ?_
    exact aw_msk [false, false] (h24 0 _ hw)
  unfold w_X3_isGenerator at hw
  show aw p l e { frames := 0, cells := 0, slots := 0, locals := 0 } s m args below meth c 2 D tA A (MQ below (QC0 D tA ad A shB (fun r G' => ∃ v, r = some (.int v) ∧ K v G')) args s 0 0 A) 0 0 ad 0 [some (.ref 134), some (.int p0)] [] shB G0
  refine aw_iloadn C dX3_isGenerator_0 rfl ?_
  refine aw_sipush (v := 30000) C dX3_isGenerator_1 (by decide) ?_
  refine aw_ic_lt C dX3_isGenerator_4 23 (by decide) hw (fun hc4 hw => ?_) (fun hc4 hw => ?_)
  · exact aw_msk [false, false] (h23 _ hw)
  · refine aw_iloadn C dX3_isGenerator_7 rfl ?_
    refine aw_sipush (v := 30000) C dX3_isGenerator_8 (by decide) ?_
    refine aw_isub C dX3_isGenerator_11 ?_
    refine aw_aloadn C dX3_isGenerator_12 rfl ?_
    refine aw_getI C dX3_isGenerator_13 kcX3 shB_134 6 (by decide) rfl mF_X3_36 ?_
    refine aw_ic_ge C dX3_isGenerator_16 23 (by decide) hw (fun hc16 hw => ?_) (fun hc16 hw => ?_)
    · exact aw_msk [false, false] (h23 _ hw)
    · refine aw_iconst (v := 1) C dX3_isGenerator_19 (by decide) ?_
      refine aw_goto (tgt := 24) C dX3_isGenerator_20 (by decide) ?_
      exact aw_msk [false, false] (h24 1 _ hw)
def w_X3_functionMaker (K : Int32 → Gt → Prop) (p0 : Int32) (G0 : Gt) : Prop :=
  K (rat G0 136 601 (p0 - 20000)) G0
set_option maxHeartbeats 4000000 in
set_option maxRecDepth 100000 in
theorem t_X3_functionMaker {l : Launch}  (p0 : Int32) (G0 : Gt) (K : Int32 → Gt → Prop) (hw : w_X3_functionMaker K p0 G0) : CT0 l yX3_functionMaker cX3_functionMaker 2 (some .int) 1 21 [.ref 134, .int p0] shB G0 (fun r G' => ∃ v, r = some (.int v) ∧ K v G') := by
  refine CT0_of (by decide) (Nat.le_of_ble_eq_true rfl) rfl ?_
  intro p e s m args below meth c D tA ad A C hr _
  unfold w_X3_functionMaker at hw
  show aw p l e { frames := 1, cells := 0, slots := 0, locals := 21 } s m args below meth c 2 D tA A (MQ below (QC0 D tA ad A shB (fun r G' => ∃ v, r = some (.int v) ∧ K v G')) args s 0 0 A) 0 0 ad 0 [some (.ref 134), some (.int p0)] [] shB G0
  refine aw_aloadn C dX3_functionMaker_0 rfl ?_
  refine aw_getR (r := 135) C dX3_functionMaker_1 kcX3 shB_134 0 (by decide) rfl mF_X3_14 ?_
  refine aw_iloadn C dX3_functionMaker_4 rfl ?_
  refine aw_sipush (v := 20000) C dX3_functionMaker_5 (by decide) ?_
  refine aw_isub C dX3_functionMaker_8 ?_
  refine aw_callV C dX3_functionMaker_9 (t_at rowB_135 (Nat.le_of_ble_eq_true rfl) (p0 - 20000) _) mM_X3_42 bX6_at rowB_135.1 rfl rfl ⟨Nat.le_of_ble_eq_true rfl, Nat.le_of_ble_eq_true rfl, Nat.zero_le _, Nat.zero_le _⟩ _ rfl (Nat.le_of_ble_eq_true rfl) (fun r9 G9x hq => ?_)
  obtain ⟨rfl, rfl⟩ := hq
  exact aw_ireturn C hr dX3_functionMaker_12 ⟨_, rfl, hw⟩
def w_X3_generatorMaker (K : Int32 → Gt → Prop) (p0 : Int32) (G0 : Gt) : Prop :=
  K (rat G0 138 601 p0) G0
set_option maxHeartbeats 4000000 in
set_option maxRecDepth 100000 in
theorem t_X3_generatorMaker {l : Launch}  (p0 : Int32) (G0 : Gt) (K : Int32 → Gt → Prop) (hw : w_X3_generatorMaker K p0 G0) : CT0 l yX3_generatorMaker cX3_generatorMaker 2 (some .int) 1 21 [.ref 134, .int p0] shB G0 (fun r G' => ∃ v, r = some (.int v) ∧ K v G') := by
  refine CT0_of (by decide) (Nat.le_of_ble_eq_true rfl) rfl ?_
  intro p e s m args below meth c D tA ad A C hr _
  unfold w_X3_generatorMaker at hw
  show aw p l e { frames := 1, cells := 0, slots := 0, locals := 21 } s m args below meth c 2 D tA A (MQ below (QC0 D tA ad A shB (fun r G' => ∃ v, r = some (.int v) ∧ K v G')) args s 0 0 A) 0 0 ad 0 [some (.ref 134), some (.int p0)] [] shB G0
  refine aw_aloadn C dX3_generatorMaker_0 rfl ?_
  refine aw_getR (r := 137) C dX3_generatorMaker_1 kcX3 shB_134 1 (by decide) rfl mF_X3_20 ?_
  refine aw_iloadn C dX3_generatorMaker_4 rfl ?_
  refine aw_callV C dX3_generatorMaker_5 (t_at rowB_137 (Nat.le_of_ble_eq_true rfl) p0 _) mM_X3_42 bX6_at rowB_137.1 rfl rfl ⟨Nat.le_of_ble_eq_true rfl, Nat.le_of_ble_eq_true rfl, Nat.zero_le _, Nat.zero_le _⟩ _ rfl (Nat.le_of_ble_eq_true rfl) (fun r5 G5x hq => ?_)
  obtain ⟨rfl, rfl⟩ := hq
  exact aw_ireturn C hr dX3_generatorMaker_8 ⟨_, rfl, hw⟩
def w_X3_lowestResting_h2 (K : Int32 → Gt → Prop) : Nat → Int32 → Gt → Prop
  | 0, _, _ => False
  | n + 1, x1, G0 =>
    pif ((G0 134 6) ≤ x1) (
      K (-1) G0) (
      pif ((rat G0 140 601 x1) = 1) (
        K x1 G0) (
        (w_X3_lowestResting_h2 K n) (x1 + 1) G0))
def w_X3_lowestResting (K : Int32 → Gt → Prop) (G0 : Gt) : Prop :=
  ∃ i, w_X3_lowestResting_h2 K i 0 G0
set_option maxHeartbeats 4000000 in
set_option maxRecDepth 100000 in
theorem t_X3_lowestResting {l : Launch}  (G0 : Gt) (K : Int32 → Gt → Prop) (hw : w_X3_lowestResting K G0) : CT0 l yX3_lowestResting cX3_lowestResting 2 (some .int) 1 21 [.ref 134] shB G0 (fun r G' => ∃ v, r = some (.int v) ∧ K v G') := by
  refine CT0_of (by decide) (Nat.le_of_ble_eq_true rfl) rfl ?_
  intro p e s m args below meth c D tA ad A C hr _
  have h2 : ∀ (n : Nat) (x1 : Int32) (G0 : Gt), w_X3_lowestResting_h2 K n x1 G0 → aw p l e { frames := 1, cells := 0, slots := 0, locals := 21 } s m args below meth c 2 D tA A (MQ below (QC0 D tA ad A shB (fun r G' => ∃ v, r = some (.int v) ∧ K v G')) args s 0 0 A) 0 0 ad 2 [some (.ref 134), some (.int x1)] [] shB G0 := by
    intro  n
    induction n with
    | zero => intro x1 G0 hw; exact hw.elim
    | succ n ih =>
      intro x1 G0 hw
      rw [w_X3_lowestResting_h2] at hw
      refine aw_iloadn C dX3_lowestResting_2 rfl ?_
      refine aw_aloadn C dX3_lowestResting_3 rfl ?_
      refine aw_getI C dX3_lowestResting_4 kcX3 shB_134 6 (by decide) rfl mF_X3_36 ?_
      refine aw_ic_ge C dX3_lowestResting_7 30 (by decide) hw (fun hc7 hw => ?_) (fun hc7 hw => ?_)
      · refine aw_iconst (v := (-1)) C dX3_lowestResting_30 (by decide) ?_
        exact aw_ireturn C hr dX3_lowestResting_31 ⟨_, rfl, hw⟩
      · refine aw_aloadn C dX3_lowestResting_10 rfl ?_
        refine aw_getR (r := 139) C dX3_lowestResting_11 kcX3 shB_134 2 (by decide) rfl mF_X3_23 ?_
        refine aw_iloadn C dX3_lowestResting_14 rfl ?_
        refine aw_callV C dX3_lowestResting_15 (t_at rowB_139 (Nat.le_of_ble_eq_true rfl) x1 _) mM_X3_42 bX6_at rowB_139.1 rfl rfl ⟨Nat.le_of_ble_eq_true rfl, Nat.le_of_ble_eq_true rfl, Nat.zero_le _, Nat.zero_le _⟩ _ rfl (Nat.le_of_ble_eq_true rfl) (fun r15 G15x hq => ?_)
        obtain ⟨rfl, rfl⟩ := hq
        refine aw_iconst (v := 1) C dX3_lowestResting_18 (by decide) ?_
        refine aw_ic_ne C dX3_lowestResting_19 24 (by decide) hw (fun hc19 hw => ?_) (fun hc19 hw => ?_)
        · refine aw_iinc (w := (x1 + 1)) C dX3_lowestResting_24 rfl rfl (by decide) rfl ?_
          refine aw_goto (tgt := 2) C dX3_lowestResting_27 (by decide) ?_
          exact aw_msk [true, true] (ih (x1 + 1) _ hw)
        · refine aw_iloadn C dX3_lowestResting_22 rfl ?_
          exact aw_ireturn C hr dX3_lowestResting_23 ⟨_, rfl, hw⟩
  unfold w_X3_lowestResting at hw
  show aw p l e { frames := 1, cells := 0, slots := 0, locals := 21 } s m args below meth c 2 D tA A (MQ below (QC0 D tA ad A shB (fun r G' => ∃ v, r = some (.int v) ∧ K v G')) args s 0 0 A) 0 0 ad 0 [some (.ref 134), none] [] shB G0
  refine aw_iconst (v := 0) C dX3_lowestResting_0 (by decide) ?_
  refine aw_istoren C dX3_lowestResting_1 (by decide) rfl ?_
  obtain ⟨n0, hw⟩ := hw
  exact aw_msk [true, true] (h2 n0 0 _ hw)
def w_X5_push (q : Nat) (K : Gt → Prop) (p0 : Int32) (G0 : Gt) : Prop :=
  pt (rput G0 (q + 2) 13 (G0 q 3) p0) fun G1 =>
  pt (gu G1 q 3 ((G1 q 3) + 1)) fun G2 =>
  K G2
set_option maxHeartbeats 4000000 in
set_option maxRecDepth 100000 in
theorem t_X5_push {l : Launch} {sh : Sh} {q : Nat} (hQ : isReport sh q) (p0 : Int32) (G0 : Gt) (K : Gt → Prop) (hw : w_X5_push q K p0 G0) : CT0 l yX5_push cX5_push 2 none 1 22 [.ref q, .int p0] sh G0 (fun r G' => r = none ∧ K G') := by
  refine CT0_of (by decide) (Nat.le_of_ble_eq_true rfl) rfl ?_
  intro p e s m args below meth c D tA ad A C hr _
  unfold w_X5_push at hw
  show aw p l e { frames := 1, cells := 0, slots := 0, locals := 22 } s m args below meth c 2 D tA A (MQ below (QC0 D tA ad A sh (fun r G' => r = none ∧ K G')) args s 0 0 A) 0 0 ad 0 [some (.ref q), some (.int p0)] [] sh G0
  refine aw_aloadn C dX5_push_0 rfl ?_
  refine aw_getR (r := (q + 1)) C dX5_push_1 kcX5 hQ.1 4 (by decide) rfl mF_X5_21 ?_
  refine aw_aloadn C dX5_push_4 rfl ?_
  refine aw_getI C dX5_push_5 kcX5 hQ.1 3 (by decide) rfl mF_X5_25 ?_
  refine aw_iloadn C dX5_push_8 rfl ?_
  refine aw_callV C dX5_push_9 (t_put hQ.2 (Nat.le_of_ble_eq_true rfl) (G0 q 3) p0 _) mM_X5_28 bX6_put hQ.2.1 rfl rfl ⟨Nat.le_of_ble_eq_true rfl, Nat.le_of_ble_eq_true rfl, Nat.zero_le _, Nat.zero_le _⟩ _ rfl (Nat.le_of_ble_eq_true rfl) (fun r9 G1 hq => ?_)
  obtain ⟨rfl, hq⟩ := hq
  replace hw := pt_eq hw hq
  refine aw_aloadn C dX5_push_12 rfl ?_
  refine aw_dup C dX5_push_13 rfl ?_
  refine aw_getI C dX5_push_14 kcX5 hQ.1 3 (by decide) rfl mF_X5_25 ?_
  refine aw_iconst (v := 1) C dX5_push_17 (by decide) ?_
  refine aw_iadd C dX5_push_18 ?_
  refine aw_putI C dX5_push_19 kcX5 hQ.1 3 (by decide) rfl mF_X5_25 rfl rfl rfl hw (fun G2 hw => ?_)
  exact aw_return C hr dX5_push_22 ⟨rfl, hw⟩
