def w_X4_choose_j18 (K : Int32 → Gt → Prop) (y0 : Int32) (G0 : Gt) : Prop :=
  K y0 G0
def w_X4_choose (K : Int32 → Gt → Prop) (p0 : Int32) (p1 : Int32) (p2 : Int32) (p3 : Int32) (G0 : Gt) : Prop :=
  pif (p0 = 0) (
    w_X4_choose_j18 K p1 G0) (
    pif (p0 = 1) (
      w_X4_choose_j18 K p2 G0) (
      w_X4_choose_j18 K p3 G0))
set_option maxHeartbeats 4000000 in
set_option maxRecDepth 100000 in
theorem t_X4_choose {l : Launch} {sh : Sh}  (p0 : Int32) (p1 : Int32) (p2 : Int32) (p3 : Int32) (G0 : Gt) (K : Int32 → Gt → Prop) (hw : w_X4_choose K p0 p1 p2 p3 G0) : CT0 l yX4_choose cX4_choose 4 (some .int) 0 0 [.int p0, .int p1, .int p2, .int p3] sh G0 (fun r G' => ∃ v, r = some (.int v) ∧ K v G') := by
  refine CT0_of (by decide) (Nat.le_of_ble_eq_true rfl) rfl ?_
  intro p e s m args below meth c D tA ad A C hr _
  have h18 : ∀ (y0 : Int32) (G0 : Gt), w_X4_choose_j18 K y0 G0 → aw p l e { frames := 0, cells := 0, slots := 0, locals := 0 } s m args below meth c 4 D tA A (MQ below (QC0 D tA ad A sh (fun r G' => ∃ v, r = some (.int v) ∧ K v G')) args s 0 0 A) 0 0 ad 18 [none, none, none, none] [.int y0] sh G0 := by
    intro  y0 G0 hw
    unfold w_X4_choose_j18 at hw
    exact aw_ireturn C hr dX4_choose_18 ⟨_, rfl, hw⟩
  unfold w_X4_choose at hw
  show aw p l e { frames := 0, cells := 0, slots := 0, locals := 0 } s m args below meth c 4 D tA A (MQ below (QC0 D tA ad A sh (fun r G' => ∃ v, r = some (.int v) ∧ K v G')) args s 0 0 A) 0 0 ad 0 [some (.int p0), some (.int p1), some (.int p2), some (.int p3)] [] sh G0
  refine aw_iloadn C dX4_choose_0 rfl ?_
  refine aw_if_ne C dX4_choose_1 8 (by decide) hw (fun hc1 hw => ?_) (fun hc1 hw => ?_)
  · refine aw_iloadn C dX4_choose_8 rfl ?_
    refine aw_iconst (v := 1) C dX4_choose_9 (by decide) ?_
    refine aw_ic_ne C dX4_choose_10 17 (by decide) hw (fun hc10 hw => ?_) (fun hc10 hw => ?_)
    · refine aw_iloadn C dX4_choose_17 rfl ?_
      exact aw_msk [false, false, false, false] (h18 p3 _ hw)
    · refine aw_iloadn C dX4_choose_13 rfl ?_
      refine aw_goto (tgt := 18) C dX4_choose_14 (by decide) ?_
      exact aw_msk [false, false, false, false] (h18 p2 _ hw)
  · refine aw_iloadn C dX4_choose_4 rfl ?_
    refine aw_goto (tgt := 18) C dX4_choose_5 (by decide) ?_
    exact aw_msk [false, false, false, false] (h18 p1 _ hw)
def w_X4_has (K : Int32 → Gt → Prop) (p0 : Int32) (G0 : Gt) : Prop :=
  bz (ibl p0 (G0 1 7)) ∧ K (ibl p0 (G0 1 7)) G0
set_option maxHeartbeats 4000000 in
set_option maxRecDepth 100000 in
theorem t_X4_has {l : Launch} {sh : Sh} (S : shOK sh) (p0 : Int32) (G0 : Gt) (K : Int32 → Gt → Prop) (hw : w_X4_has K p0 G0) : CT0 l yX4_has cX4_has 2 (some .boolean) 1 21 [.ref 1, .int p0] sh G0 (fun r G' => ∃ v, r = some (.int v) ∧ K v G') := by
  refine CT0_of (by decide) (Nat.le_of_ble_eq_true rfl) rfl ?_
  intro p e s m args below meth c D tA ad A C hr _
  unfold w_X4_has at hw
  show aw p l e { frames := 1, cells := 0, slots := 0, locals := 21 } s m args below meth c 2 D tA A (MQ below (QC0 D tA ad A sh (fun r G' => ∃ v, r = some (.int v) ∧ K v G')) args s 0 0 A) 0 0 ad 0 [some (.ref 1), some (.int p0)] [] sh G0
  refine aw_iloadn C dX4_has_0 rfl ?_
  refine aw_aloadn C dX4_has_1 rfl ?_
  refine aw_getI C dX4_has_2 kcX4 (sA_1 S) 7 (by decide) rfl mF_X4_42 ?_
  refine aw_callSN C dX4_has_5 (t_isBelow p0 (G0 1 7) _) mE_X4_46 bX10_isBelow rfl ⟨Nat.le_of_ble_eq_true rfl, Nat.le_of_ble_eq_true rfl, Nat.zero_le _, Nat.zero_le _⟩ _ rfl (Nat.le_of_ble_eq_true rfl) (fun r5 G5x hq => ?_)
  obtain ⟨rfl, rfl⟩ := hq
  exact aw_zreturn C hr dX4_has_8 (bz_n hw.1) ⟨_, rfl, hw.2⟩
def w_X4_fits_j91 (K : Int32 → Gt → Prop) (y0 : Int32) (G0 : Gt) : Prop :=
  bz y0 ∧ K y0 G0
def w_X4_fits_j86 (K : Int32 → Gt → Prop)  (G0 : Gt) : Prop :=
  w_X4_fits_j91 K 1 G0
def w_X4_fits_j74 (K : Int32 → Gt → Prop) (y0 : Int32) (G0 : Gt) : Prop :=
  bz y0 ∧ K y0 G0
def w_X4_fits_j69 (K : Int32 → Gt → Prop)  (G0 : Gt) : Prop :=
  w_X4_fits_j74 K 1 G0
def w_X4_fits (K : Int32 → Gt → Prop) (p0 : Int32) (p1 : Int32) (G0 : Gt) : Prop :=
  pif (p0 = 118) (
    bz (inm p1) ∧ K (inm p1) G0) (
    pif (p0 = 110) (
      bz (ibl p1 8) ∧ K (ibl p1 8) G0) (
      pif (p0 = 113) (
        bz (ibl p1 4) ∧ K (ibl p1 4) G0) (
        pif (p0 = 115) (
          bz (ibl p1 6) ∧ K (ibl p1 6) G0) (
          pif (p0 = 104) (
            pif (p1 = (-1)) (
              w_X4_fits_j69 K G0) (
              pif ((ibl p1 6) = 0) (
                w_X4_fits_j74 K 0 G0) (
                w_X4_fits_j69 K G0))) (
            pif (p0 = 45) (
              pif (p1 = (-1)) (
                w_X4_fits_j86 K G0) (
                w_X4_fits_j91 K 0 G0)) (
              w_X4_fits_j86 K G0))))))
set_option maxHeartbeats 4000000 in
set_option maxRecDepth 100000 in
theorem t_X4_fits {l : Launch} {sh : Sh}  (p0 : Int32) (p1 : Int32) (G0 : Gt) (K : Int32 → Gt → Prop) (hw : w_X4_fits K p0 p1 G0) : CT0 l yX4_fits cX4_fits 2 (some .boolean) 1 21 [.int p0, .int p1] sh G0 (fun r G' => ∃ v, r = some (.int v) ∧ K v G') := by
  refine CT0_of (by decide) (Nat.le_of_ble_eq_true rfl) rfl ?_
  intro p e s m args below meth c D tA ad A C hr _
  have h91 : ∀ (y0 : Int32) (G0 : Gt), w_X4_fits_j91 K y0 G0 → aw p l e { frames := 1, cells := 0, slots := 0, locals := 21 } s m args below meth c 2 D tA A (MQ below (QC0 D tA ad A sh (fun r G' => ∃ v, r = some (.int v) ∧ K v G')) args s 0 0 A) 0 0 ad 91 [none, none] [.int y0] sh G0 := by
    intro  y0 G0 hw
    unfold w_X4_fits_j91 at hw
    exact aw_zreturn C hr dX4_fits_91 (bz_n hw.1) ⟨_, rfl, hw.2⟩
  have h86 : ∀ (G0 : Gt), w_X4_fits_j86 K  G0 → aw p l e { frames := 1, cells := 0, slots := 0, locals := 21 } s m args below meth c 2 D tA A (MQ below (QC0 D tA ad A sh (fun r G' => ∃ v, r = some (.int v) ∧ K v G')) args s 0 0 A) 0 0 ad 86 [none, none] [] sh G0 := by
    intro   G0 hw
    unfold w_X4_fits_j86 at hw
    refine aw_iconst (v := 1) C dX4_fits_86 (by decide) ?_
    refine aw_goto (tgt := 91) C dX4_fits_87 (by decide) ?_
    exact aw_msk [false, false] (h91 1 _ hw)
  have h74 : ∀ (y0 : Int32) (G0 : Gt), w_X4_fits_j74 K y0 G0 → aw p l e { frames := 1, cells := 0, slots := 0, locals := 21 } s m args below meth c 2 D tA A (MQ below (QC0 D tA ad A sh (fun r G' => ∃ v, r = some (.int v) ∧ K v G')) args s 0 0 A) 0 0 ad 74 [none, none] [.int y0] sh G0 := by
    intro  y0 G0 hw
    unfold w_X4_fits_j74 at hw
    exact aw_zreturn C hr dX4_fits_74 (bz_n hw.1) ⟨_, rfl, hw.2⟩
  have h69 : ∀ (G0 : Gt), w_X4_fits_j69 K  G0 → aw p l e { frames := 1, cells := 0, slots := 0, locals := 21 } s m args below meth c 2 D tA A (MQ below (QC0 D tA ad A sh (fun r G' => ∃ v, r = some (.int v) ∧ K v G')) args s 0 0 A) 0 0 ad 69 [none, none] [] sh G0 := by
    intro   G0 hw
    unfold w_X4_fits_j69 at hw
    refine aw_iconst (v := 1) C dX4_fits_69 (by decide) ?_
    refine aw_goto (tgt := 74) C dX4_fits_70 (by decide) ?_
    exact aw_msk [false, false] (h74 1 _ hw)
  unfold w_X4_fits at hw
  show aw p l e { frames := 1, cells := 0, slots := 0, locals := 21 } s m args below meth c 2 D tA A (MQ below (QC0 D tA ad A sh (fun r G' => ∃ v, r = some (.int v) ∧ K v G')) args s 0 0 A) 0 0 ad 0 [some (.int p0), some (.int p1)] [] sh G0
  refine aw_iloadn C dX4_fits_0 rfl ?_
  refine aw_bipush (v := 118) C dX4_fits_1 (by decide) ?_
  refine aw_ic_ne C dX4_fits_3 11 (by decide) hw (fun hc3 hw => ?_) (fun hc3 hw => ?_)
  · refine aw_iloadn C dX4_fits_11 rfl ?_
    refine aw_bipush (v := 110) C dX4_fits_12 (by decide) ?_
    refine aw_ic_ne C dX4_fits_14 24 (by decide) hw (fun hc14 hw => ?_) (fun hc14 hw => ?_)
    · refine aw_iloadn C dX4_fits_24 rfl ?_
      refine aw_bipush (v := 113) C dX4_fits_25 (by decide) ?_
      refine aw_ic_ne C dX4_fits_27 36 (by decide) hw (fun hc27 hw => ?_) (fun hc27 hw => ?_)
      · refine aw_iloadn C dX4_fits_36 rfl ?_
        refine aw_bipush (v := 115) C dX4_fits_37 (by decide) ?_
        refine aw_ic_ne C dX4_fits_39 49 (by decide) hw (fun hc39 hw => ?_) (fun hc39 hw => ?_)
        · refine aw_iloadn C dX4_fits_49 rfl ?_
          refine aw_bipush (v := 104) C dX4_fits_50 (by decide) ?_
          refine aw_ic_ne C dX4_fits_52 75 (by decide) hw (fun hc52 hw => ?_) (fun hc52 hw => ?_)
          · refine aw_iloadn C dX4_fits_75 rfl ?_
            refine aw_bipush (v := 45) C dX4_fits_76 (by decide) ?_
            refine aw_ic_ne C dX4_fits_78 86 (by decide) hw (fun hc78 hw => ?_) (fun hc78 hw => ?_)
            · exact aw_msk [false, false] (h86 _ hw)
            · refine aw_iloadn C dX4_fits_81 rfl ?_
              refine aw_iconst (v := (-1)) C dX4_fits_82 (by decide) ?_
              refine aw_ic_ne C dX4_fits_83 90 (by decide) hw (fun hc83 hw => ?_) (fun hc83 hw => ?_)
              · refine aw_iconst (v := 0) C dX4_fits_90 (by decide) ?_
                exact aw_msk [false, false] (h91 0 _ hw)
              · exact aw_msk [false, false] (h86 _ hw)
          · refine aw_iloadn C dX4_fits_55 rfl ?_
            refine aw_iconst (v := (-1)) C dX4_fits_56 (by decide) ?_
            refine aw_ic_eq C dX4_fits_57 69 (by decide) hw (fun hc57 hw => ?_) (fun hc57 hw => ?_)
            · exact aw_msk [false, false] (h69 _ hw)
            · refine aw_iloadn C dX4_fits_60 rfl ?_
              refine aw_bipush (v := 6) C dX4_fits_61 (by decide) ?_
              refine aw_callSN C dX4_fits_63 (t_isBelow p1 6 _) mE_X4_46 bX10_isBelow rfl ⟨Nat.le_of_ble_eq_true rfl, Nat.le_of_ble_eq_true rfl, Nat.zero_le _, Nat.zero_le _⟩ _ rfl (Nat.le_of_ble_eq_true rfl) (fun r63 G63x hq => ?_)
              obtain ⟨rfl, rfl⟩ := hq
              refine aw_if_eq C dX4_fits_66 73 (by decide) hw (fun hc66 hw => ?_) (fun hc66 hw => ?_)
              · refine aw_iconst (v := 0) C dX4_fits_73 (by decide) ?_
                exact aw_msk [false, false] (h74 0 _ hw)
              · exact aw_msk [false, false] (h69 _ hw)
        · refine aw_iloadn C dX4_fits_42 rfl ?_
          refine aw_bipush (v := 6) C dX4_fits_43 (by decide) ?_
          refine aw_callSN C dX4_fits_45 (t_isBelow p1 6 _) mE_X4_46 bX10_isBelow rfl ⟨Nat.le_of_ble_eq_true rfl, Nat.le_of_ble_eq_true rfl, Nat.zero_le _, Nat.zero_le _⟩ _ rfl (Nat.le_of_ble_eq_true rfl) (fun r45 G45x hq => ?_)
          obtain ⟨rfl, rfl⟩ := hq
          exact aw_zreturn C hr dX4_fits_48 (bz_n hw.1) ⟨_, rfl, hw.2⟩
      · refine aw_iloadn C dX4_fits_30 rfl ?_
        refine aw_iconst (v := 4) C dX4_fits_31 (by decide) ?_
        refine aw_callSN C dX4_fits_32 (t_isBelow p1 4 _) mE_X4_46 bX10_isBelow rfl ⟨Nat.le_of_ble_eq_true rfl, Nat.le_of_ble_eq_true rfl, Nat.zero_le _, Nat.zero_le _⟩ _ rfl (Nat.le_of_ble_eq_true rfl) (fun r32 G32x hq => ?_)
        obtain ⟨rfl, rfl⟩ := hq
        exact aw_zreturn C hr dX4_fits_35 (bz_n hw.1) ⟨_, rfl, hw.2⟩
    · refine aw_iloadn C dX4_fits_17 rfl ?_
      refine aw_bipush (v := 8) C dX4_fits_18 (by decide) ?_
      refine aw_callSN C dX4_fits_20 (t_isBelow p1 8 _) mE_X4_46 bX10_isBelow rfl ⟨Nat.le_of_ble_eq_true rfl, Nat.le_of_ble_eq_true rfl, Nat.zero_le _, Nat.zero_le _⟩ _ rfl (Nat.le_of_ble_eq_true rfl) (fun r20 G20x hq => ?_)
      obtain ⟨rfl, rfl⟩ := hq
      exact aw_zreturn C hr dX4_fits_23 (bz_n hw.1) ⟨_, rfl, hw.2⟩
  · refine aw_iloadn C dX4_fits_6 rfl ?_
    refine aw_callSN C dX4_fits_7 (t_isNumber p1 _) mE_X4_78 bX10_isNumber rfl ⟨Nat.le_of_ble_eq_true rfl, Nat.le_of_ble_eq_true rfl, Nat.zero_le _, Nat.zero_le _⟩ _ rfl (Nat.le_of_ble_eq_true rfl) (fun r7 G7x hq => ?_)
    obtain ⟨rfl, rfl⟩ := hq
    exact aw_zreturn C hr dX4_fits_10 (bz_n hw.1) ⟨_, rfl, hw.2⟩
def w_X4_sizeWith_j75 (K : Int32 → Gt → Prop) (rec6 : Int32 → Int32 → Int32 → Int32 → Int32 → Int32 → Gt → Prop) (x1 : Int32) (x2 : Int32) (x3 : Int32) (x4 : Int32) (x5 : Int32) (x6 : Int32) (G0 : Gt) : Prop :=
  rec6 x1 x2 x3 x4 x5 (x6 + 1) G0
def w_X4_sizeWith_j46 (K : Int32 → Gt → Prop) (rec6 : Int32 → Int32 → Int32 → Int32 → Int32 → Int32 → Gt → Prop) (x1 : Int32) (x2 : Int32) (x3 : Int32) (x4 : Int32) (x5 : Int32) (x6 : Int32) (x8 : Int32) (G0 : Gt) : Prop :=
  pif (x1 = 38) (
    w_X4_sizeWith_j75 K rec6 x1 x2 x3 x4 x5 x6 G0) (
    w_X4_has (fun v4 G3 =>
      pif (v4 = 0) (
        w_X4_sizeWith_j75 K rec6 x1 x2 x3 x4 x5 x6 G3) (
        w_X4_sizeWith_j75 K rec6 x1 x2 x3 x4 (x5 + (rat G3 9 120 x8)) x6 G3)) x8 G0)
def w_X4_sizeWith_h6 (K : Int32 → Gt → Prop) : Nat → Int32 → Int32 → Int32 → Int32 → Int32 → Int32 → Gt → Prop
  | 0, _, _, _, _, _, _, _ => False
  | n + 1, x1, x2, x3, x4, x5, x6, G0 =>
    pif (3 ≤ x6) (
      K x5 G0) (
      w_X4_choose (fun v2 G1 =>
        pif ((shp x1 x6 x3) = 112) (
          w_X4_sizeWith_j46 K (fun z0 z1 z2 z3 z4 z5 z6 => w_X4_sizeWith_h6 K n z0 z1 z2 z3 z4 z5 z6) x1 x2 x3 x4 x5 x6 v2 G1) (
          pif ((shp x1 x6 x3) = 111) (
            w_X4_sizeWith_j46 K (fun z0 z1 z2 z3 z4 z5 z6 => w_X4_sizeWith_h6 K n z0 z1 z2 z3 z4 z5 z6) x1 x2 x3 x4 x5 x6 v2 G1) (
            w_X4_sizeWith_j75 K (fun z0 z1 z2 z3 z4 z5 z6 => w_X4_sizeWith_h6 K n z0 z1 z2 z3 z4 z5 z6) x1 x2 x3 x4 x5 x6 G1))) x6 x2 x3 x4 G0)
def w_X4_sizeWith (K : Int32 → Gt → Prop) (p0 : Int32) (p1 : Int32) (p2 : Int32) (p3 : Int32) (G0 : Gt) : Prop :=
  ∃ i, w_X4_sizeWith_h6 K i p0 p1 p2 p3 1 0 G0
set_option maxHeartbeats 4000000 in
set_option maxRecDepth 100000 in
theorem t_X4_sizeWith {l : Launch} {sh : Sh} (S : shOK sh) (p0 : Int32) (p1 : Int32) (p2 : Int32) (p3 : Int32) (G0 : Gt) (K : Int32 → Gt → Prop) (hw : w_X4_sizeWith K p0 p1 p2 p3 G0) : CT0 l yX4_sizeWith cX4_sizeWith 9 (some .int) 5 109 [.ref 1, .int p0, .int p1, .int p2, .int p3] sh G0 (fun r G' => ∃ v, r = some (.int v) ∧ K v G') := by
  refine CT0_of (by decide) (Nat.le_of_ble_eq_true rfl) rfl ?_
  intro p e s m args below meth c D tA ad A C hr _
  have h75 : ∀ (rec6 : Int32 → Int32 → Int32 → Int32 → Int32 → Int32 → Gt → Prop) (hrec6 : ∀ (x1 : Int32) (x2 : Int32) (x3 : Int32) (x4 : Int32) (x5 : Int32) (x6 : Int32) (G0 : Gt), rec6 x1 x2 x3 x4 x5 x6 G0 → aw p l e { frames := 5, cells := 0, slots := 0, locals := 109 } s m args below meth c 9 D tA A (MQ below (QC0 D tA ad A sh (fun r G' => ∃ v, r = some (.int v) ∧ K v G')) args s 0 0 A) 0 0 ad 6 [some (.ref 1), some (.int x1), some (.int x2), some (.int x3), some (.int x4), some (.int x5), some (.int x6), none, none] [] sh G0) (x1 : Int32) (x2 : Int32) (x3 : Int32) (x4 : Int32) (x5 : Int32) (x6 : Int32) (G0 : Gt), w_X4_sizeWith_j75 K rec6 x1 x2 x3 x4 x5 x6 G0 → aw p l e { frames := 5, cells := 0, slots := 0, locals := 109 } s m args below meth c 9 D tA A (MQ below (QC0 D tA ad A sh (fun r G' => ∃ v, r = some (.int v) ∧ K v G')) args s 0 0 A) 0 0 ad 75 [some (.ref 1), some (.int x1), some (.int x2), some (.int x3), some (.int x4), some (.int x5), some (.int x6), none, none] [] sh G0 := by
    intro rec6 hrec6 x1 x2 x3 x4 x5 x6 G0 hw
    unfold w_X4_sizeWith_j75 at hw
    refine aw_iinc (w := (x6 + 1)) C dX4_sizeWith_75 rfl rfl (by decide) rfl ?_
    refine aw_goto (tgt := 6) C dX4_sizeWith_78 (by decide) ?_
    exact aw_msk [true, true, true, true, true, true, true, false, false] (hrec6 x1 x2 x3 x4 x5 (x6 + 1) _ hw)
  have h46 : ∀ (rec6 : Int32 → Int32 → Int32 → Int32 → Int32 → Int32 → Gt → Prop) (hrec6 : ∀ (x1 : Int32) (x2 : Int32) (x3 : Int32) (x4 : Int32) (x5 : Int32) (x6 : Int32) (G0 : Gt), rec6 x1 x2 x3 x4 x5 x6 G0 → aw p l e { frames := 5, cells := 0, slots := 0, locals := 109 } s m args below meth c 9 D tA A (MQ below (QC0 D tA ad A sh (fun r G' => ∃ v, r = some (.int v) ∧ K v G')) args s 0 0 A) 0 0 ad 6 [some (.ref 1), some (.int x1), some (.int x2), some (.int x3), some (.int x4), some (.int x5), some (.int x6), none, none] [] sh G0) (x1 : Int32) (x2 : Int32) (x3 : Int32) (x4 : Int32) (x5 : Int32) (x6 : Int32) (x8 : Int32) (G0 : Gt), w_X4_sizeWith_j46 K rec6 x1 x2 x3 x4 x5 x6 x8 G0 → aw p l e { frames := 5, cells := 0, slots := 0, locals := 109 } s m args below meth c 9 D tA A (MQ below (QC0 D tA ad A sh (fun r G' => ∃ v, r = some (.int v) ∧ K v G')) args s 0 0 A) 0 0 ad 46 [some (.ref 1), some (.int x1), some (.int x2), some (.int x3), some (.int x4), some (.int x5), some (.int x6), none, some (.int x8)] [] sh G0 := by
    intro rec6 hrec6 x1 x2 x3 x4 x5 x6 x8 G0 hw
    unfold w_X4_sizeWith_j46 at hw
    refine aw_iloadn C dX4_sizeWith_46 rfl ?_
    refine aw_bipush (v := 38) C dX4_sizeWith_47 (by decide) ?_
    refine aw_ic_eq C dX4_sizeWith_49 75 (by decide) hw (fun hc49 hw => ?_) (fun hc49 hw => ?_)
    · exact aw_msk [true, true, true, true, true, true, true, false, false] (h75 _ hrec6 x1 x2 x3 x4 x5 x6 _ hw)
    · refine aw_aloadn C dX4_sizeWith_52 rfl ?_
      refine aw_iload C dX4_sizeWith_53 rfl ?_
      refine aw_callV C dX4_sizeWith_55 (t_X4_has S x8 _ _ hw) mM_X4_70 bX4_has (sA_1 S) rfl rfl ⟨Nat.le_of_ble_eq_true rfl, Nat.le_of_ble_eq_true rfl, Nat.zero_le _, Nat.zero_le _⟩ _ rfl (Nat.le_of_ble_eq_true rfl) (fun r55 G3 hq => ?_)
      obtain ⟨v4, rfl, hw⟩ := hq
      refine aw_if_eq C dX4_sizeWith_58 75 (by decide) hw (fun hc58 hw => ?_) (fun hc58 hw => ?_)
      · exact aw_msk [true, true, true, true, true, true, true, false, false] (h75 _ hrec6 x1 x2 x3 x4 x5 x6 _ hw)
      · refine aw_iload C dX4_sizeWith_61 rfl ?_
        refine aw_aloadn C dX4_sizeWith_63 rfl ?_
        refine aw_getR (r := 8) C dX4_sizeWith_64 kcX4 (sA_1 S) 3 (by decide) rfl mF_X4_26 ?_
        refine aw_iload C dX4_sizeWith_67 rfl ?_
        refine aw_callV C dX4_sizeWith_69 (t_at (rowS_8 S) (Nat.le_of_ble_eq_true rfl) x8 _) mM_X4_84 bX6_at (rowS_8 S).1 rfl rfl ⟨Nat.le_of_ble_eq_true rfl, Nat.le_of_ble_eq_true rfl, Nat.zero_le _, Nat.zero_le _⟩ _ rfl (Nat.le_of_ble_eq_true rfl) (fun r69 G69x hq => ?_)
        obtain ⟨rfl, rfl⟩ := hq
        refine aw_iadd C dX4_sizeWith_72 ?_
        refine aw_istore C dX4_sizeWith_73 (by decide) rfl ?_
        exact aw_msk [true, true, true, true, true, true, true, false, false] (h75 _ hrec6 x1 x2 x3 x4 (x5 + (rat G3 9 120 x8)) x6 _ hw)
  have h6 : ∀ (n : Nat) (x1 : Int32) (x2 : Int32) (x3 : Int32) (x4 : Int32) (x5 : Int32) (x6 : Int32) (G0 : Gt), w_X4_sizeWith_h6 K n x1 x2 x3 x4 x5 x6 G0 → aw p l e { frames := 5, cells := 0, slots := 0, locals := 109 } s m args below meth c 9 D tA A (MQ below (QC0 D tA ad A sh (fun r G' => ∃ v, r = some (.int v) ∧ K v G')) args s 0 0 A) 0 0 ad 6 [some (.ref 1), some (.int x1), some (.int x2), some (.int x3), some (.int x4), some (.int x5), some (.int x6), none, none] [] sh G0 := by
    intro  n
    induction n with
    | zero => intro x1 x2 x3 x4 x5 x6 G0 hw; exact hw.elim
    | succ n ih =>
      intro x1 x2 x3 x4 x5 x6 G0 hw
      rw [w_X4_sizeWith_h6] at hw
      refine aw_iload C dX4_sizeWith_6 rfl ?_
      refine aw_iconst (v := 3) C dX4_sizeWith_8 (by decide) ?_
      refine aw_ic_ge C dX4_sizeWith_9 81 (by decide) hw (fun hc9 hw => ?_) (fun hc9 hw => ?_)
      · refine aw_iload C dX4_sizeWith_81 rfl ?_
        exact aw_ireturn C hr dX4_sizeWith_83 ⟨_, rfl, hw⟩
      · refine aw_iloadn C dX4_sizeWith_12 rfl ?_
        refine aw_iload C dX4_sizeWith_13 rfl ?_
        refine aw_iloadn C dX4_sizeWith_15 rfl ?_
        refine aw_callS C dX4_sizeWith_16 (t_shapeOf x1 x6 x3 _) mM_X4_62 bX4_shapeOf rfl rfl ⟨Nat.le_of_ble_eq_true rfl, Nat.le_of_ble_eq_true rfl, Nat.zero_le _, Nat.zero_le _⟩ _ rfl (Nat.le_of_ble_eq_true rfl) (fun r16 G16x hq => ?_)
        obtain ⟨rfl, rfl⟩ := hq
        refine aw_istore C dX4_sizeWith_19 (by decide) rfl ?_
        refine aw_iload C dX4_sizeWith_21 rfl ?_
        refine aw_iloadn C dX4_sizeWith_23 rfl ?_
        refine aw_iloadn C dX4_sizeWith_24 rfl ?_
        refine aw_iload C dX4_sizeWith_25 rfl ?_
        refine aw_callS C dX4_sizeWith_27 (t_X4_choose x6 x2 x3 x4 _ _ hw) mM_X4_66 bX4_choose rfl rfl ⟨Nat.le_of_ble_eq_true rfl, Nat.le_of_ble_eq_true rfl, Nat.zero_le _, Nat.zero_le _⟩ _ rfl (Nat.le_of_ble_eq_true rfl) (fun r27 G1 hq => ?_)
        obtain ⟨v2, rfl, hw⟩ := hq
        refine aw_istore C dX4_sizeWith_30 (by decide) rfl ?_
        refine aw_iload C dX4_sizeWith_32 rfl ?_
        refine aw_bipush (v := 112) C dX4_sizeWith_34 (by decide) ?_
        refine aw_ic_eq C dX4_sizeWith_36 46 (by decide) hw (fun hc36 hw => ?_) (fun hc36 hw => ?_)
        · exact aw_msk [true, true, true, true, true, true, true, false, true] (h46 _ ih x1 x2 x3 x4 x5 x6 v2 _ hw)
        · refine aw_iload C dX4_sizeWith_39 rfl ?_
          refine aw_bipush (v := 111) C dX4_sizeWith_41 (by decide) ?_
          refine aw_ic_ne C dX4_sizeWith_43 75 (by decide) hw (fun hc43 hw => ?_) (fun hc43 hw => ?_)
          · exact aw_msk [true, true, true, true, true, true, true, false, false] (h75 _ ih x1 x2 x3 x4 x5 x6 _ hw)
          · exact aw_msk [true, true, true, true, true, true, true, false, true] (h46 _ ih x1 x2 x3 x4 x5 x6 v2 _ hw)
  unfold w_X4_sizeWith at hw
  show aw p l e { frames := 5, cells := 0, slots := 0, locals := 109 } s m args below meth c 9 D tA A (MQ below (QC0 D tA ad A sh (fun r G' => ∃ v, r = some (.int v) ∧ K v G')) args s 0 0 A) 0 0 ad 0 [some (.ref 1), some (.int p0), some (.int p1), some (.int p2), some (.int p3), none, none, none, none] [] sh G0
  refine aw_iconst (v := 1) C dX4_sizeWith_0 (by decide) ?_
  refine aw_istore C dX4_sizeWith_1 (by decide) rfl ?_
  refine aw_iconst (v := 0) C dX4_sizeWith_3 (by decide) ?_
  refine aw_istore C dX4_sizeWith_4 (by decide) rfl ?_
  obtain ⟨n0, hw⟩ := hw
  exact aw_msk [true, true, true, true, true, true, true, false, false] (h6 n0 p0 p1 p2 p3 1 0 _ hw)
def w_X0_emit (K : Gt → Prop) (p0 : Int32) (p1 : Int32) (G0 : Gt) : Prop :=
  pt (rput G0 16 1081 (G0 14 2) p0) fun G1 =>
  pt (rput G1 18 1081 (G1 14 2) p1) fun G2 =>
  pt (gu G2 14 2 ((G2 14 2) + 1)) fun G3 =>
  K G3
set_option maxHeartbeats 4000000 in
set_option maxRecDepth 100000 in
theorem t_X0_emit {l : Launch} {sh : Sh} (S : shOK sh) (p0 : Int32) (p1 : Int32) (G0 : Gt) (K : Gt → Prop) (hw : w_X0_emit K p0 p1 G0) : CT0 l yX0_emit cX0_emit 3 none 1 22 [.ref 14, .int p0, .int p1] sh G0 (fun r G' => r = none ∧ K G') := by
  refine CT0_of (by decide) (Nat.le_of_ble_eq_true rfl) rfl ?_
  intro p e s m args below meth c D tA ad A C hr _
  unfold w_X0_emit at hw
  show aw p l e { frames := 1, cells := 0, slots := 0, locals := 22 } s m args below meth c 3 D tA A (MQ below (QC0 D tA ad A sh (fun r G' => r = none ∧ K G')) args s 0 0 A) 0 0 ad 0 [some (.ref 14), some (.int p0), some (.int p1)] [] sh G0
  refine aw_aloadn C dX0_emit_0 rfl ?_
  refine aw_getR (r := 15) C dX0_emit_1 kcX0 (sA_14 S) 0 (by decide) rfl mF_X0_14 ?_
  refine aw_aloadn C dX0_emit_4 rfl ?_
  refine aw_getI C dX0_emit_5 kcX0 (sA_14 S) 2 (by decide) rfl mF_X0_23 ?_
  refine aw_iloadn C dX0_emit_8 rfl ?_
  refine aw_callV C dX0_emit_9 (t_put (rowS_15 S) (Nat.le_of_ble_eq_true rfl) (G0 14 2) p0 _) mM_X0_27 bX6_put (rowS_15 S).1 rfl rfl ⟨Nat.le_of_ble_eq_true rfl, Nat.le_of_ble_eq_true rfl, Nat.zero_le _, Nat.zero_le _⟩ _ rfl (Nat.le_of_ble_eq_true rfl) (fun r9 G1 hq => ?_)
  obtain ⟨rfl, hq⟩ := hq
  replace hw := pt_eq hw hq
  refine aw_aloadn C dX0_emit_12 rfl ?_
  refine aw_getR (r := 17) C dX0_emit_13 kcX0 (sA_14 S) 1 (by decide) rfl mF_X0_20 ?_
  refine aw_aloadn C dX0_emit_16 rfl ?_
  refine aw_getI C dX0_emit_17 kcX0 (sA_14 S) 2 (by decide) rfl mF_X0_23 ?_
  refine aw_iloadn C dX0_emit_20 rfl ?_
  refine aw_callV C dX0_emit_21 (t_put (rowS_17 S) (Nat.le_of_ble_eq_true rfl) (G1 14 2) p1 _) mM_X0_27 bX6_put (rowS_17 S).1 rfl rfl ⟨Nat.le_of_ble_eq_true rfl, Nat.le_of_ble_eq_true rfl, Nat.zero_le _, Nat.zero_le _⟩ _ rfl (Nat.le_of_ble_eq_true rfl) (fun r21 G2 hq => ?_)
  obtain ⟨rfl, hq⟩ := hq
  replace hw := pt_eq hw hq
  refine aw_aloadn C dX0_emit_24 rfl ?_
  refine aw_dup C dX0_emit_25 rfl ?_
  refine aw_getI C dX0_emit_26 kcX0 (sA_14 S) 2 (by decide) rfl mF_X0_23 ?_
  refine aw_iconst (v := 1) C dX0_emit_29 (by decide) ?_
  refine aw_iadd C dX0_emit_30 ?_
  refine aw_putI C dX0_emit_31 kcX0 (sA_14 S) 2 (by decide) rfl mF_X0_23 rfl rfl rfl hw (fun G3 hw => ?_)
  exact aw_return C hr dX0_emit_34 ⟨rfl, hw⟩
def w_X0_translateCall_j53 (K : Gt → Prop) (x1 : Int32) (x4 : Int32) (G0 : Gt) : Prop :=
  w_X0_emit (fun G1 =>
    w_X0_emit (fun G2 =>
      w_X0_emit (fun G3 =>
        K G3) 58 (-1) G2) 57 (-1) G1) 18 ((x4 * 6) + x1) G0
def w_X0_translateCall_j33 (K : Gt → Prop) (x1 : Int32) (x3 : Int32) (x4 : Int32) (G0 : Gt) : Prop :=
  pif (x4 ≤ 1) (
    w_X0_translateCall_j53 K x1 x4 G0) (
    w_X0_emit (fun G4 =>
      w_X0_emit (fun G5 =>
        w_X0_translateCall_j53 K x1 x4 G5) 41 x3 G4) 44 (-1) G0)
def w_X0_translateCall_j19 (K : Gt → Prop) (x1 : Int32) (x2 : Int32) (x3 : Int32) (y0 : Int32) (G0 : Gt) : Prop :=
  pif (y0 ≤ 0) (
    w_X0_translateCall_j33 K x1 x3 y0 G0) (
    w_X0_emit (fun G6 =>
      w_X0_translateCall_j33 K x1 x3 y0 G6) 41 x2 G0)
def w_X0_translateCall (K : Gt → Prop) (p0 : Int32) (p1 : Int32) (p2 : Int32) (G0 : Gt) : Prop :=
  pif (p1 = (-1)) (
    w_X0_translateCall_j19 K p0 p1 p2 0 G0) (
    pif (p2 = (-1)) (
      w_X0_translateCall_j19 K p0 p1 p2 1 G0) (
      w_X0_translateCall_j19 K p0 p1 p2 2 G0))
set_option maxHeartbeats 4000000 in
set_option maxRecDepth 100000 in
theorem t_X0_translateCall {l : Launch} {sh : Sh} (S : shOK sh) (p0 : Int32) (p1 : Int32) (p2 : Int32) (G0 : Gt) (K : Gt → Prop) (hw : w_X0_translateCall K p0 p1 p2 G0) : CT0 l yX0_translateCall cX0_translateCall 5 none 2 44 [.ref 14, .int p0, .int p1, .int p2] sh G0 (fun r G' => r = none ∧ K G') := by
  refine CT0_of (by decide) (Nat.le_of_ble_eq_true rfl) rfl ?_
  intro p e s m args below meth c D tA ad A C hr _
  have h53 : ∀ (x1 : Int32) (x4 : Int32) (G0 : Gt), w_X0_translateCall_j53 K x1 x4 G0 → aw p l e { frames := 2, cells := 0, slots := 0, locals := 44 } s m args below meth c 5 D tA A (MQ below (QC0 D tA ad A sh (fun r G' => r = none ∧ K G')) args s 0 0 A) 0 0 ad 53 [some (.ref 14), some (.int x1), none, none, some (.int x4)] [] sh G0 := by
    intro  x1 x4 G0 hw
    unfold w_X0_translateCall_j53 at hw
    refine aw_aloadn C dX0_translateCall_53 rfl ?_
    refine aw_bipush (v := 18) C dX0_translateCall_54 (by decide) ?_
    refine aw_iload C dX0_translateCall_56 rfl ?_
    refine aw_bipush (v := 6) C dX0_translateCall_58 (by decide) ?_
    refine aw_imul C dX0_translateCall_60 ?_
    refine aw_iloadn C dX0_translateCall_61 rfl ?_
    refine aw_iadd C dX0_translateCall_62 ?_
    refine aw_callV C dX0_translateCall_63 (t_X0_emit S 18 ((x4 * 6) + x1) _ _ hw) mM_X0_30 bX0_emit (sA_14 S) rfl rfl ⟨Nat.le_of_ble_eq_true rfl, Nat.le_of_ble_eq_true rfl, Nat.zero_le _, Nat.zero_le _⟩ _ rfl (Nat.le_of_ble_eq_true rfl) (fun r63 G1 hq => ?_)
    obtain ⟨rfl, hw⟩ := hq
    refine aw_aloadn C dX0_translateCall_66 rfl ?_
    refine aw_bipush (v := 57) C dX0_translateCall_67 (by decide) ?_
    refine aw_iconst (v := (-1)) C dX0_translateCall_69 (by decide) ?_
    refine aw_callV C dX0_translateCall_70 (t_X0_emit S 57 (-1) _ _ hw) mM_X0_30 bX0_emit (sA_14 S) rfl rfl ⟨Nat.le_of_ble_eq_true rfl, Nat.le_of_ble_eq_true rfl, Nat.zero_le _, Nat.zero_le _⟩ _ rfl (Nat.le_of_ble_eq_true rfl) (fun r70 G2 hq => ?_)
    obtain ⟨rfl, hw⟩ := hq
    refine aw_aloadn C dX0_translateCall_73 rfl ?_
    refine aw_bipush (v := 58) C dX0_translateCall_74 (by decide) ?_
    refine aw_iconst (v := (-1)) C dX0_translateCall_76 (by decide) ?_
    refine aw_callV C dX0_translateCall_77 (t_X0_emit S 58 (-1) _ _ hw) mM_X0_30 bX0_emit (sA_14 S) rfl rfl ⟨Nat.le_of_ble_eq_true rfl, Nat.le_of_ble_eq_true rfl, Nat.zero_le _, Nat.zero_le _⟩ _ rfl (Nat.le_of_ble_eq_true rfl) (fun r77 G3 hq => ?_)
    obtain ⟨rfl, hw⟩ := hq
    exact aw_return C hr dX0_translateCall_80 ⟨rfl, hw⟩
  have h33 : ∀ (x1 : Int32) (x3 : Int32) (x4 : Int32) (G0 : Gt), w_X0_translateCall_j33 K x1 x3 x4 G0 → aw p l e { frames := 2, cells := 0, slots := 0, locals := 44 } s m args below meth c 5 D tA A (MQ below (QC0 D tA ad A sh (fun r G' => r = none ∧ K G')) args s 0 0 A) 0 0 ad 33 [some (.ref 14), some (.int x1), none, some (.int x3), some (.int x4)] [] sh G0 := by
    intro  x1 x3 x4 G0 hw
    unfold w_X0_translateCall_j33 at hw
    refine aw_iload C dX0_translateCall_33 rfl ?_
    refine aw_iconst (v := 1) C dX0_translateCall_35 (by decide) ?_
    refine aw_ic_le C dX0_translateCall_36 53 (by decide) hw (fun hc36 hw => ?_) (fun hc36 hw => ?_)
    · exact aw_msk [true, true, false, false, true] (h53 x1 x4 _ hw)
    · refine aw_aloadn C dX0_translateCall_39 rfl ?_
      refine aw_bipush (v := 44) C dX0_translateCall_40 (by decide) ?_
      refine aw_iconst (v := (-1)) C dX0_translateCall_42 (by decide) ?_
      refine aw_callV C dX0_translateCall_43 (t_X0_emit S 44 (-1) _ _ hw) mM_X0_30 bX0_emit (sA_14 S) rfl rfl ⟨Nat.le_of_ble_eq_true rfl, Nat.le_of_ble_eq_true rfl, Nat.zero_le _, Nat.zero_le _⟩ _ rfl (Nat.le_of_ble_eq_true rfl) (fun r43 G4 hq => ?_)
      obtain ⟨rfl, hw⟩ := hq
      refine aw_aloadn C dX0_translateCall_46 rfl ?_
      refine aw_bipush (v := 41) C dX0_translateCall_47 (by decide) ?_
      refine aw_iloadn C dX0_translateCall_49 rfl ?_
      refine aw_callV C dX0_translateCall_50 (t_X0_emit S 41 x3 _ _ hw) mM_X0_30 bX0_emit (sA_14 S) rfl rfl ⟨Nat.le_of_ble_eq_true rfl, Nat.le_of_ble_eq_true rfl, Nat.zero_le _, Nat.zero_le _⟩ _ rfl (Nat.le_of_ble_eq_true rfl) (fun r50 G5 hq => ?_)
      obtain ⟨rfl, hw⟩ := hq
      exact aw_msk [true, true, false, false, true] (h53 x1 x4 _ hw)
  have h19 : ∀ (x1 : Int32) (x2 : Int32) (x3 : Int32) (y0 : Int32) (G0 : Gt), w_X0_translateCall_j19 K x1 x2 x3 y0 G0 → aw p l e { frames := 2, cells := 0, slots := 0, locals := 44 } s m args below meth c 5 D tA A (MQ below (QC0 D tA ad A sh (fun r G' => r = none ∧ K G')) args s 0 0 A) 0 0 ad 19 [some (.ref 14), some (.int x1), some (.int x2), some (.int x3), none] [.int y0] sh G0 := by
    intro  x1 x2 x3 y0 G0 hw
    unfold w_X0_translateCall_j19 at hw
    refine aw_istore C dX0_translateCall_19 (by decide) rfl ?_
    refine aw_iload C dX0_translateCall_21 rfl ?_
    refine aw_if_le C dX0_translateCall_23 33 (by decide) hw (fun hc23 hw => ?_) (fun hc23 hw => ?_)
    · exact aw_msk [true, true, false, true, true] (h33 x1 x3 y0 _ hw)
    · refine aw_aloadn C dX0_translateCall_26 rfl ?_
      refine aw_bipush (v := 41) C dX0_translateCall_27 (by decide) ?_
      refine aw_iloadn C dX0_translateCall_29 rfl ?_
      refine aw_callV C dX0_translateCall_30 (t_X0_emit S 41 x2 _ _ hw) mM_X0_30 bX0_emit (sA_14 S) rfl rfl ⟨Nat.le_of_ble_eq_true rfl, Nat.le_of_ble_eq_true rfl, Nat.zero_le _, Nat.zero_le _⟩ _ rfl (Nat.le_of_ble_eq_true rfl) (fun r30 G6 hq => ?_)
      obtain ⟨rfl, hw⟩ := hq
      exact aw_msk [true, true, false, true, true] (h33 x1 x3 y0 _ hw)
  unfold w_X0_translateCall at hw
  show aw p l e { frames := 2, cells := 0, slots := 0, locals := 44 } s m args below meth c 5 D tA A (MQ below (QC0 D tA ad A sh (fun r G' => r = none ∧ K G')) args s 0 0 A) 0 0 ad 0 [some (.ref 14), some (.int p0), some (.int p1), some (.int p2), none] [] sh G0
  refine aw_iloadn C dX0_translateCall_0 rfl ?_
  refine aw_iconst (v := (-1)) C dX0_translateCall_1 (by decide) ?_
  refine aw_ic_ne C dX0_translateCall_2 9 (by decide) hw (fun hc2 hw => ?_) (fun hc2 hw => ?_)
  · refine aw_iloadn C dX0_translateCall_9 rfl ?_
    refine aw_iconst (v := (-1)) C dX0_translateCall_10 (by decide) ?_
    refine aw_ic_ne C dX0_translateCall_11 18 (by decide) hw (fun hc11 hw => ?_) (fun hc11 hw => ?_)
    · refine aw_iconst (v := 2) C dX0_translateCall_18 (by decide) ?_
      exact aw_msk [true, true, true, true, false] (h19 p0 p1 p2 2 _ hw)
    · refine aw_iconst (v := 1) C dX0_translateCall_14 (by decide) ?_
      refine aw_goto (tgt := 19) C dX0_translateCall_15 (by decide) ?_
      exact aw_msk [true, true, true, true, false] (h19 p0 p1 p2 1 _ hw)
  · refine aw_iconst (v := 0) C dX0_translateCall_5 (by decide) ?_
    refine aw_goto (tgt := 19) C dX0_translateCall_6 (by decide) ?_
    exact aw_msk [true, true, true, true, false] (h19 p0 p1 p2 0 _ hw)
def w_X0_translateInsert (K : Gt → Prop) (p0 : Int32) (G0 : Gt) : Prop :=
  w_X0_emit (fun G1 =>
    w_X0_emit (fun G2 =>
      w_X0_emit (fun G3 =>
        w_X0_emit (fun G4 =>
          w_X0_emit (fun G5 =>
            w_X0_emit (fun G6 =>
              K G6) 60 (-1) G5) 59 (-1) G4) 58 (-1) G3) 57 (-1) G2) 29 ((G0 14 2) + 5) G1) 41 p0 G0
set_option maxHeartbeats 4000000 in
set_option maxRecDepth 100000 in
theorem t_X0_translateInsert {l : Launch} {sh : Sh} (S : shOK sh) (p0 : Int32) (G0 : Gt) (K : Gt → Prop) (hw : w_X0_translateInsert K p0 G0) : CT0 l yX0_translateInsert cX0_translateInsert 3 none 2 44 [.ref 14, .int p0] sh G0 (fun r G' => r = none ∧ K G') := by
  refine CT0_of (by decide) (Nat.le_of_ble_eq_true rfl) rfl ?_
  intro p e s m args below meth c D tA ad A C hr _
  unfold w_X0_translateInsert at hw
  show aw p l e { frames := 2, cells := 0, slots := 0, locals := 44 } s m args below meth c 3 D tA A (MQ below (QC0 D tA ad A sh (fun r G' => r = none ∧ K G')) args s 0 0 A) 0 0 ad 0 [some (.ref 14), some (.int p0), none] [] sh G0
  refine aw_aloadn C dX0_translateInsert_0 rfl ?_
  refine aw_getI C dX0_translateInsert_1 kcX0 (sA_14 S) 2 (by decide) rfl mF_X0_23 ?_
  refine aw_istoren C dX0_translateInsert_4 (by decide) rfl ?_
  refine aw_aloadn C dX0_translateInsert_5 rfl ?_
  refine aw_bipush (v := 41) C dX0_translateInsert_6 (by decide) ?_
  refine aw_iloadn C dX0_translateInsert_8 rfl ?_
  refine aw_callV C dX0_translateInsert_9 (t_X0_emit S 41 p0 _ _ hw) mM_X0_30 bX0_emit (sA_14 S) rfl rfl ⟨Nat.le_of_ble_eq_true rfl, Nat.le_of_ble_eq_true rfl, Nat.zero_le _, Nat.zero_le _⟩ _ rfl (Nat.le_of_ble_eq_true rfl) (fun r9 G1 hq => ?_)
  obtain ⟨rfl, hw⟩ := hq
  refine aw_aloadn C dX0_translateInsert_12 rfl ?_
  refine aw_bipush (v := 29) C dX0_translateInsert_13 (by decide) ?_
  refine aw_iloadn C dX0_translateInsert_15 rfl ?_
  refine aw_iconst (v := 5) C dX0_translateInsert_16 (by decide) ?_
  refine aw_iadd C dX0_translateInsert_17 ?_
  refine aw_callV C dX0_translateInsert_18 (t_X0_emit S 29 ((G0 14 2) + 5) _ _ hw) mM_X0_30 bX0_emit (sA_14 S) rfl rfl ⟨Nat.le_of_ble_eq_true rfl, Nat.le_of_ble_eq_true rfl, Nat.zero_le _, Nat.zero_le _⟩ _ rfl (Nat.le_of_ble_eq_true rfl) (fun r18 G2 hq => ?_)
  obtain ⟨rfl, hw⟩ := hq
  refine aw_aloadn C dX0_translateInsert_21 rfl ?_
  refine aw_bipush (v := 57) C dX0_translateInsert_22 (by decide) ?_
  refine aw_iconst (v := (-1)) C dX0_translateInsert_24 (by decide) ?_
  refine aw_callV C dX0_translateInsert_25 (t_X0_emit S 57 (-1) _ _ hw) mM_X0_30 bX0_emit (sA_14 S) rfl rfl ⟨Nat.le_of_ble_eq_true rfl, Nat.le_of_ble_eq_true rfl, Nat.zero_le _, Nat.zero_le _⟩ _ rfl (Nat.le_of_ble_eq_true rfl) (fun r25 G3 hq => ?_)
  obtain ⟨rfl, hw⟩ := hq
  refine aw_aloadn C dX0_translateInsert_28 rfl ?_
  refine aw_bipush (v := 58) C dX0_translateInsert_29 (by decide) ?_
  refine aw_iconst (v := (-1)) C dX0_translateInsert_31 (by decide) ?_
  refine aw_callV C dX0_translateInsert_32 (t_X0_emit S 58 (-1) _ _ hw) mM_X0_30 bX0_emit (sA_14 S) rfl rfl ⟨Nat.le_of_ble_eq_true rfl, Nat.le_of_ble_eq_true rfl, Nat.zero_le _, Nat.zero_le _⟩ _ rfl (Nat.le_of_ble_eq_true rfl) (fun r32 G4 hq => ?_)
  obtain ⟨rfl, hw⟩ := hq
  refine aw_aloadn C dX0_translateInsert_35 rfl ?_
  refine aw_bipush (v := 59) C dX0_translateInsert_36 (by decide) ?_
  refine aw_iconst (v := (-1)) C dX0_translateInsert_38 (by decide) ?_
  refine aw_callV C dX0_translateInsert_39 (t_X0_emit S 59 (-1) _ _ hw) mM_X0_30 bX0_emit (sA_14 S) rfl rfl ⟨Nat.le_of_ble_eq_true rfl, Nat.le_of_ble_eq_true rfl, Nat.zero_le _, Nat.zero_le _⟩ _ rfl (Nat.le_of_ble_eq_true rfl) (fun r39 G5 hq => ?_)
  obtain ⟨rfl, hw⟩ := hq
  refine aw_aloadn C dX0_translateInsert_42 rfl ?_
  refine aw_bipush (v := 60) C dX0_translateInsert_43 (by decide) ?_
  refine aw_iconst (v := (-1)) C dX0_translateInsert_45 (by decide) ?_
  refine aw_callV C dX0_translateInsert_46 (t_X0_emit S 60 (-1) _ _ hw) mM_X0_30 bX0_emit (sA_14 S) rfl rfl ⟨Nat.le_of_ble_eq_true rfl, Nat.le_of_ble_eq_true rfl, Nat.zero_le _, Nat.zero_le _⟩ _ rfl (Nat.le_of_ble_eq_true rfl) (fun r46 G6 hq => ?_)
  obtain ⟨rfl, hw⟩ := hq
  exact aw_return C hr dX0_translateInsert_49 ⟨rfl, hw⟩
def w_X0_translateIf (K : Gt → Prop) (p0 : Int32) (p1 : Int32) (p2 : Int32) (G0 : Gt) : Prop :=
  w_X0_emit (fun G1 =>
    w_X0_emit (fun G2 =>
      w_X0_emit (fun G3 =>
        w_X0_emit (fun G4 =>
          w_X0_emit (fun G5 =>
            K G5) 41 p2 G4) 40 (-1) G3) 41 p1 G2) 46 ((G0 14 2) + 4) G1) 41 p0 G0
set_option maxHeartbeats 4000000 in
set_option maxRecDepth 100000 in
theorem t_X0_translateIf {l : Launch} {sh : Sh} (S : shOK sh) (p0 : Int32) (p1 : Int32) (p2 : Int32) (G0 : Gt) (K : Gt → Prop) (hw : w_X0_translateIf K p0 p1 p2 G0) : CT0 l yX0_translateIf cX0_translateIf 5 none 2 44 [.ref 14, .int p0, .int p1, .int p2] sh G0 (fun r G' => r = none ∧ K G') := by
  refine CT0_of (by decide) (Nat.le_of_ble_eq_true rfl) rfl ?_
  intro p e s m args below meth c D tA ad A C hr _
  unfold w_X0_translateIf at hw
  show aw p l e { frames := 2, cells := 0, slots := 0, locals := 44 } s m args below meth c 5 D tA A (MQ below (QC0 D tA ad A sh (fun r G' => r = none ∧ K G')) args s 0 0 A) 0 0 ad 0 [some (.ref 14), some (.int p0), some (.int p1), some (.int p2), none] [] sh G0
  refine aw_aloadn C dX0_translateIf_0 rfl ?_
  refine aw_getI C dX0_translateIf_1 kcX0 (sA_14 S) 2 (by decide) rfl mF_X0_23 ?_
  refine aw_istore C dX0_translateIf_4 (by decide) rfl ?_
  refine aw_aloadn C dX0_translateIf_6 rfl ?_
  refine aw_bipush (v := 41) C dX0_translateIf_7 (by decide) ?_
  refine aw_iloadn C dX0_translateIf_9 rfl ?_
  refine aw_callV C dX0_translateIf_10 (t_X0_emit S 41 p0 _ _ hw) mM_X0_30 bX0_emit (sA_14 S) rfl rfl ⟨Nat.le_of_ble_eq_true rfl, Nat.le_of_ble_eq_true rfl, Nat.zero_le _, Nat.zero_le _⟩ _ rfl (Nat.le_of_ble_eq_true rfl) (fun r10 G1 hq => ?_)
  obtain ⟨rfl, hw⟩ := hq
  refine aw_aloadn C dX0_translateIf_13 rfl ?_
  refine aw_bipush (v := 46) C dX0_translateIf_14 (by decide) ?_
  refine aw_iload C dX0_translateIf_16 rfl ?_
  refine aw_iconst (v := 4) C dX0_translateIf_18 (by decide) ?_
  refine aw_iadd C dX0_translateIf_19 ?_
  refine aw_callV C dX0_translateIf_20 (t_X0_emit S 46 ((G0 14 2) + 4) _ _ hw) mM_X0_30 bX0_emit (sA_14 S) rfl rfl ⟨Nat.le_of_ble_eq_true rfl, Nat.le_of_ble_eq_true rfl, Nat.zero_le _, Nat.zero_le _⟩ _ rfl (Nat.le_of_ble_eq_true rfl) (fun r20 G2 hq => ?_)
  obtain ⟨rfl, hw⟩ := hq
  refine aw_aloadn C dX0_translateIf_23 rfl ?_
  refine aw_bipush (v := 41) C dX0_translateIf_24 (by decide) ?_
  refine aw_iloadn C dX0_translateIf_26 rfl ?_
  refine aw_callV C dX0_translateIf_27 (t_X0_emit S 41 p1 _ _ hw) mM_X0_30 bX0_emit (sA_14 S) rfl rfl ⟨Nat.le_of_ble_eq_true rfl, Nat.le_of_ble_eq_true rfl, Nat.zero_le _, Nat.zero_le _⟩ _ rfl (Nat.le_of_ble_eq_true rfl) (fun r27 G3 hq => ?_)
  obtain ⟨rfl, hw⟩ := hq
  refine aw_aloadn C dX0_translateIf_30 rfl ?_
  refine aw_bipush (v := 40) C dX0_translateIf_31 (by decide) ?_
  refine aw_iconst (v := (-1)) C dX0_translateIf_33 (by decide) ?_
  refine aw_callV C dX0_translateIf_34 (t_X0_emit S 40 (-1) _ _ hw) mM_X0_30 bX0_emit (sA_14 S) rfl rfl ⟨Nat.le_of_ble_eq_true rfl, Nat.le_of_ble_eq_true rfl, Nat.zero_le _, Nat.zero_le _⟩ _ rfl (Nat.le_of_ble_eq_true rfl) (fun r34 G4 hq => ?_)
  obtain ⟨rfl, hw⟩ := hq
  refine aw_aloadn C dX0_translateIf_37 rfl ?_
  refine aw_bipush (v := 41) C dX0_translateIf_38 (by decide) ?_
  refine aw_iloadn C dX0_translateIf_40 rfl ?_
  refine aw_callV C dX0_translateIf_41 (t_X0_emit S 41 p2 _ _ hw) mM_X0_30 bX0_emit (sA_14 S) rfl rfl ⟨Nat.le_of_ble_eq_true rfl, Nat.le_of_ble_eq_true rfl, Nat.zero_le _, Nat.zero_le _⟩ _ rfl (Nat.le_of_ble_eq_true rfl) (fun r41 G5 hq => ?_)
  obtain ⟨rfl, hw⟩ := hq
  exact aw_return C hr dX0_translateIf_44 ⟨rfl, hw⟩
def w_X0_translateLoop (K : Gt → Prop) (p0 : Int32) (G0 : Gt) : Prop :=
  w_X0_emit (fun G1 =>
    w_X0_emit (fun G2 =>
      w_X0_emit (fun G3 =>
        w_X0_emit (fun G4 =>
          K G4) 49 (G0 14 2) G3) 45 (G0 14 2) G2) 42 p0 G1) 47 ((G0 14 2) + 3) G0
set_option maxHeartbeats 4000000 in
set_option maxRecDepth 100000 in
theorem t_X0_translateLoop {l : Launch} {sh : Sh} (S : shOK sh) (p0 : Int32) (G0 : Gt) (K : Gt → Prop) (hw : w_X0_translateLoop K p0 G0) : CT0 l yX0_translateLoop cX0_translateLoop 3 none 2 44 [.ref 14, .int p0] sh G0 (fun r G' => r = none ∧ K G') := by
  refine CT0_of (by decide) (Nat.le_of_ble_eq_true rfl) rfl ?_
  intro p e s m args below meth c D tA ad A C hr _
  unfold w_X0_translateLoop at hw
  show aw p l e { frames := 2, cells := 0, slots := 0, locals := 44 } s m args below meth c 3 D tA A (MQ below (QC0 D tA ad A sh (fun r G' => r = none ∧ K G')) args s 0 0 A) 0 0 ad 0 [some (.ref 14), some (.int p0), none] [] sh G0
  refine aw_aloadn C dX0_translateLoop_0 rfl ?_
  refine aw_getI C dX0_translateLoop_1 kcX0 (sA_14 S) 2 (by decide) rfl mF_X0_23 ?_
  refine aw_istoren C dX0_translateLoop_4 (by decide) rfl ?_
  refine aw_aloadn C dX0_translateLoop_5 rfl ?_
  refine aw_bipush (v := 47) C dX0_translateLoop_6 (by decide) ?_
  refine aw_iloadn C dX0_translateLoop_8 rfl ?_
  refine aw_iconst (v := 3) C dX0_translateLoop_9 (by decide) ?_
  refine aw_iadd C dX0_translateLoop_10 ?_
  refine aw_callV C dX0_translateLoop_11 (t_X0_emit S 47 ((G0 14 2) + 3) _ _ hw) mM_X0_30 bX0_emit (sA_14 S) rfl rfl ⟨Nat.le_of_ble_eq_true rfl, Nat.le_of_ble_eq_true rfl, Nat.zero_le _, Nat.zero_le _⟩ _ rfl (Nat.le_of_ble_eq_true rfl) (fun r11 G1 hq => ?_)
  obtain ⟨rfl, hw⟩ := hq
  refine aw_aloadn C dX0_translateLoop_14 rfl ?_
  refine aw_bipush (v := 42) C dX0_translateLoop_15 (by decide) ?_
  refine aw_iloadn C dX0_translateLoop_17 rfl ?_
  refine aw_callV C dX0_translateLoop_18 (t_X0_emit S 42 p0 _ _ hw) mM_X0_30 bX0_emit (sA_14 S) rfl rfl ⟨Nat.le_of_ble_eq_true rfl, Nat.le_of_ble_eq_true rfl, Nat.zero_le _, Nat.zero_le _⟩ _ rfl (Nat.le_of_ble_eq_true rfl) (fun r18 G2 hq => ?_)
  obtain ⟨rfl, hw⟩ := hq
  refine aw_aloadn C dX0_translateLoop_21 rfl ?_
  refine aw_bipush (v := 45) C dX0_translateLoop_22 (by decide) ?_
  refine aw_iloadn C dX0_translateLoop_24 rfl ?_
  refine aw_callV C dX0_translateLoop_25 (t_X0_emit S 45 (G0 14 2) _ _ hw) mM_X0_30 bX0_emit (sA_14 S) rfl rfl ⟨Nat.le_of_ble_eq_true rfl, Nat.le_of_ble_eq_true rfl, Nat.zero_le _, Nat.zero_le _⟩ _ rfl (Nat.le_of_ble_eq_true rfl) (fun r25 G3 hq => ?_)
  obtain ⟨rfl, hw⟩ := hq
  refine aw_aloadn C dX0_translateLoop_28 rfl ?_
  refine aw_bipush (v := 49) C dX0_translateLoop_29 (by decide) ?_
  refine aw_iloadn C dX0_translateLoop_31 rfl ?_
  refine aw_callV C dX0_translateLoop_32 (t_X0_emit S 49 (G0 14 2) _ _ hw) mM_X0_30 bX0_emit (sA_14 S) rfl rfl ⟨Nat.le_of_ble_eq_true rfl, Nat.le_of_ble_eq_true rfl, Nat.zero_le _, Nat.zero_le _⟩ _ rfl (Nat.le_of_ble_eq_true rfl) (fun r32 G4 hq => ?_)
  obtain ⟨rfl, hw⟩ := hq
  exact aw_return C hr dX0_translateLoop_35 ⟨rfl, hw⟩
def w_X0_translateTry (K : Gt → Prop) (p0 : Int32) (p1 : Int32) (p2 : Int32) (G0 : Gt) : Prop :=
  w_X0_emit (fun G1 =>
    w_X0_emit (fun G2 =>
      w_X0_emit (fun G3 =>
        w_X0_emit (fun G4 =>
          w_X0_emit (fun G5 =>
            K G5) 43 p2 G4) 48 p0 G3) 40 (-1) G2) 41 p1 G1) 47 ((G0 14 2) + 3) G0
set_option maxHeartbeats 4000000 in
set_option maxRecDepth 100000 in
theorem t_X0_translateTry {l : Launch} {sh : Sh} (S : shOK sh) (p0 : Int32) (p1 : Int32) (p2 : Int32) (G0 : Gt) (K : Gt → Prop) (hw : w_X0_translateTry K p0 p1 p2 G0) : CT0 l yX0_translateTry cX0_translateTry 5 none 2 44 [.ref 14, .int p0, .int p1, .int p2] sh G0 (fun r G' => r = none ∧ K G') := by
  refine CT0_of (by decide) (Nat.le_of_ble_eq_true rfl) rfl ?_
  intro p e s m args below meth c D tA ad A C hr _
  unfold w_X0_translateTry at hw
  show aw p l e { frames := 2, cells := 0, slots := 0, locals := 44 } s m args below meth c 5 D tA A (MQ below (QC0 D tA ad A sh (fun r G' => r = none ∧ K G')) args s 0 0 A) 0 0 ad 0 [some (.ref 14), some (.int p0), some (.int p1), some (.int p2), none] [] sh G0
  refine aw_aloadn C dX0_translateTry_0 rfl ?_
  refine aw_getI C dX0_translateTry_1 kcX0 (sA_14 S) 2 (by decide) rfl mF_X0_23 ?_
  refine aw_istore C dX0_translateTry_4 (by decide) rfl ?_
  refine aw_aloadn C dX0_translateTry_6 rfl ?_
  refine aw_bipush (v := 47) C dX0_translateTry_7 (by decide) ?_
  refine aw_iload C dX0_translateTry_9 rfl ?_
  refine aw_iconst (v := 3) C dX0_translateTry_11 (by decide) ?_
  refine aw_iadd C dX0_translateTry_12 ?_
  refine aw_callV C dX0_translateTry_13 (t_X0_emit S 47 ((G0 14 2) + 3) _ _ hw) mM_X0_30 bX0_emit (sA_14 S) rfl rfl ⟨Nat.le_of_ble_eq_true rfl, Nat.le_of_ble_eq_true rfl, Nat.zero_le _, Nat.zero_le _⟩ _ rfl (Nat.le_of_ble_eq_true rfl) (fun r13 G1 hq => ?_)
  obtain ⟨rfl, hw⟩ := hq
  refine aw_aloadn C dX0_translateTry_16 rfl ?_
  refine aw_bipush (v := 41) C dX0_translateTry_17 (by decide) ?_
  refine aw_iloadn C dX0_translateTry_19 rfl ?_
  refine aw_callV C dX0_translateTry_20 (t_X0_emit S 41 p1 _ _ hw) mM_X0_30 bX0_emit (sA_14 S) rfl rfl ⟨Nat.le_of_ble_eq_true rfl, Nat.le_of_ble_eq_true rfl, Nat.zero_le _, Nat.zero_le _⟩ _ rfl (Nat.le_of_ble_eq_true rfl) (fun r20 G2 hq => ?_)
  obtain ⟨rfl, hw⟩ := hq
  refine aw_aloadn C dX0_translateTry_23 rfl ?_
  refine aw_bipush (v := 40) C dX0_translateTry_24 (by decide) ?_
  refine aw_iconst (v := (-1)) C dX0_translateTry_26 (by decide) ?_
  refine aw_callV C dX0_translateTry_27 (t_X0_emit S 40 (-1) _ _ hw) mM_X0_30 bX0_emit (sA_14 S) rfl rfl ⟨Nat.le_of_ble_eq_true rfl, Nat.le_of_ble_eq_true rfl, Nat.zero_le _, Nat.zero_le _⟩ _ rfl (Nat.le_of_ble_eq_true rfl) (fun r27 G3 hq => ?_)
  obtain ⟨rfl, hw⟩ := hq
  refine aw_aloadn C dX0_translateTry_30 rfl ?_
  refine aw_bipush (v := 48) C dX0_translateTry_31 (by decide) ?_
  refine aw_iloadn C dX0_translateTry_33 rfl ?_
  refine aw_callV C dX0_translateTry_34 (t_X0_emit S 48 p0 _ _ hw) mM_X0_30 bX0_emit (sA_14 S) rfl rfl ⟨Nat.le_of_ble_eq_true rfl, Nat.le_of_ble_eq_true rfl, Nat.zero_le _, Nat.zero_le _⟩ _ rfl (Nat.le_of_ble_eq_true rfl) (fun r34 G4 hq => ?_)
  obtain ⟨rfl, hw⟩ := hq
  refine aw_aloadn C dX0_translateTry_37 rfl ?_
  refine aw_bipush (v := 43) C dX0_translateTry_38 (by decide) ?_
  refine aw_iloadn C dX0_translateTry_40 rfl ?_
  refine aw_callV C dX0_translateTry_41 (t_X0_emit S 43 p2 _ _ hw) mM_X0_30 bX0_emit (sA_14 S) rfl rfl ⟨Nat.le_of_ble_eq_true rfl, Nat.le_of_ble_eq_true rfl, Nat.zero_le _, Nat.zero_le _⟩ _ rfl (Nat.le_of_ble_eq_true rfl) (fun r41 G5 hq => ?_)
  obtain ⟨rfl, hw⟩ := hq
  exact aw_return C hr dX0_translateTry_44 ⟨rfl, hw⟩
def w_X0_translateFinally (K : Gt → Prop) (p0 : Int32) (p1 : Int32) (G0 : Gt) : Prop :=
  w_X0_emit (fun G1 =>
    w_X0_emit (fun G2 =>
      w_X0_emit (fun G3 =>
        w_X0_emit (fun G4 =>
          w_X0_emit (fun G5 =>
            w_X0_emit (fun G6 =>
              w_X0_emit (fun G7 =>
                w_X0_emit (fun G8 =>
                  K G8) 52 (-1) G7) 40 (-1) G6) 51 (-1) G5) 41 p1 G4) 47 ((G0 14 2) + 7) G3) 50 (-1) G2) 41 p0 G1) 47 ((G0 14 2) + 2) G0
set_option maxHeartbeats 4000000 in
set_option maxRecDepth 100000 in
theorem t_X0_translateFinally {l : Launch} {sh : Sh} (S : shOK sh) (p0 : Int32) (p1 : Int32) (G0 : Gt) (K : Gt → Prop) (hw : w_X0_translateFinally K p0 p1 G0) : CT0 l yX0_translateFinally cX0_translateFinally 4 none 2 44 [.ref 14, .int p0, .int p1] sh G0 (fun r G' => r = none ∧ K G') := by
  refine CT0_of (by decide) (Nat.le_of_ble_eq_true rfl) rfl ?_
  intro p e s m args below meth c D tA ad A C hr _
  unfold w_X0_translateFinally at hw
  show aw p l e { frames := 2, cells := 0, slots := 0, locals := 44 } s m args below meth c 4 D tA A (MQ below (QC0 D tA ad A sh (fun r G' => r = none ∧ K G')) args s 0 0 A) 0 0 ad 0 [some (.ref 14), some (.int p0), some (.int p1), none] [] sh G0
  refine aw_aloadn C dX0_translateFinally_0 rfl ?_
  refine aw_getI C dX0_translateFinally_1 kcX0 (sA_14 S) 2 (by decide) rfl mF_X0_23 ?_
  refine aw_istoren C dX0_translateFinally_4 (by decide) rfl ?_
  refine aw_aloadn C dX0_translateFinally_5 rfl ?_
  refine aw_bipush (v := 47) C dX0_translateFinally_6 (by decide) ?_
  refine aw_iloadn C dX0_translateFinally_8 rfl ?_
  refine aw_iconst (v := 2) C dX0_translateFinally_9 (by decide) ?_
  refine aw_iadd C dX0_translateFinally_10 ?_
  refine aw_callV C dX0_translateFinally_11 (t_X0_emit S 47 ((G0 14 2) + 2) _ _ hw) mM_X0_30 bX0_emit (sA_14 S) rfl rfl ⟨Nat.le_of_ble_eq_true rfl, Nat.le_of_ble_eq_true rfl, Nat.zero_le _, Nat.zero_le _⟩ _ rfl (Nat.le_of_ble_eq_true rfl) (fun r11 G1 hq => ?_)
  obtain ⟨rfl, hw⟩ := hq
  refine aw_aloadn C dX0_translateFinally_14 rfl ?_
  refine aw_bipush (v := 41) C dX0_translateFinally_15 (by decide) ?_
  refine aw_iloadn C dX0_translateFinally_17 rfl ?_
  refine aw_callV C dX0_translateFinally_18 (t_X0_emit S 41 p0 _ _ hw) mM_X0_30 bX0_emit (sA_14 S) rfl rfl ⟨Nat.le_of_ble_eq_true rfl, Nat.le_of_ble_eq_true rfl, Nat.zero_le _, Nat.zero_le _⟩ _ rfl (Nat.le_of_ble_eq_true rfl) (fun r18 G2 hq => ?_)
  obtain ⟨rfl, hw⟩ := hq
  refine aw_aloadn C dX0_translateFinally_21 rfl ?_
  refine aw_bipush (v := 50) C dX0_translateFinally_22 (by decide) ?_
  refine aw_iconst (v := (-1)) C dX0_translateFinally_24 (by decide) ?_
  refine aw_callV C dX0_translateFinally_25 (t_X0_emit S 50 (-1) _ _ hw) mM_X0_30 bX0_emit (sA_14 S) rfl rfl ⟨Nat.le_of_ble_eq_true rfl, Nat.le_of_ble_eq_true rfl, Nat.zero_le _, Nat.zero_le _⟩ _ rfl (Nat.le_of_ble_eq_true rfl) (fun r25 G3 hq => ?_)
  obtain ⟨rfl, hw⟩ := hq
  refine aw_aloadn C dX0_translateFinally_28 rfl ?_
  refine aw_bipush (v := 47) C dX0_translateFinally_29 (by decide) ?_
  refine aw_iloadn C dX0_translateFinally_31 rfl ?_
  refine aw_bipush (v := 7) C dX0_translateFinally_32 (by decide) ?_
  refine aw_iadd C dX0_translateFinally_34 ?_
  refine aw_callV C dX0_translateFinally_35 (t_X0_emit S 47 ((G0 14 2) + 7) _ _ hw) mM_X0_30 bX0_emit (sA_14 S) rfl rfl ⟨Nat.le_of_ble_eq_true rfl, Nat.le_of_ble_eq_true rfl, Nat.zero_le _, Nat.zero_le _⟩ _ rfl (Nat.le_of_ble_eq_true rfl) (fun r35 G4 hq => ?_)
  obtain ⟨rfl, hw⟩ := hq
  refine aw_aloadn C dX0_translateFinally_38 rfl ?_
  refine aw_bipush (v := 41) C dX0_translateFinally_39 (by decide) ?_
  refine aw_iloadn C dX0_translateFinally_41 rfl ?_
  refine aw_callV C dX0_translateFinally_42 (t_X0_emit S 41 p1 _ _ hw) mM_X0_30 bX0_emit (sA_14 S) rfl rfl ⟨Nat.le_of_ble_eq_true rfl, Nat.le_of_ble_eq_true rfl, Nat.zero_le _, Nat.zero_le _⟩ _ rfl (Nat.le_of_ble_eq_true rfl) (fun r42 G5 hq => ?_)
  obtain ⟨rfl, hw⟩ := hq
  refine aw_aloadn C dX0_translateFinally_45 rfl ?_
  refine aw_bipush (v := 51) C dX0_translateFinally_46 (by decide) ?_
  refine aw_iconst (v := (-1)) C dX0_translateFinally_48 (by decide) ?_
  refine aw_callV C dX0_translateFinally_49 (t_X0_emit S 51 (-1) _ _ hw) mM_X0_30 bX0_emit (sA_14 S) rfl rfl ⟨Nat.le_of_ble_eq_true rfl, Nat.le_of_ble_eq_true rfl, Nat.zero_le _, Nat.zero_le _⟩ _ rfl (Nat.le_of_ble_eq_true rfl) (fun r49 G6 hq => ?_)
  obtain ⟨rfl, hw⟩ := hq
  refine aw_aloadn C dX0_translateFinally_52 rfl ?_
  refine aw_bipush (v := 40) C dX0_translateFinally_53 (by decide) ?_
  refine aw_iconst (v := (-1)) C dX0_translateFinally_55 (by decide) ?_
  refine aw_callV C dX0_translateFinally_56 (t_X0_emit S 40 (-1) _ _ hw) mM_X0_30 bX0_emit (sA_14 S) rfl rfl ⟨Nat.le_of_ble_eq_true rfl, Nat.le_of_ble_eq_true rfl, Nat.zero_le _, Nat.zero_le _⟩ _ rfl (Nat.le_of_ble_eq_true rfl) (fun r56 G7 hq => ?_)
  obtain ⟨rfl, hw⟩ := hq
  refine aw_aloadn C dX0_translateFinally_59 rfl ?_
  refine aw_bipush (v := 52) C dX0_translateFinally_60 (by decide) ?_
  refine aw_iconst (v := (-1)) C dX0_translateFinally_62 (by decide) ?_
  refine aw_callV C dX0_translateFinally_63 (t_X0_emit S 52 (-1) _ _ hw) mM_X0_30 bX0_emit (sA_14 S) rfl rfl ⟨Nat.le_of_ble_eq_true rfl, Nat.le_of_ble_eq_true rfl, Nat.zero_le _, Nat.zero_le _⟩ _ rfl (Nat.le_of_ble_eq_true rfl) (fun r63 G8 hq => ?_)
  obtain ⟨rfl, hw⟩ := hq
  exact aw_return C hr dX0_translateFinally_66 ⟨rfl, hw⟩
def w_X0_translateOption (K : Gt → Prop) (p0 : Int32) (p1 : Int32) (p2 : Int32) (G0 : Gt) : Prop :=
  w_X0_emit (fun G1 =>
    w_X0_emit (fun G2 =>
      w_X0_emit (fun G3 =>
        w_X0_emit (fun G4 =>
          w_X0_emit (fun G5 =>
            K G5) 53 p0 G4) 41 p2 G3) 26 p0 G2) 47 ((G0 14 2) + 4) G1) 41 p1 G0
set_option maxHeartbeats 4000000 in
set_option maxRecDepth 100000 in
theorem t_X0_translateOption {l : Launch} {sh : Sh} (S : shOK sh) (p0 : Int32) (p1 : Int32) (p2 : Int32) (G0 : Gt) (K : Gt → Prop) (hw : w_X0_translateOption K p0 p1 p2 G0) : CT0 l yX0_translateOption cX0_translateOption 5 none 2 44 [.ref 14, .int p0, .int p1, .int p2] sh G0 (fun r G' => r = none ∧ K G') := by
  refine CT0_of (by decide) (Nat.le_of_ble_eq_true rfl) rfl ?_
  intro p e s m args below meth c D tA ad A C hr _
  unfold w_X0_translateOption at hw
  show aw p l e { frames := 2, cells := 0, slots := 0, locals := 44 } s m args below meth c 5 D tA A (MQ below (QC0 D tA ad A sh (fun r G' => r = none ∧ K G')) args s 0 0 A) 0 0 ad 0 [some (.ref 14), some (.int p0), some (.int p1), some (.int p2), none] [] sh G0
  refine aw_aloadn C dX0_translateOption_0 rfl ?_
  refine aw_getI C dX0_translateOption_1 kcX0 (sA_14 S) 2 (by decide) rfl mF_X0_23 ?_
  refine aw_istore C dX0_translateOption_4 (by decide) rfl ?_
  refine aw_aloadn C dX0_translateOption_6 rfl ?_
  refine aw_bipush (v := 41) C dX0_translateOption_7 (by decide) ?_
  refine aw_iloadn C dX0_translateOption_9 rfl ?_
  refine aw_callV C dX0_translateOption_10 (t_X0_emit S 41 p1 _ _ hw) mM_X0_30 bX0_emit (sA_14 S) rfl rfl ⟨Nat.le_of_ble_eq_true rfl, Nat.le_of_ble_eq_true rfl, Nat.zero_le _, Nat.zero_le _⟩ _ rfl (Nat.le_of_ble_eq_true rfl) (fun r10 G1 hq => ?_)
  obtain ⟨rfl, hw⟩ := hq
  refine aw_aloadn C dX0_translateOption_13 rfl ?_
  refine aw_bipush (v := 47) C dX0_translateOption_14 (by decide) ?_
  refine aw_iload C dX0_translateOption_16 rfl ?_
  refine aw_iconst (v := 4) C dX0_translateOption_18 (by decide) ?_
  refine aw_iadd C dX0_translateOption_19 ?_
  refine aw_callV C dX0_translateOption_20 (t_X0_emit S 47 ((G0 14 2) + 4) _ _ hw) mM_X0_30 bX0_emit (sA_14 S) rfl rfl ⟨Nat.le_of_ble_eq_true rfl, Nat.le_of_ble_eq_true rfl, Nat.zero_le _, Nat.zero_le _⟩ _ rfl (Nat.le_of_ble_eq_true rfl) (fun r20 G2 hq => ?_)
  obtain ⟨rfl, hw⟩ := hq
  refine aw_aloadn C dX0_translateOption_23 rfl ?_
  refine aw_bipush (v := 26) C dX0_translateOption_24 (by decide) ?_
  refine aw_iloadn C dX0_translateOption_26 rfl ?_
  refine aw_callV C dX0_translateOption_27 (t_X0_emit S 26 p0 _ _ hw) mM_X0_30 bX0_emit (sA_14 S) rfl rfl ⟨Nat.le_of_ble_eq_true rfl, Nat.le_of_ble_eq_true rfl, Nat.zero_le _, Nat.zero_le _⟩ _ rfl (Nat.le_of_ble_eq_true rfl) (fun r27 G3 hq => ?_)
  obtain ⟨rfl, hw⟩ := hq
  refine aw_aloadn C dX0_translateOption_30 rfl ?_
  refine aw_bipush (v := 41) C dX0_translateOption_31 (by decide) ?_
  refine aw_iloadn C dX0_translateOption_33 rfl ?_
  refine aw_callV C dX0_translateOption_34 (t_X0_emit S 41 p2 _ _ hw) mM_X0_30 bX0_emit (sA_14 S) rfl rfl ⟨Nat.le_of_ble_eq_true rfl, Nat.le_of_ble_eq_true rfl, Nat.zero_le _, Nat.zero_le _⟩ _ rfl (Nat.le_of_ble_eq_true rfl) (fun r34 G4 hq => ?_)
  obtain ⟨rfl, hw⟩ := hq
  refine aw_aloadn C dX0_translateOption_37 rfl ?_
  refine aw_bipush (v := 53) C dX0_translateOption_38 (by decide) ?_
  refine aw_iloadn C dX0_translateOption_40 rfl ?_
  refine aw_callV C dX0_translateOption_41 (t_X0_emit S 53 p0 _ _ hw) mM_X0_30 bX0_emit (sA_14 S) rfl rfl ⟨Nat.le_of_ble_eq_true rfl, Nat.le_of_ble_eq_true rfl, Nat.zero_le _, Nat.zero_le _⟩ _ rfl (Nat.le_of_ble_eq_true rfl) (fun r41 G5 hq => ?_)
  obtain ⟨rfl, hw⟩ := hq
  exact aw_return C hr dX0_translateOption_44 ⟨rfl, hw⟩
def w_X0_translateEach (K : Gt → Prop) (p0 : Int32) (G0 : Gt) : Prop :=
  w_X0_emit (fun G1 =>
    w_X0_emit (fun G2 =>
      w_X0_emit (fun G3 =>
        w_X0_emit (fun G4 =>
          w_X0_emit (fun G5 =>
            w_X0_emit (fun G6 =>
              w_X0_emit (fun G7 =>
                K G7) 56 (-1) G6) 55 (-1) G5) 45 ((G0 14 2) + 2) G4) 41 p0 G3) 54 ((G0 14 2) + 5) G2) 36 (-1) G1) 47 ((G0 14 2) + 6) G0
set_option maxHeartbeats 4000000 in
set_option maxRecDepth 100000 in
theorem t_X0_translateEach {l : Launch} {sh : Sh} (S : shOK sh) (p0 : Int32) (G0 : Gt) (K : Gt → Prop) (hw : w_X0_translateEach K p0 G0) : CT0 l yX0_translateEach cX0_translateEach 3 none 2 44 [.ref 14, .int p0] sh G0 (fun r G' => r = none ∧ K G') := by
  refine CT0_of (by decide) (Nat.le_of_ble_eq_true rfl) rfl ?_
  intro p e s m args below meth c D tA ad A C hr _
  unfold w_X0_translateEach at hw
  show aw p l e { frames := 2, cells := 0, slots := 0, locals := 44 } s m args below meth c 3 D tA A (MQ below (QC0 D tA ad A sh (fun r G' => r = none ∧ K G')) args s 0 0 A) 0 0 ad 0 [some (.ref 14), some (.int p0), none] [] sh G0
  refine aw_aloadn C dX0_translateEach_0 rfl ?_
  refine aw_getI C dX0_translateEach_1 kcX0 (sA_14 S) 2 (by decide) rfl mF_X0_23 ?_
  refine aw_istoren C dX0_translateEach_4 (by decide) rfl ?_
  refine aw_aloadn C dX0_translateEach_5 rfl ?_
  refine aw_bipush (v := 47) C dX0_translateEach_6 (by decide) ?_
  refine aw_iloadn C dX0_translateEach_8 rfl ?_
  refine aw_bipush (v := 6) C dX0_translateEach_9 (by decide) ?_
  refine aw_iadd C dX0_translateEach_11 ?_
  refine aw_callV C dX0_translateEach_12 (t_X0_emit S 47 ((G0 14 2) + 6) _ _ hw) mM_X0_30 bX0_emit (sA_14 S) rfl rfl ⟨Nat.le_of_ble_eq_true rfl, Nat.le_of_ble_eq_true rfl, Nat.zero_le _, Nat.zero_le _⟩ _ rfl (Nat.le_of_ble_eq_true rfl) (fun r12 G1 hq => ?_)
  obtain ⟨rfl, hw⟩ := hq
  refine aw_aloadn C dX0_translateEach_15 rfl ?_
  refine aw_bipush (v := 36) C dX0_translateEach_16 (by decide) ?_
  refine aw_iconst (v := (-1)) C dX0_translateEach_18 (by decide) ?_
  refine aw_callV C dX0_translateEach_19 (t_X0_emit S 36 (-1) _ _ hw) mM_X0_30 bX0_emit (sA_14 S) rfl rfl ⟨Nat.le_of_ble_eq_true rfl, Nat.le_of_ble_eq_true rfl, Nat.zero_le _, Nat.zero_le _⟩ _ rfl (Nat.le_of_ble_eq_true rfl) (fun r19 G2 hq => ?_)
  obtain ⟨rfl, hw⟩ := hq
  refine aw_aloadn C dX0_translateEach_22 rfl ?_
  refine aw_bipush (v := 54) C dX0_translateEach_23 (by decide) ?_
  refine aw_iloadn C dX0_translateEach_25 rfl ?_
  refine aw_iconst (v := 5) C dX0_translateEach_26 (by decide) ?_
  refine aw_iadd C dX0_translateEach_27 ?_
  refine aw_callV C dX0_translateEach_28 (t_X0_emit S 54 ((G0 14 2) + 5) _ _ hw) mM_X0_30 bX0_emit (sA_14 S) rfl rfl ⟨Nat.le_of_ble_eq_true rfl, Nat.le_of_ble_eq_true rfl, Nat.zero_le _, Nat.zero_le _⟩ _ rfl (Nat.le_of_ble_eq_true rfl) (fun r28 G3 hq => ?_)
  obtain ⟨rfl, hw⟩ := hq
  refine aw_aloadn C dX0_translateEach_31 rfl ?_
  refine aw_bipush (v := 41) C dX0_translateEach_32 (by decide) ?_
  refine aw_iloadn C dX0_translateEach_34 rfl ?_
  refine aw_callV C dX0_translateEach_35 (t_X0_emit S 41 p0 _ _ hw) mM_X0_30 bX0_emit (sA_14 S) rfl rfl ⟨Nat.le_of_ble_eq_true rfl, Nat.le_of_ble_eq_true rfl, Nat.zero_le _, Nat.zero_le _⟩ _ rfl (Nat.le_of_ble_eq_true rfl) (fun r35 G4 hq => ?_)
  obtain ⟨rfl, hw⟩ := hq
  refine aw_aloadn C dX0_translateEach_38 rfl ?_
  refine aw_bipush (v := 45) C dX0_translateEach_39 (by decide) ?_
  refine aw_iloadn C dX0_translateEach_41 rfl ?_
  refine aw_iconst (v := 2) C dX0_translateEach_42 (by decide) ?_
  refine aw_iadd C dX0_translateEach_43 ?_
  refine aw_callV C dX0_translateEach_44 (t_X0_emit S 45 ((G0 14 2) + 2) _ _ hw) mM_X0_30 bX0_emit (sA_14 S) rfl rfl ⟨Nat.le_of_ble_eq_true rfl, Nat.le_of_ble_eq_true rfl, Nat.zero_le _, Nat.zero_le _⟩ _ rfl (Nat.le_of_ble_eq_true rfl) (fun r44 G5 hq => ?_)
  obtain ⟨rfl, hw⟩ := hq
  refine aw_aloadn C dX0_translateEach_47 rfl ?_
  refine aw_bipush (v := 55) C dX0_translateEach_48 (by decide) ?_
  refine aw_iconst (v := (-1)) C dX0_translateEach_50 (by decide) ?_
  refine aw_callV C dX0_translateEach_51 (t_X0_emit S 55 (-1) _ _ hw) mM_X0_30 bX0_emit (sA_14 S) rfl rfl ⟨Nat.le_of_ble_eq_true rfl, Nat.le_of_ble_eq_true rfl, Nat.zero_le _, Nat.zero_le _⟩ _ rfl (Nat.le_of_ble_eq_true rfl) (fun r51 G6 hq => ?_)
  obtain ⟨rfl, hw⟩ := hq
  refine aw_aloadn C dX0_translateEach_54 rfl ?_
  refine aw_bipush (v := 56) C dX0_translateEach_55 (by decide) ?_
  refine aw_iconst (v := (-1)) C dX0_translateEach_57 (by decide) ?_
  refine aw_callV C dX0_translateEach_58 (t_X0_emit S 56 (-1) _ _ hw) mM_X0_30 bX0_emit (sA_14 S) rfl rfl ⟨Nat.le_of_ble_eq_true rfl, Nat.le_of_ble_eq_true rfl, Nat.zero_le _, Nat.zero_le _⟩ _ rfl (Nat.le_of_ble_eq_true rfl) (fun r58 G7 hq => ?_)
  obtain ⟨rfl, hw⟩ := hq
  exact aw_return C hr dX0_translateEach_61 ⟨rfl, hw⟩
def w_X4_lacksPart_j71 (K : Int32 → Gt → Prop) (rec3 : Int32 → Int32 → Int32 → Int32 → Int32 → Gt → Prop) (x1 : Int32) (x2 : Int32) (x3 : Int32) (x4 : Int32) (x5 : Int32) (G0 : Gt) : Prop :=
  rec3 x1 x2 x3 x4 (x5 + 1) G0
def w_X4_lacksPart_j47 (K : Int32 → Gt → Prop) (rec3 : Int32 → Int32 → Int32 → Int32 → Int32 → Gt → Prop) (x1 : Int32) (x2 : Int32) (x3 : Int32) (x4 : Int32) (x5 : Int32) (x6 : Int32) (x7 : Int32) (G0 : Gt) : Prop :=
  pif (x6 = 111) (
    pif (x7 = (-1)) (
      w_X4_lacksPart_j71 K rec3 x1 x2 x3 x4 x5 G0) (
      w_X4_has (fun v4 G3 =>
        pif (v4 = 0) (
          K 1 G3) (
          w_X4_lacksPart_j71 K rec3 x1 x2 x3 x4 x5 G3)) x7 G0)) (
    w_X4_lacksPart_j71 K rec3 x1 x2 x3 x4 x5 G0)
def w_X4_lacksPart_h3 (K : Int32 → Gt → Prop) : Nat → Int32 → Int32 → Int32 → Int32 → Int32 → Gt → Prop
  | 0, _, _, _, _, _, _ => False
  | n + 1, x1, x2, x3, x4, x5, G0 =>
    pif (3 ≤ x5) (
      K 0 G0) (
      w_X4_choose (fun v2 G1 =>
        pif ((shp x1 x5 x3) = 112) (
          w_X4_has (fun v6 G5 =>
            pif (v6 = 0) (
              K 1 G5) (
              w_X4_lacksPart_j47 K (fun z0 z1 z2 z3 z4 z5 => w_X4_lacksPart_h3 K n z0 z1 z2 z3 z4 z5) x1 x2 x3 x4 x5 (shp x1 x5 x3) v2 G5)) v2 G1) (
          w_X4_lacksPart_j47 K (fun z0 z1 z2 z3 z4 z5 => w_X4_lacksPart_h3 K n z0 z1 z2 z3 z4 z5) x1 x2 x3 x4 x5 (shp x1 x5 x3) v2 G1)) x5 x2 x3 x4 G0)
def w_X4_lacksPart (K : Int32 → Gt → Prop) (p0 : Int32) (p1 : Int32) (p2 : Int32) (p3 : Int32) (G0 : Gt) : Prop :=
  ∃ i, w_X4_lacksPart_h3 K i p0 p1 p2 p3 0 G0
set_option maxHeartbeats 4000000 in
set_option maxRecDepth 100000 in
theorem t_X4_lacksPart {l : Launch} {sh : Sh} (S : shOK sh) (p0 : Int32) (p1 : Int32) (p2 : Int32) (p3 : Int32) (G0 : Gt) (K : Int32 → Gt → Prop) (hw : w_X4_lacksPart K p0 p1 p2 p3 G0) : CT0 l yX4_lacksPart cX4_lacksPart 8 (some .boolean) 5 109 [.ref 1, .int p0, .int p1, .int p2, .int p3] sh G0 (fun r G' => ∃ v, r = some (.int v) ∧ K v G') := by
  refine CT0_of (by decide) (Nat.le_of_ble_eq_true rfl) rfl ?_
  intro p e s m args below meth c D tA ad A C hr _
  have h71 : ∀ (rec3 : Int32 → Int32 → Int32 → Int32 → Int32 → Gt → Prop) (hrec3 : ∀ (x1 : Int32) (x2 : Int32) (x3 : Int32) (x4 : Int32) (x5 : Int32) (G0 : Gt), rec3 x1 x2 x3 x4 x5 G0 → aw p l e { frames := 5, cells := 0, slots := 0, locals := 109 } s m args below meth c 8 D tA A (MQ below (QC0 D tA ad A sh (fun r G' => ∃ v, r = some (.int v) ∧ K v G')) args s 0 0 A) 0 0 ad 3 [some (.ref 1), some (.int x1), some (.int x2), some (.int x3), some (.int x4), some (.int x5), none, none] [] sh G0) (x1 : Int32) (x2 : Int32) (x3 : Int32) (x4 : Int32) (x5 : Int32) (G0 : Gt), w_X4_lacksPart_j71 K rec3 x1 x2 x3 x4 x5 G0 → aw p l e { frames := 5, cells := 0, slots := 0, locals := 109 } s m args below meth c 8 D tA A (MQ below (QC0 D tA ad A sh (fun r G' => ∃ v, r = some (.int v) ∧ K v G')) args s 0 0 A) 0 0 ad 71 [some (.ref 1), some (.int x1), some (.int x2), some (.int x3), some (.int x4), some (.int x5), none, none] [] sh G0 := by
    intro rec3 hrec3 x1 x2 x3 x4 x5 G0 hw
    unfold w_X4_lacksPart_j71 at hw
    refine aw_iinc (w := (x5 + 1)) C dX4_lacksPart_71 rfl rfl (by decide) rfl ?_
    refine aw_goto (tgt := 3) C dX4_lacksPart_74 (by decide) ?_
    exact aw_msk [true, true, true, true, true, true, false, false] (hrec3 x1 x2 x3 x4 (x5 + 1) _ hw)
  have h47 : ∀ (rec3 : Int32 → Int32 → Int32 → Int32 → Int32 → Gt → Prop) (hrec3 : ∀ (x1 : Int32) (x2 : Int32) (x3 : Int32) (x4 : Int32) (x5 : Int32) (G0 : Gt), rec3 x1 x2 x3 x4 x5 G0 → aw p l e { frames := 5, cells := 0, slots := 0, locals := 109 } s m args below meth c 8 D tA A (MQ below (QC0 D tA ad A sh (fun r G' => ∃ v, r = some (.int v) ∧ K v G')) args s 0 0 A) 0 0 ad 3 [some (.ref 1), some (.int x1), some (.int x2), some (.int x3), some (.int x4), some (.int x5), none, none] [] sh G0) (x1 : Int32) (x2 : Int32) (x3 : Int32) (x4 : Int32) (x5 : Int32) (x6 : Int32) (x7 : Int32) (G0 : Gt), w_X4_lacksPart_j47 K rec3 x1 x2 x3 x4 x5 x6 x7 G0 → aw p l e { frames := 5, cells := 0, slots := 0, locals := 109 } s m args below meth c 8 D tA A (MQ below (QC0 D tA ad A sh (fun r G' => ∃ v, r = some (.int v) ∧ K v G')) args s 0 0 A) 0 0 ad 47 [some (.ref 1), some (.int x1), some (.int x2), some (.int x3), some (.int x4), some (.int x5), some (.int x6), some (.int x7)] [] sh G0 := by
    intro rec3 hrec3 x1 x2 x3 x4 x5 x6 x7 G0 hw
    unfold w_X4_lacksPart_j47 at hw
    refine aw_iload C dX4_lacksPart_47 rfl ?_
    refine aw_bipush (v := 111) C dX4_lacksPart_49 (by decide) ?_
    refine aw_ic_ne C dX4_lacksPart_51 71 (by decide) hw (fun hc51 hw => ?_) (fun hc51 hw => ?_)
    · exact aw_msk [true, true, true, true, true, true, false, false] (h71 _ hrec3 x1 x2 x3 x4 x5 _ hw)
    · refine aw_iload C dX4_lacksPart_54 rfl ?_
      refine aw_iconst (v := (-1)) C dX4_lacksPart_56 (by decide) ?_
      refine aw_ic_eq C dX4_lacksPart_57 71 (by decide) hw (fun hc57 hw => ?_) (fun hc57 hw => ?_)
      · exact aw_msk [true, true, true, true, true, true, false, false] (h71 _ hrec3 x1 x2 x3 x4 x5 _ hw)
      · refine aw_aloadn C dX4_lacksPart_60 rfl ?_
        refine aw_iload C dX4_lacksPart_61 rfl ?_
        refine aw_callV C dX4_lacksPart_63 (t_X4_has S x7 _ _ hw) mM_X4_70 bX4_has (sA_1 S) rfl rfl ⟨Nat.le_of_ble_eq_true rfl, Nat.le_of_ble_eq_true rfl, Nat.zero_le _, Nat.zero_le _⟩ _ rfl (Nat.le_of_ble_eq_true rfl) (fun r63 G3 hq => ?_)
        obtain ⟨v4, rfl, hw⟩ := hq
        refine aw_if_ne C dX4_lacksPart_66 71 (by decide) hw (fun hc66 hw => ?_) (fun hc66 hw => ?_)
        · exact aw_msk [true, true, true, true, true, true, false, false] (h71 _ hrec3 x1 x2 x3 x4 x5 _ hw)
        · refine aw_iconst (v := 1) C dX4_lacksPart_69 (by decide) ?_
          exact aw_zreturn C hr dX4_lacksPart_70 rfl ⟨_, rfl, hw⟩
  have h3 : ∀ (n : Nat) (x1 : Int32) (x2 : Int32) (x3 : Int32) (x4 : Int32) (x5 : Int32) (G0 : Gt), w_X4_lacksPart_h3 K n x1 x2 x3 x4 x5 G0 → aw p l e { frames := 5, cells := 0, slots := 0, locals := 109 } s m args below meth c 8 D tA A (MQ below (QC0 D tA ad A sh (fun r G' => ∃ v, r = some (.int v) ∧ K v G')) args s 0 0 A) 0 0 ad 3 [some (.ref 1), some (.int x1), some (.int x2), some (.int x3), some (.int x4), some (.int x5), none, none] [] sh G0 := by
    intro  n
    induction n with
    | zero => intro x1 x2 x3 x4 x5 G0 hw; exact hw.elim
    | succ n ih =>
      intro x1 x2 x3 x4 x5 G0 hw
      rw [w_X4_lacksPart_h3] at hw
      refine aw_iload C dX4_lacksPart_3 rfl ?_
      refine aw_iconst (v := 3) C dX4_lacksPart_5 (by decide) ?_
      refine aw_ic_ge C dX4_lacksPart_6 77 (by decide) hw (fun hc6 hw => ?_) (fun hc6 hw => ?_)
      · refine aw_iconst (v := 0) C dX4_lacksPart_77 (by decide) ?_
        exact aw_zreturn C hr dX4_lacksPart_78 rfl ⟨_, rfl, hw⟩
      · refine aw_iloadn C dX4_lacksPart_9 rfl ?_
        refine aw_iload C dX4_lacksPart_10 rfl ?_
        refine aw_iloadn C dX4_lacksPart_12 rfl ?_
        refine aw_callS C dX4_lacksPart_13 (t_shapeOf x1 x5 x3 _) mM_X4_62 bX4_shapeOf rfl rfl ⟨Nat.le_of_ble_eq_true rfl, Nat.le_of_ble_eq_true rfl, Nat.zero_le _, Nat.zero_le _⟩ _ rfl (Nat.le_of_ble_eq_true rfl) (fun r13 G13x hq => ?_)
        obtain ⟨rfl, rfl⟩ := hq
        refine aw_istore C dX4_lacksPart_16 (by decide) rfl ?_
        refine aw_iload C dX4_lacksPart_18 rfl ?_
        refine aw_iloadn C dX4_lacksPart_20 rfl ?_
        refine aw_iloadn C dX4_lacksPart_21 rfl ?_
        refine aw_iload C dX4_lacksPart_22 rfl ?_
        refine aw_callS C dX4_lacksPart_24 (t_X4_choose x5 x2 x3 x4 _ _ hw) mM_X4_66 bX4_choose rfl rfl ⟨Nat.le_of_ble_eq_true rfl, Nat.le_of_ble_eq_true rfl, Nat.zero_le _, Nat.zero_le _⟩ _ rfl (Nat.le_of_ble_eq_true rfl) (fun r24 G1 hq => ?_)
        obtain ⟨v2, rfl, hw⟩ := hq
        refine aw_istore C dX4_lacksPart_27 (by decide) rfl ?_
        refine aw_iload C dX4_lacksPart_29 rfl ?_
        refine aw_bipush (v := 112) C dX4_lacksPart_31 (by decide) ?_
        refine aw_ic_ne C dX4_lacksPart_33 47 (by decide) hw (fun hc33 hw => ?_) (fun hc33 hw => ?_)
        · exact aw_msk [true, true, true, true, true, true, true, true] (h47 _ ih x1 x2 x3 x4 x5 (shp x1 x5 x3) v2 _ hw)
        · refine aw_aloadn C dX4_lacksPart_36 rfl ?_
          refine aw_iload C dX4_lacksPart_37 rfl ?_
          refine aw_callV C dX4_lacksPart_39 (t_X4_has S v2 _ _ hw) mM_X4_70 bX4_has (sA_1 S) rfl rfl ⟨Nat.le_of_ble_eq_true rfl, Nat.le_of_ble_eq_true rfl, Nat.zero_le _, Nat.zero_le _⟩ _ rfl (Nat.le_of_ble_eq_true rfl) (fun r39 G5 hq => ?_)
          obtain ⟨v6, rfl, hw⟩ := hq
          refine aw_if_ne C dX4_lacksPart_42 47 (by decide) hw (fun hc42 hw => ?_) (fun hc42 hw => ?_)
          · exact aw_msk [true, true, true, true, true, true, true, true] (h47 _ ih x1 x2 x3 x4 x5 (shp x1 x5 x3) v2 _ hw)
          · refine aw_iconst (v := 1) C dX4_lacksPart_45 (by decide) ?_
            exact aw_zreturn C hr dX4_lacksPart_46 rfl ⟨_, rfl, hw⟩
  unfold w_X4_lacksPart at hw
  show aw p l e { frames := 5, cells := 0, slots := 0, locals := 109 } s m args below meth c 8 D tA A (MQ below (QC0 D tA ad A sh (fun r G' => ∃ v, r = some (.int v) ∧ K v G')) args s 0 0 A) 0 0 ad 0 [some (.ref 1), some (.int p0), some (.int p1), some (.int p2), some (.int p3), none, none, none] [] sh G0
  refine aw_iconst (v := 0) C dX4_lacksPart_0 (by decide) ?_
  refine aw_istore C dX4_lacksPart_1 (by decide) rfl ?_
  obtain ⟨n0, hw⟩ := hw
  exact aw_msk [true, true, true, true, true, true, false, false] (h3 n0 p0 p1 p2 p3 0 _ hw)
def w_X4_isShaped_h14 (K : Int32 → Gt → Prop) : Nat → Int32 → Int32 → Int32 → Int32 → Int32 → Gt → Prop
  | 0, _, _, _, _, _, _ => False
  | n + 1, x1, x2, x3, x4, x5, G0 =>
    pif (3 ≤ x5) (
      K 1 G0) (
      w_X4_choose (fun v2 G1 =>
        w_X4_fits (fun v4 G3 =>
          pif (v4 = 0) (
            K 0 G3) (
            (w_X4_isShaped_h14 K n) x1 x2 x3 x4 (x5 + 1) G3)) (shp x1 x5 x3) v2 G1) x5 x2 x3 x4 G0)
def w_X4_isShaped (K : Int32 → Gt → Prop) (p0 : Int32) (p1 : Int32) (p2 : Int32) (p3 : Int32) (G0 : Gt) : Prop :=
  pif ((ibl p0 40) = 0) (
    K 0 G0) (
    ∃ i, w_X4_isShaped_h14 K i p0 p1 p2 p3 0 G0)
set_option maxHeartbeats 4000000 in
set_option maxRecDepth 100000 in
theorem t_X4_isShaped {l : Launch} {sh : Sh} (S : shOK sh) (p0 : Int32) (p1 : Int32) (p2 : Int32) (p3 : Int32) (G0 : Gt) (K : Int32 → Gt → Prop) (hw : w_X4_isShaped K p0 p1 p2 p3 G0) : CT0 l yX4_isShaped cX4_isShaped 6 (some .boolean) 5 109 [.ref 1, .int p0, .int p1, .int p2, .int p3] sh G0 (fun r G' => ∃ v, r = some (.int v) ∧ K v G') := by
  refine CT0_of (by decide) (Nat.le_of_ble_eq_true rfl) rfl ?_
  intro p e s m args below meth c D tA ad A C hr _
  have h14 : ∀ (n : Nat) (x1 : Int32) (x2 : Int32) (x3 : Int32) (x4 : Int32) (x5 : Int32) (G0 : Gt), w_X4_isShaped_h14 K n x1 x2 x3 x4 x5 G0 → aw p l e { frames := 5, cells := 0, slots := 0, locals := 109 } s m args below meth c 6 D tA A (MQ below (QC0 D tA ad A sh (fun r G' => ∃ v, r = some (.int v) ∧ K v G')) args s 0 0 A) 0 0 ad 14 [none, some (.int x1), some (.int x2), some (.int x3), some (.int x4), some (.int x5)] [] sh G0 := by
    intro  n
    induction n with
    | zero => intro x1 x2 x3 x4 x5 G0 hw; exact hw.elim
    | succ n ih =>
      intro x1 x2 x3 x4 x5 G0 hw
      rw [w_X4_isShaped_h14] at hw
      refine aw_iload C dX4_isShaped_14 rfl ?_
      refine aw_iconst (v := 3) C dX4_isShaped_16 (by decide) ?_
      refine aw_ic_ge C dX4_isShaped_17 50 (by decide) hw (fun hc17 hw => ?_) (fun hc17 hw => ?_)
      · refine aw_iconst (v := 1) C dX4_isShaped_50 (by decide) ?_
        exact aw_zreturn C hr dX4_isShaped_51 rfl ⟨_, rfl, hw⟩
      · refine aw_iloadn C dX4_isShaped_20 rfl ?_
        refine aw_iload C dX4_isShaped_21 rfl ?_
        refine aw_iloadn C dX4_isShaped_23 rfl ?_
        refine aw_callS C dX4_isShaped_24 (t_shapeOf x1 x5 x3 _) mM_X4_62 bX4_shapeOf rfl rfl ⟨Nat.le_of_ble_eq_true rfl, Nat.le_of_ble_eq_true rfl, Nat.zero_le _, Nat.zero_le _⟩ _ rfl (Nat.le_of_ble_eq_true rfl) (fun r24 G24x hq => ?_)
        obtain ⟨rfl, rfl⟩ := hq
        refine aw_iload C dX4_isShaped_27 rfl ?_
        refine aw_iloadn C dX4_isShaped_29 rfl ?_
        refine aw_iloadn C dX4_isShaped_30 rfl ?_
        refine aw_iload C dX4_isShaped_31 rfl ?_
        refine aw_callS C dX4_isShaped_33 (t_X4_choose x5 x2 x3 x4 _ _ hw) mM_X4_66 bX4_choose rfl rfl ⟨Nat.le_of_ble_eq_true rfl, Nat.le_of_ble_eq_true rfl, Nat.zero_le _, Nat.zero_le _⟩ _ rfl (Nat.le_of_ble_eq_true rfl) (fun r33 G1 hq => ?_)
        obtain ⟨v2, rfl, hw⟩ := hq
        refine aw_callS C dX4_isShaped_36 (t_X4_fits (shp x1 x5 x3) v2 _ _ hw) mM_X4_74 bX4_fits rfl rfl ⟨Nat.le_of_ble_eq_true rfl, Nat.le_of_ble_eq_true rfl, Nat.zero_le _, Nat.zero_le _⟩ _ rfl (Nat.le_of_ble_eq_true rfl) (fun r36 G3 hq => ?_)
        obtain ⟨v4, rfl, hw⟩ := hq
        refine aw_if_ne C dX4_isShaped_39 44 (by decide) hw (fun hc39 hw => ?_) (fun hc39 hw => ?_)
        · refine aw_iinc (w := (x5 + 1)) C dX4_isShaped_44 rfl rfl (by decide) rfl ?_
          refine aw_goto (tgt := 14) C dX4_isShaped_47 (by decide) ?_
          exact aw_msk [false, true, true, true, true, true] (ih x1 x2 x3 x4 (x5 + 1) _ hw)
        · refine aw_iconst (v := 0) C dX4_isShaped_42 (by decide) ?_
          exact aw_zreturn C hr dX4_isShaped_43 rfl ⟨_, rfl, hw⟩
  unfold w_X4_isShaped at hw
  show aw p l e { frames := 5, cells := 0, slots := 0, locals := 109 } s m args below meth c 6 D tA A (MQ below (QC0 D tA ad A sh (fun r G' => ∃ v, r = some (.int v) ∧ K v G')) args s 0 0 A) 0 0 ad 0 [some (.ref 1), some (.int p0), some (.int p1), some (.int p2), some (.int p3), none] [] sh G0
  refine aw_iloadn C dX4_isShaped_0 rfl ?_
  refine aw_bipush (v := 40) C dX4_isShaped_1 (by decide) ?_
  refine aw_callSN C dX4_isShaped_3 (t_isBelow p0 40 _) mE_X4_46 bX10_isBelow rfl ⟨Nat.le_of_ble_eq_true rfl, Nat.le_of_ble_eq_true rfl, Nat.zero_le _, Nat.zero_le _⟩ _ rfl (Nat.le_of_ble_eq_true rfl) (fun r3 G3x hq => ?_)
  obtain ⟨rfl, rfl⟩ := hq
  refine aw_if_ne C dX4_isShaped_6 11 (by decide) hw (fun hc6 hw => ?_) (fun hc6 hw => ?_)
  · refine aw_iconst (v := 0) C dX4_isShaped_11 (by decide) ?_
    refine aw_istore C dX4_isShaped_12 (by decide) rfl ?_
    obtain ⟨n0, hw⟩ := hw
    exact aw_msk [false, true, true, true, true, true] (h14 n0 p0 p1 p2 p3 0 _ hw)
  · refine aw_iconst (v := 0) C dX4_isShaped_9 (by decide) ?_
    exact aw_zreturn C hr dX4_isShaped_10 rfl ⟨_, rfl, hw⟩
def w_X4_hasRoom_j29 (K : Int32 → Gt → Prop) (y0 : Int32) (G0 : Gt) : Prop :=
  bz y0 ∧ K y0 G0
def w_X4_hasRoom_j28 (K : Int32 → Gt → Prop)  (G0 : Gt) : Prop :=
  w_X4_hasRoom_j29 K 0 G0
def w_X4_hasRoom (K : Int32 → Gt → Prop) (p0 : Int32) (p1 : Int32) (p2 : Int32) (p3 : Int32) (G0 : Gt) : Prop :=
  pif (120 ≤ (G0 1 7)) (
    w_X4_hasRoom_j28 K G0) (
    w_X4_sizeWith (fun v2 G1 =>
      pif (150 < v2) (
        w_X4_hasRoom_j28 K G1) (
        w_X4_hasRoom_j29 K 1 G1)) p0 p1 p2 p3 G0)
set_option maxHeartbeats 4000000 in
set_option maxRecDepth 100000 in
theorem t_X4_hasRoom {l : Launch} {sh : Sh} (S : shOK sh) (p0 : Int32) (p1 : Int32) (p2 : Int32) (p3 : Int32) (G0 : Gt) (K : Int32 → Gt → Prop) (hw : w_X4_hasRoom K p0 p1 p2 p3 G0) : CT0 l yX4_hasRoom cX4_hasRoom 5 (some .boolean) 6 137 [.ref 1, .int p0, .int p1, .int p2, .int p3] sh G0 (fun r G' => ∃ v, r = some (.int v) ∧ K v G') := by
  refine CT0_of (by decide) (Nat.le_of_ble_eq_true rfl) rfl ?_
  intro p e s m args below meth c D tA ad A C hr _
  have h29 : ∀ (y0 : Int32) (G0 : Gt), w_X4_hasRoom_j29 K y0 G0 → aw p l e { frames := 6, cells := 0, slots := 0, locals := 137 } s m args below meth c 5 D tA A (MQ below (QC0 D tA ad A sh (fun r G' => ∃ v, r = some (.int v) ∧ K v G')) args s 0 0 A) 0 0 ad 29 [none, none, none, none, none] [.int y0] sh G0 := by
    intro  y0 G0 hw
    unfold w_X4_hasRoom_j29 at hw
    exact aw_zreturn C hr dX4_hasRoom_29 (bz_n hw.1) ⟨_, rfl, hw.2⟩
  have h28 : ∀ (G0 : Gt), w_X4_hasRoom_j28 K  G0 → aw p l e { frames := 6, cells := 0, slots := 0, locals := 137 } s m args below meth c 5 D tA A (MQ below (QC0 D tA ad A sh (fun r G' => ∃ v, r = some (.int v) ∧ K v G')) args s 0 0 A) 0 0 ad 28 [none, none, none, none, none] [] sh G0 := by
    intro   G0 hw
    unfold w_X4_hasRoom_j28 at hw
    refine aw_iconst (v := 0) C dX4_hasRoom_28 (by decide) ?_
    exact aw_msk [false, false, false, false, false] (h29 0 _ hw)
  unfold w_X4_hasRoom at hw
  show aw p l e { frames := 6, cells := 0, slots := 0, locals := 137 } s m args below meth c 5 D tA A (MQ below (QC0 D tA ad A sh (fun r G' => ∃ v, r = some (.int v) ∧ K v G')) args s 0 0 A) 0 0 ad 0 [some (.ref 1), some (.int p0), some (.int p1), some (.int p2), some (.int p3)] [] sh G0
  refine aw_aloadn C dX4_hasRoom_0 rfl ?_
  refine aw_getI C dX4_hasRoom_1 kcX4 (sA_1 S) 7 (by decide) rfl mF_X4_42 ?_
  refine aw_bipush (v := 120) C dX4_hasRoom_4 (by decide) ?_
  refine aw_ic_ge C dX4_hasRoom_6 28 (by decide) hw (fun hc6 hw => ?_) (fun hc6 hw => ?_)
  · exact aw_msk [false, false, false, false, false] (h28 _ hw)
  · refine aw_aloadn C dX4_hasRoom_9 rfl ?_
    refine aw_iloadn C dX4_hasRoom_10 rfl ?_
    refine aw_iloadn C dX4_hasRoom_11 rfl ?_
    refine aw_iloadn C dX4_hasRoom_12 rfl ?_
    refine aw_iload C dX4_hasRoom_13 rfl ?_
    refine aw_callV C dX4_hasRoom_15 (t_X4_sizeWith S p0 p1 p2 p3 _ _ hw) mM_X4_81 bX4_sizeWith (sA_1 S) rfl rfl ⟨Nat.le_of_ble_eq_true rfl, Nat.le_of_ble_eq_true rfl, Nat.zero_le _, Nat.zero_le _⟩ _ rfl (Nat.le_of_ble_eq_true rfl) (fun r15 G1 hq => ?_)
    obtain ⟨v2, rfl, hw⟩ := hq
    refine aw_sipush (v := 150) C dX4_hasRoom_18 (by decide) ?_
    refine aw_ic_gt C dX4_hasRoom_21 28 (by decide) hw (fun hc21 hw => ?_) (fun hc21 hw => ?_)
    · exact aw_msk [false, false, false, false, false] (h28 _ hw)
    · refine aw_iconst (v := 1) C dX4_hasRoom_24 (by decide) ?_
      refine aw_goto (tgt := 29) C dX4_hasRoom_25 (by decide) ?_
      exact aw_msk [false, false, false, false, false] (h29 1 _ hw)
def w_X0_translateParts_j269 (K : Gt → Prop)  (G0 : Gt) : Prop :=
  K G0
def w_X0_translateParts_j148 (K : Gt → Prop) (x1 : Int32) (x2 : Int32) (x3 : Int32) (G0 : Gt) : Prop :=
  w_X0_emit (fun G1 =>
    w_X0_emit (fun G2 =>
      w_X0_emit (fun G3 =>
        w_X0_emit (fun G4 =>
          w_X0_translateParts_j269 K G4) x1 (-1) G3) 41 x3 G2) 44 (-1) G1) 41 x2 G0
def w_X0_translateParts_j263 (K : Gt → Prop) (x1 : Int32) (x2 : Int32) (G0 : Gt) : Prop :=
  w_X0_emit (fun G14 =>
    w_X0_translateParts_j269 K G14) x1 x2 G0
def w_X0_translateParts (K : Gt → Prop) (p0 : Int32) (p1 : Int32) (p2 : Int32) (p3 : Int32) (G0 : Gt) : Prop :=
  pif (p0 = 4) (
    w_X0_translateParts_j148 K p0 p1 p2 G0) (
  pif (p0 = 5) (
    w_X0_translateParts_j148 K p0 p1 p2 G0) (
  pif (p0 = 6) (
    w_X0_translateParts_j148 K p0 p1 p2 G0) (
  pif (p0 = 7) (
    w_X0_translateParts_j148 K p0 p1 p2 G0) (
  pif (p0 = 8) (
    w_X0_translateParts_j148 K p0 p1 p2 G0) (
  pif (p0 = 9) (
    w_X0_translateParts_j148 K p0 p1 p2 G0) (
  pif (p0 = 10) (
    w_X0_translateIf (fun G5 =>
      w_X0_translateParts_j269 K G5) p1 p2 p3 G0) (
  pif (p0 = 11) (
    w_X0_emit (fun G6 =>
      w_X0_emit (fun G7 =>
        w_X0_translateParts_j269 K G7) 41 p2 G6) 41 p1 G0) (
  pif (p0 = 12) (
    w_X0_emit (fun G8 =>
      w_X0_translateParts_j269 K G8) 42 p1 G0) (
  pif (p0 = 13) (
    w_X0_translateLoop (fun G9 =>
      w_X0_translateParts_j269 K G9) p2 G0) (
  pif (p0 = 17) (
    w_X0_translateParts_j148 K p0 p1 p2 G0) (
  pif (p0 = 20) (
    w_X0_translateTry (fun G10 =>
      w_X0_translateParts_j269 K G10) p1 p2 p3 G0) (
  pif (p0 = 21) (
    w_X0_translateFinally (fun G11 =>
      w_X0_translateParts_j269 K G11) p1 p2 G0) (
  pif (p0 = 26) (
    w_X0_translateOption (fun G12 =>
      w_X0_translateParts_j269 K G12) p1 p2 p3 G0) (
  pif (p0 = 36) (
    w_X0_translateEach (fun G13 =>
      w_X0_translateParts_j269 K G13) p1 G0) (
    w_X0_translateParts_j263 K p0 p1 G0)))))))))))))))
set_option maxHeartbeats 4000000 in
set_option maxRecDepth 100000 in
theorem t_X0_translateParts {l : Launch} {sh : Sh} (S : shOK sh) (p0 : Int32) (p1 : Int32) (p2 : Int32) (p3 : Int32) (G0 : Gt) (K : Gt → Prop) (hw : w_X0_translateParts K p0 p1 p2 p3 G0) : CT0 l yX0_translateParts cX0_translateParts 5 none 3 68 [.ref 14, .int p0, .int p1, .int p2, .int p3] sh G0 (fun r G' => r = none ∧ K G') := by
  refine CT0_of (by decide) (Nat.le_of_ble_eq_true rfl) rfl ?_
  intro p e s m args below meth c D tA ad A C hr _
  have h269 : ∀ (G0 : Gt), w_X0_translateParts_j269 K  G0 → aw p l e { frames := 3, cells := 0, slots := 0, locals := 68 } s m args below meth c 5 D tA A (MQ below (QC0 D tA ad A sh (fun r G' => r = none ∧ K G')) args s 0 0 A) 0 0 ad 269 [none, none, none, none, none] [] sh G0 := by
    intro   G0 hw
    unfold w_X0_translateParts_j269 at hw
    exact aw_return C hr dX0_translateParts_269 ⟨rfl, hw⟩
  have h148 : ∀ (x1 : Int32) (x2 : Int32) (x3 : Int32) (G0 : Gt), w_X0_translateParts_j148 K x1 x2 x3 G0 → aw p l e { frames := 3, cells := 0, slots := 0, locals := 68 } s m args below meth c 5 D tA A (MQ below (QC0 D tA ad A sh (fun r G' => r = none ∧ K G')) args s 0 0 A) 0 0 ad 148 [some (.ref 14), some (.int x1), some (.int x2), some (.int x3), none] [] sh G0 := by
    intro  x1 x2 x3 G0 hw
    unfold w_X0_translateParts_j148 at hw
    refine aw_aloadn C dX0_translateParts_148 rfl ?_
    refine aw_bipush (v := 41) C dX0_translateParts_149 (by decide) ?_
    refine aw_iloadn C dX0_translateParts_151 rfl ?_
    refine aw_callV C dX0_translateParts_152 (t_X0_emit S 41 x2 _ _ hw) mM_X0_30 bX0_emit (sA_14 S) rfl rfl ⟨Nat.le_of_ble_eq_true rfl, Nat.le_of_ble_eq_true rfl, Nat.zero_le _, Nat.zero_le _⟩ _ rfl (Nat.le_of_ble_eq_true rfl) (fun r152 G1 hq => ?_)
    obtain ⟨rfl, hw⟩ := hq
    refine aw_aloadn C dX0_translateParts_155 rfl ?_
    refine aw_bipush (v := 44) C dX0_translateParts_156 (by decide) ?_
    refine aw_iconst (v := (-1)) C dX0_translateParts_158 (by decide) ?_
    refine aw_callV C dX0_translateParts_159 (t_X0_emit S 44 (-1) _ _ hw) mM_X0_30 bX0_emit (sA_14 S) rfl rfl ⟨Nat.le_of_ble_eq_true rfl, Nat.le_of_ble_eq_true rfl, Nat.zero_le _, Nat.zero_le _⟩ _ rfl (Nat.le_of_ble_eq_true rfl) (fun r159 G2 hq => ?_)
    obtain ⟨rfl, hw⟩ := hq
    refine aw_aloadn C dX0_translateParts_162 rfl ?_
    refine aw_bipush (v := 41) C dX0_translateParts_163 (by decide) ?_
    refine aw_iloadn C dX0_translateParts_165 rfl ?_
    refine aw_callV C dX0_translateParts_166 (t_X0_emit S 41 x3 _ _ hw) mM_X0_30 bX0_emit (sA_14 S) rfl rfl ⟨Nat.le_of_ble_eq_true rfl, Nat.le_of_ble_eq_true rfl, Nat.zero_le _, Nat.zero_le _⟩ _ rfl (Nat.le_of_ble_eq_true rfl) (fun r166 G3 hq => ?_)
    obtain ⟨rfl, hw⟩ := hq
    refine aw_aloadn C dX0_translateParts_169 rfl ?_
    refine aw_iloadn C dX0_translateParts_170 rfl ?_
    refine aw_iconst (v := (-1)) C dX0_translateParts_171 (by decide) ?_
    refine aw_callV C dX0_translateParts_172 (t_X0_emit S x1 (-1) _ _ hw) mM_X0_30 bX0_emit (sA_14 S) rfl rfl ⟨Nat.le_of_ble_eq_true rfl, Nat.le_of_ble_eq_true rfl, Nat.zero_le _, Nat.zero_le _⟩ _ rfl (Nat.le_of_ble_eq_true rfl) (fun r172 G4 hq => ?_)
    obtain ⟨rfl, hw⟩ := hq
    refine aw_goto (tgt := 269) C dX0_translateParts_175 (by decide) ?_
    exact aw_msk [false, false, false, false, false] (h269 _ hw)
  have h263 : ∀ (x1 : Int32) (x2 : Int32) (G0 : Gt), w_X0_translateParts_j263 K x1 x2 G0 → aw p l e { frames := 3, cells := 0, slots := 0, locals := 68 } s m args below meth c 5 D tA A (MQ below (QC0 D tA ad A sh (fun r G' => r = none ∧ K G')) args s 0 0 A) 0 0 ad 263 [some (.ref 14), some (.int x1), some (.int x2), none, none] [] sh G0 := by
    intro  x1 x2 G0 hw
    unfold w_X0_translateParts_j263 at hw
    refine aw_aloadn C dX0_translateParts_263 rfl ?_
    refine aw_iloadn C dX0_translateParts_264 rfl ?_
    refine aw_iloadn C dX0_translateParts_265 rfl ?_
    refine aw_callV C dX0_translateParts_266 (t_X0_emit S x1 x2 _ _ hw) mM_X0_30 bX0_emit (sA_14 S) rfl rfl ⟨Nat.le_of_ble_eq_true rfl, Nat.le_of_ble_eq_true rfl, Nat.zero_le _, Nat.zero_le _⟩ _ rfl (Nat.le_of_ble_eq_true rfl) (fun r266 G14 hq => ?_)
    obtain ⟨rfl, hw⟩ := hq
    exact aw_msk [false, false, false, false, false] (h269 _ hw)
  unfold w_X0_translateParts at hw
  show aw p l e { frames := 3, cells := 0, slots := 0, locals := 68 } s m args below meth c 5 D tA A (MQ below (QC0 D tA ad A sh (fun r G' => r = none ∧ K G')) args s 0 0 A) 0 0 ad 0 [some (.ref 14), some (.int p0), some (.int p1), some (.int p2), some (.int p3)] [] sh G0
  refine aw_iloadn C dX0_translateParts_0 rfl ?_
  refine sw_if hw (fun ha1_4 hw => ?_) (fun ha1_4 hw => ?_)
  · refine aw_tab C 148 dX0_translateParts_1 ha1_4 (by decide) (by decide) rfl (by decide) ?_
    exact aw_msk [true, true, true, true, false] (h148 p0 p1 p2 _ hw)
  refine sw_if hw (fun ha1_5 hw => ?_) (fun ha1_5 hw => ?_)
  · refine aw_tab C 148 dX0_translateParts_1 ha1_5 (by decide) (by decide) rfl (by decide) ?_
    exact aw_msk [true, true, true, true, false] (h148 p0 p1 p2 _ hw)
  refine sw_if hw (fun ha1_6 hw => ?_) (fun ha1_6 hw => ?_)
  · refine aw_tab C 148 dX0_translateParts_1 ha1_6 (by decide) (by decide) rfl (by decide) ?_
    exact aw_msk [true, true, true, true, false] (h148 p0 p1 p2 _ hw)
  refine sw_if hw (fun ha1_7 hw => ?_) (fun ha1_7 hw => ?_)
  · refine aw_tab C 148 dX0_translateParts_1 ha1_7 (by decide) (by decide) rfl (by decide) ?_
    exact aw_msk [true, true, true, true, false] (h148 p0 p1 p2 _ hw)
  refine sw_if hw (fun ha1_8 hw => ?_) (fun ha1_8 hw => ?_)
  · refine aw_tab C 148 dX0_translateParts_1 ha1_8 (by decide) (by decide) rfl (by decide) ?_
    exact aw_msk [true, true, true, true, false] (h148 p0 p1 p2 _ hw)
  refine sw_if hw (fun ha1_9 hw => ?_) (fun ha1_9 hw => ?_)
  · refine aw_tab C 148 dX0_translateParts_1 ha1_9 (by decide) (by decide) rfl (by decide) ?_
    exact aw_msk [true, true, true, true, false] (h148 p0 p1 p2 _ hw)
  refine sw_if hw (fun ha1_10 hw => ?_) (fun ha1_10 hw => ?_)
  · refine aw_tab C 205 dX0_translateParts_1 ha1_10 (by decide) (by decide) rfl (by decide) ?_
    refine aw_aloadn C dX0_translateParts_205 rfl ?_
    refine aw_iloadn C dX0_translateParts_206 rfl ?_
    refine aw_iloadn C dX0_translateParts_207 rfl ?_
    refine aw_iload C dX0_translateParts_208 rfl ?_
    refine aw_callV C dX0_translateParts_210 (t_X0_translateIf S p1 p2 p3 _ _ hw) mM_X0_45 bX0_translateIf (sA_14 S) rfl rfl ⟨Nat.le_of_ble_eq_true rfl, Nat.le_of_ble_eq_true rfl, Nat.zero_le _, Nat.zero_le _⟩ _ rfl (Nat.le_of_ble_eq_true rfl) (fun r210 G5 hq => ?_)
    obtain ⟨rfl, hw⟩ := hq
    refine aw_goto (tgt := 269) C dX0_translateParts_213 (by decide) ?_
    exact aw_msk [false, false, false, false, false] (h269 _ hw)
  refine sw_if hw (fun ha1_11 hw => ?_) (fun ha1_11 hw => ?_)
  · refine aw_tab C 178 dX0_translateParts_1 ha1_11 (by decide) (by decide) rfl (by decide) ?_
    refine aw_aloadn C dX0_translateParts_178 rfl ?_
    refine aw_bipush (v := 41) C dX0_translateParts_179 (by decide) ?_
    refine aw_iloadn C dX0_translateParts_181 rfl ?_
    refine aw_callV C dX0_translateParts_182 (t_X0_emit S 41 p1 _ _ hw) mM_X0_30 bX0_emit (sA_14 S) rfl rfl ⟨Nat.le_of_ble_eq_true rfl, Nat.le_of_ble_eq_true rfl, Nat.zero_le _, Nat.zero_le _⟩ _ rfl (Nat.le_of_ble_eq_true rfl) (fun r182 G6 hq => ?_)
    obtain ⟨rfl, hw⟩ := hq
    refine aw_aloadn C dX0_translateParts_185 rfl ?_
    refine aw_bipush (v := 41) C dX0_translateParts_186 (by decide) ?_
    refine aw_iloadn C dX0_translateParts_188 rfl ?_
    refine aw_callV C dX0_translateParts_189 (t_X0_emit S 41 p2 _ _ hw) mM_X0_30 bX0_emit (sA_14 S) rfl rfl ⟨Nat.le_of_ble_eq_true rfl, Nat.le_of_ble_eq_true rfl, Nat.zero_le _, Nat.zero_le _⟩ _ rfl (Nat.le_of_ble_eq_true rfl) (fun r189 G7 hq => ?_)
    obtain ⟨rfl, hw⟩ := hq
    refine aw_goto (tgt := 269) C dX0_translateParts_192 (by decide) ?_
    exact aw_msk [false, false, false, false, false] (h269 _ hw)
  refine sw_if hw (fun ha1_12 hw => ?_) (fun ha1_12 hw => ?_)
  · refine aw_tab C 195 dX0_translateParts_1 ha1_12 (by decide) (by decide) rfl (by decide) ?_
    refine aw_aloadn C dX0_translateParts_195 rfl ?_
    refine aw_bipush (v := 42) C dX0_translateParts_196 (by decide) ?_
    refine aw_iloadn C dX0_translateParts_198 rfl ?_
    refine aw_callV C dX0_translateParts_199 (t_X0_emit S 42 p1 _ _ hw) mM_X0_30 bX0_emit (sA_14 S) rfl rfl ⟨Nat.le_of_ble_eq_true rfl, Nat.le_of_ble_eq_true rfl, Nat.zero_le _, Nat.zero_le _⟩ _ rfl (Nat.le_of_ble_eq_true rfl) (fun r199 G8 hq => ?_)
    obtain ⟨rfl, hw⟩ := hq
    refine aw_goto (tgt := 269) C dX0_translateParts_202 (by decide) ?_
    exact aw_msk [false, false, false, false, false] (h269 _ hw)
  refine sw_if hw (fun ha1_13 hw => ?_) (fun ha1_13 hw => ?_)
  · refine aw_tab C 216 dX0_translateParts_1 ha1_13 (by decide) (by decide) rfl (by decide) ?_
    refine aw_aloadn C dX0_translateParts_216 rfl ?_
    refine aw_iloadn C dX0_translateParts_217 rfl ?_
    refine aw_callV C dX0_translateParts_218 (t_X0_translateLoop S p2 _ _ hw) mM_X0_48 bX0_translateLoop (sA_14 S) rfl rfl ⟨Nat.le_of_ble_eq_true rfl, Nat.le_of_ble_eq_true rfl, Nat.zero_le _, Nat.zero_le _⟩ _ rfl (Nat.le_of_ble_eq_true rfl) (fun r218 G9 hq => ?_)
    obtain ⟨rfl, hw⟩ := hq
    refine aw_goto (tgt := 269) C dX0_translateParts_221 (by decide) ?_
    exact aw_msk [false, false, false, false, false] (h269 _ hw)
  refine sw_if hw (fun ha1_17 hw => ?_) (fun ha1_17 hw => ?_)
  · refine aw_tab C 148 dX0_translateParts_1 ha1_17 (by decide) (by decide) rfl (by decide) ?_
    exact aw_msk [true, true, true, true, false] (h148 p0 p1 p2 _ hw)
  refine sw_if hw (fun ha1_20 hw => ?_) (fun ha1_20 hw => ?_)
  · refine aw_tab C 224 dX0_translateParts_1 ha1_20 (by decide) (by decide) rfl (by decide) ?_
    refine aw_aloadn C dX0_translateParts_224 rfl ?_
    refine aw_iloadn C dX0_translateParts_225 rfl ?_
    refine aw_iloadn C dX0_translateParts_226 rfl ?_
    refine aw_iload C dX0_translateParts_227 rfl ?_
    refine aw_callV C dX0_translateParts_229 (t_X0_translateTry S p1 p2 p3 _ _ hw) mM_X0_51 bX0_translateTry (sA_14 S) rfl rfl ⟨Nat.le_of_ble_eq_true rfl, Nat.le_of_ble_eq_true rfl, Nat.zero_le _, Nat.zero_le _⟩ _ rfl (Nat.le_of_ble_eq_true rfl) (fun r229 G10 hq => ?_)
    obtain ⟨rfl, hw⟩ := hq
    refine aw_goto (tgt := 269) C dX0_translateParts_232 (by decide) ?_
    exact aw_msk [false, false, false, false, false] (h269 _ hw)
  refine sw_if hw (fun ha1_21 hw => ?_) (fun ha1_21 hw => ?_)
  · refine aw_tab C 235 dX0_translateParts_1 ha1_21 (by decide) (by decide) rfl (by decide) ?_
    refine aw_aloadn C dX0_translateParts_235 rfl ?_
    refine aw_iloadn C dX0_translateParts_236 rfl ?_
    refine aw_iloadn C dX0_translateParts_237 rfl ?_
    refine aw_callV C dX0_translateParts_238 (t_X0_translateFinally S p1 p2 _ _ hw) mM_X0_54 bX0_translateFinally (sA_14 S) rfl rfl ⟨Nat.le_of_ble_eq_true rfl, Nat.le_of_ble_eq_true rfl, Nat.zero_le _, Nat.zero_le _⟩ _ rfl (Nat.le_of_ble_eq_true rfl) (fun r238 G11 hq => ?_)
    obtain ⟨rfl, hw⟩ := hq
    refine aw_goto (tgt := 269) C dX0_translateParts_241 (by decide) ?_
    exact aw_msk [false, false, false, false, false] (h269 _ hw)
  refine sw_if hw (fun ha1_26 hw => ?_) (fun ha1_26 hw => ?_)
  · refine aw_tab C 244 dX0_translateParts_1 ha1_26 (by decide) (by decide) rfl (by decide) ?_
    refine aw_aloadn C dX0_translateParts_244 rfl ?_
    refine aw_iloadn C dX0_translateParts_245 rfl ?_
    refine aw_iloadn C dX0_translateParts_246 rfl ?_
    refine aw_iload C dX0_translateParts_247 rfl ?_
    refine aw_callV C dX0_translateParts_249 (t_X0_translateOption S p1 p2 p3 _ _ hw) mM_X0_57 bX0_translateOption (sA_14 S) rfl rfl ⟨Nat.le_of_ble_eq_true rfl, Nat.le_of_ble_eq_true rfl, Nat.zero_le _, Nat.zero_le _⟩ _ rfl (Nat.le_of_ble_eq_true rfl) (fun r249 G12 hq => ?_)
    obtain ⟨rfl, hw⟩ := hq
    refine aw_goto (tgt := 269) C dX0_translateParts_252 (by decide) ?_
    exact aw_msk [false, false, false, false, false] (h269 _ hw)
  refine sw_if hw (fun ha1_36 hw => ?_) (fun ha1_36 hw => ?_)
  · refine aw_tab C 255 dX0_translateParts_1 ha1_36 (by decide) (by decide) rfl (by decide) ?_
    refine aw_aloadn C dX0_translateParts_255 rfl ?_
    refine aw_iloadn C dX0_translateParts_256 rfl ?_
    refine aw_callV C dX0_translateParts_257 (t_X0_translateEach S p1 _ _ hw) mM_X0_60 bX0_translateEach (sA_14 S) rfl rfl ⟨Nat.le_of_ble_eq_true rfl, Nat.le_of_ble_eq_true rfl, Nat.zero_le _, Nat.zero_le _⟩ _ rfl (Nat.le_of_ble_eq_true rfl) (fun r257 G13 hq => ?_)
    obtain ⟨rfl, hw⟩ := hq
    refine aw_goto (tgt := 269) C dX0_translateParts_260 (by decide) ?_
    exact aw_msk [false, false, false, false, false] (h269 _ hw)
  refine aw_tabDef C 263 dX0_translateParts_1 32 (by decide) (by decide) (by decide) (fun i hi h => ?_) (by decide) ?_
  · exact match i, hi, h with
      | 0, _, h => absurd (h.trans (by decide)) ha1_4
      | 1, _, h => absurd (h.trans (by decide)) ha1_5
      | 2, _, h => absurd (h.trans (by decide)) ha1_6
      | 3, _, h => absurd (h.trans (by decide)) ha1_7
      | 4, _, h => absurd (h.trans (by decide)) ha1_8
      | 5, _, h => absurd (h.trans (by decide)) ha1_9
      | 6, _, h => absurd (h.trans (by decide)) ha1_10
      | 7, _, h => absurd (h.trans (by decide)) ha1_11
      | 8, _, h => absurd (h.trans (by decide)) ha1_12
      | 9, _, h => absurd (h.trans (by decide)) ha1_13
      | 10, _, h => rfl
      | 11, _, h => rfl
      | 12, _, h => rfl
      | 13, _, h => absurd (h.trans (by decide)) ha1_17
      | 14, _, h => rfl
      | 15, _, h => rfl
      | 16, _, h => absurd (h.trans (by decide)) ha1_20
      | 17, _, h => absurd (h.trans (by decide)) ha1_21
      | 18, _, h => rfl
      | 19, _, h => rfl
      | 20, _, h => rfl
      | 21, _, h => rfl
      | 22, _, h => absurd (h.trans (by decide)) ha1_26
      | 23, _, h => rfl
      | 24, _, h => rfl
      | 25, _, h => rfl
      | 26, _, h => rfl
      | 27, _, h => rfl
      | 28, _, h => rfl
      | 29, _, h => rfl
      | 30, _, h => rfl
      | 31, _, h => rfl
      | 32, _, h => absurd (h.trans (by decide)) ha1_36
      | i + 33, hi, _ => absurd hi (by omega)
  exact aw_msk [true, true, true, false, false] (h263 p0 p1 _ hw)
def w_X0_translate_j267 (K : Int32 → Gt → Prop) (x5 : Int32) (G0 : Gt) : Prop :=
  w_X0_emit (fun G3 =>
    K x5 G3) 40 (-1) G0
def w_X0_translate_j168 (K : Int32 → Gt → Prop) (x1 : Int32) (x2 : Int32) (x3 : Int32) (x5 : Int32) (G0 : Gt) : Prop :=
  w_X0_emit (fun G1 =>
    w_X0_emit (fun G2 =>
      w_X0_translate_j267 K x5 G2) x1 x2 G1) 41 x3 G0
def w_X0_translate_j184 (K : Int32 → Gt → Prop) (x1 : Int32) (x2 : Int32) (x5 : Int32) (G0 : Gt) : Prop :=
  w_X0_emit (fun G5 =>
    w_X0_emit (fun G6 =>
      w_X0_translate_j267 K x5 G6) x1 (-1) G5) 41 x2 G0
def w_X0_translate_j258 (K : Int32 → Gt → Prop) (x1 : Int32) (x2 : Int32) (x3 : Int32) (x4 : Int32) (x5 : Int32) (G0 : Gt) : Prop :=
  w_X0_translateParts (fun G13 =>
    w_X0_translate_j267 K x5 G13) x1 x2 x3 x4 G0
def w_X0_translate (K : Int32 → Gt → Prop) (p0 : Int32) (p1 : Int32) (p2 : Int32) (p3 : Int32) (G0 : Gt) : Prop :=
  pif (p0 = 2) (
    w_X0_translate_j168 K p0 p1 p2 (G0 14 2) G0) (
  pif (p0 = 3) (
    w_X0_translate_j168 K p0 p1 p2 (G0 14 2) G0) (
  pif (p0 = 14) (
    w_X0_translate_j168 K p0 p1 p2 (G0 14 2) G0) (
  pif (p0 = 18) (
    w_X0_translateCall (fun G4 =>
      w_X0_translate_j267 K (G0 14 2) G4) p1 p2 p3 G0) (
  pif (p0 = 19) (
    w_X0_translate_j184 K p0 p1 (G0 14 2) G0) (
  pif (p0 = 22) (
    w_X0_translate_j184 K p0 p1 (G0 14 2) G0) (
  pif (p0 = 24) (
    w_X0_emit (fun G7 =>
      w_X0_emit (fun G8 =>
        w_X0_emit (fun G9 =>
          w_X0_translate_j267 K (G0 14 2) G9) 0 0 G8) 24 (-1) G7) 41 p1 G0) (
  pif (p0 = 25) (
    w_X0_translate_j184 K p0 p1 (G0 14 2) G0) (
  pif (p0 = 28) (
    w_X0_translate_j168 K p0 p1 p2 (G0 14 2) G0) (
  pif (p0 = 29) (
    w_X0_translateInsert (fun G10 =>
      w_X0_translate_j267 K (G0 14 2) G10) p1 G0) (
  pif (p0 = 31) (
    w_X0_translate_j184 K p0 p1 (G0 14 2) G0) (
  pif (p0 = 35) (
    w_X0_translate_j184 K p0 p1 (G0 14 2) G0) (
  pif (p0 = 37) (
    w_X0_translate_j184 K p0 p1 (G0 14 2) G0) (
  pif (p0 = 38) (
    w_X0_emit (fun G11 =>
      w_X0_emit (fun G12 =>
        w_X0_translate_j267 K (G0 14 2) G12) 38 p1 G11) 0 p2 G0) (
    w_X0_translate_j258 K p0 p1 p2 p3 (G0 14 2) G0))))))))))))))
set_option maxHeartbeats 4000000 in
set_option maxRecDepth 100000 in
theorem t_X0_translate {l : Launch} {sh : Sh} (S : shOK sh) (p0 : Int32) (p1 : Int32) (p2 : Int32) (p3 : Int32) (G0 : Gt) (K : Int32 → Gt → Prop) (hw : w_X0_translate K p0 p1 p2 p3 G0) : CT0 l yX0_translate cX0_translate 6 (some .int) 4 92 [.ref 14, .int p0, .int p1, .int p2, .int p3] sh G0 (fun r G' => ∃ v, r = some (.int v) ∧ K v G') := by
  refine CT0_of (by decide) (Nat.le_of_ble_eq_true rfl) rfl ?_
  intro p e s m args below meth c D tA ad A C hr _
  have h267 : ∀ (x5 : Int32) (G0 : Gt), w_X0_translate_j267 K x5 G0 → aw p l e { frames := 4, cells := 0, slots := 0, locals := 92 } s m args below meth c 6 D tA A (MQ below (QC0 D tA ad A sh (fun r G' => ∃ v, r = some (.int v) ∧ K v G')) args s 0 0 A) 0 0 ad 267 [some (.ref 14), none, none, none, none, some (.int x5)] [] sh G0 := by
    intro  x5 G0 hw
    unfold w_X0_translate_j267 at hw
    refine aw_aloadn C dX0_translate_267 rfl ?_
    refine aw_bipush (v := 40) C dX0_translate_268 (by decide) ?_
    refine aw_iconst (v := (-1)) C dX0_translate_270 (by decide) ?_
    refine aw_callV C dX0_translate_271 (t_X0_emit S 40 (-1) _ _ hw) mM_X0_30 bX0_emit (sA_14 S) rfl rfl ⟨Nat.le_of_ble_eq_true rfl, Nat.le_of_ble_eq_true rfl, Nat.zero_le _, Nat.zero_le _⟩ _ rfl (Nat.le_of_ble_eq_true rfl) (fun r271 G3 hq => ?_)
    obtain ⟨rfl, hw⟩ := hq
    refine aw_iload C dX0_translate_274 rfl ?_
    exact aw_ireturn C hr dX0_translate_276 ⟨_, rfl, hw⟩
  have h168 : ∀ (x1 : Int32) (x2 : Int32) (x3 : Int32) (x5 : Int32) (G0 : Gt), w_X0_translate_j168 K x1 x2 x3 x5 G0 → aw p l e { frames := 4, cells := 0, slots := 0, locals := 92 } s m args below meth c 6 D tA A (MQ below (QC0 D tA ad A sh (fun r G' => ∃ v, r = some (.int v) ∧ K v G')) args s 0 0 A) 0 0 ad 168 [some (.ref 14), some (.int x1), some (.int x2), some (.int x3), none, some (.int x5)] [] sh G0 := by
    intro  x1 x2 x3 x5 G0 hw
    unfold w_X0_translate_j168 at hw
    refine aw_aloadn C dX0_translate_168 rfl ?_
    refine aw_bipush (v := 41) C dX0_translate_169 (by decide) ?_
    refine aw_iloadn C dX0_translate_171 rfl ?_
    refine aw_callV C dX0_translate_172 (t_X0_emit S 41 x3 _ _ hw) mM_X0_30 bX0_emit (sA_14 S) rfl rfl ⟨Nat.le_of_ble_eq_true rfl, Nat.le_of_ble_eq_true rfl, Nat.zero_le _, Nat.zero_le _⟩ _ rfl (Nat.le_of_ble_eq_true rfl) (fun r172 G1 hq => ?_)
    obtain ⟨rfl, hw⟩ := hq
    refine aw_aloadn C dX0_translate_175 rfl ?_
    refine aw_iloadn C dX0_translate_176 rfl ?_
    refine aw_iloadn C dX0_translate_177 rfl ?_
    refine aw_callV C dX0_translate_178 (t_X0_emit S x1 x2 _ _ hw) mM_X0_30 bX0_emit (sA_14 S) rfl rfl ⟨Nat.le_of_ble_eq_true rfl, Nat.le_of_ble_eq_true rfl, Nat.zero_le _, Nat.zero_le _⟩ _ rfl (Nat.le_of_ble_eq_true rfl) (fun r178 G2 hq => ?_)
    obtain ⟨rfl, hw⟩ := hq
    refine aw_goto (tgt := 267) C dX0_translate_181 (by decide) ?_
    exact aw_msk [true, false, false, false, false, true] (h267 x5 _ hw)
  have h184 : ∀ (x1 : Int32) (x2 : Int32) (x5 : Int32) (G0 : Gt), w_X0_translate_j184 K x1 x2 x5 G0 → aw p l e { frames := 4, cells := 0, slots := 0, locals := 92 } s m args below meth c 6 D tA A (MQ below (QC0 D tA ad A sh (fun r G' => ∃ v, r = some (.int v) ∧ K v G')) args s 0 0 A) 0 0 ad 184 [some (.ref 14), some (.int x1), some (.int x2), none, none, some (.int x5)] [] sh G0 := by
    intro  x1 x2 x5 G0 hw
    unfold w_X0_translate_j184 at hw
    refine aw_aloadn C dX0_translate_184 rfl ?_
    refine aw_bipush (v := 41) C dX0_translate_185 (by decide) ?_
    refine aw_iloadn C dX0_translate_187 rfl ?_
    refine aw_callV C dX0_translate_188 (t_X0_emit S 41 x2 _ _ hw) mM_X0_30 bX0_emit (sA_14 S) rfl rfl ⟨Nat.le_of_ble_eq_true rfl, Nat.le_of_ble_eq_true rfl, Nat.zero_le _, Nat.zero_le _⟩ _ rfl (Nat.le_of_ble_eq_true rfl) (fun r188 G5 hq => ?_)
    obtain ⟨rfl, hw⟩ := hq
    refine aw_aloadn C dX0_translate_191 rfl ?_
    refine aw_iloadn C dX0_translate_192 rfl ?_
    refine aw_iconst (v := (-1)) C dX0_translate_193 (by decide) ?_
    refine aw_callV C dX0_translate_194 (t_X0_emit S x1 (-1) _ _ hw) mM_X0_30 bX0_emit (sA_14 S) rfl rfl ⟨Nat.le_of_ble_eq_true rfl, Nat.le_of_ble_eq_true rfl, Nat.zero_le _, Nat.zero_le _⟩ _ rfl (Nat.le_of_ble_eq_true rfl) (fun r194 G6 hq => ?_)
    obtain ⟨rfl, hw⟩ := hq
    refine aw_goto (tgt := 267) C dX0_translate_197 (by decide) ?_
    exact aw_msk [true, false, false, false, false, true] (h267 x5 _ hw)
  have h258 : ∀ (x1 : Int32) (x2 : Int32) (x3 : Int32) (x4 : Int32) (x5 : Int32) (G0 : Gt), w_X0_translate_j258 K x1 x2 x3 x4 x5 G0 → aw p l e { frames := 4, cells := 0, slots := 0, locals := 92 } s m args below meth c 6 D tA A (MQ below (QC0 D tA ad A sh (fun r G' => ∃ v, r = some (.int v) ∧ K v G')) args s 0 0 A) 0 0 ad 258 [some (.ref 14), some (.int x1), some (.int x2), some (.int x3), some (.int x4), some (.int x5)] [] sh G0 := by
    intro  x1 x2 x3 x4 x5 G0 hw
    unfold w_X0_translate_j258 at hw
    refine aw_aloadn C dX0_translate_258 rfl ?_
    refine aw_iloadn C dX0_translate_259 rfl ?_
    refine aw_iloadn C dX0_translate_260 rfl ?_
    refine aw_iloadn C dX0_translate_261 rfl ?_
    refine aw_iload C dX0_translate_262 rfl ?_
    refine aw_callV C dX0_translate_264 (t_X0_translateParts S x1 x2 x3 x4 _ _ hw) mM_X0_41 bX0_translateParts (sA_14 S) rfl rfl ⟨Nat.le_of_ble_eq_true rfl, Nat.le_of_ble_eq_true rfl, Nat.zero_le _, Nat.zero_le _⟩ _ rfl (Nat.le_of_ble_eq_true rfl) (fun r264 G13 hq => ?_)
    obtain ⟨rfl, hw⟩ := hq
    exact aw_msk [true, false, false, false, false, true] (h267 x5 _ hw)
  unfold w_X0_translate at hw
  show aw p l e { frames := 4, cells := 0, slots := 0, locals := 92 } s m args below meth c 6 D tA A (MQ below (QC0 D tA ad A sh (fun r G' => ∃ v, r = some (.int v) ∧ K v G')) args s 0 0 A) 0 0 ad 0 [some (.ref 14), some (.int p0), some (.int p1), some (.int p2), some (.int p3), none] [] sh G0
  refine aw_aloadn C dX0_translate_0 rfl ?_
  refine aw_getI C dX0_translate_1 kcX0 (sA_14 S) 2 (by decide) rfl mF_X0_23 ?_
  refine aw_istore C dX0_translate_4 (by decide) rfl ?_
  refine aw_iloadn C dX0_translate_6 rfl ?_
  refine sw_if hw (fun ha7_2 hw => ?_) (fun ha7_2 hw => ?_)
  · refine aw_tab C 168 dX0_translate_7 ha7_2 (by decide) (by decide) rfl (by decide) ?_
    exact aw_msk [true, true, true, true, false, true] (h168 p0 p1 p2 (G0 14 2) _ hw)
  refine sw_if hw (fun ha7_3 hw => ?_) (fun ha7_3 hw => ?_)
  · refine aw_tab C 168 dX0_translate_7 ha7_3 (by decide) (by decide) rfl (by decide) ?_
    exact aw_msk [true, true, true, true, false, true] (h168 p0 p1 p2 (G0 14 2) _ hw)
  refine sw_if hw (fun ha7_14 hw => ?_) (fun ha7_14 hw => ?_)
  · refine aw_tab C 168 dX0_translate_7 ha7_14 (by decide) (by decide) rfl (by decide) ?_
    exact aw_msk [true, true, true, true, false, true] (h168 p0 p1 p2 (G0 14 2) _ hw)
  refine sw_if hw (fun ha7_18 hw => ?_) (fun ha7_18 hw => ?_)
  · refine aw_tab C 239 dX0_translate_7 ha7_18 (by decide) (by decide) rfl (by decide) ?_
    refine aw_aloadn C dX0_translate_239 rfl ?_
    refine aw_iloadn C dX0_translate_240 rfl ?_
    refine aw_iloadn C dX0_translate_241 rfl ?_
    refine aw_iload C dX0_translate_242 rfl ?_
    refine aw_callV C dX0_translate_244 (t_X0_translateCall S p1 p2 p3 _ _ hw) mM_X0_33 bX0_translateCall (sA_14 S) rfl rfl ⟨Nat.le_of_ble_eq_true rfl, Nat.le_of_ble_eq_true rfl, Nat.zero_le _, Nat.zero_le _⟩ _ rfl (Nat.le_of_ble_eq_true rfl) (fun r244 G4 hq => ?_)
    obtain ⟨rfl, hw⟩ := hq
    refine aw_goto (tgt := 267) C dX0_translate_247 (by decide) ?_
    exact aw_msk [true, false, false, false, false, true] (h267 (G0 14 2) _ hw)
  refine sw_if hw (fun ha7_19 hw => ?_) (fun ha7_19 hw => ?_)
  · refine aw_tab C 184 dX0_translate_7 ha7_19 (by decide) (by decide) rfl (by decide) ?_
    exact aw_msk [true, true, true, false, false, true] (h184 p0 p1 (G0 14 2) _ hw)
  refine sw_if hw (fun ha7_22 hw => ?_) (fun ha7_22 hw => ?_)
  · refine aw_tab C 184 dX0_translate_7 ha7_22 (by decide) (by decide) rfl (by decide) ?_
    exact aw_msk [true, true, true, false, false, true] (h184 p0 p1 (G0 14 2) _ hw)
  refine sw_if hw (fun ha7_24 hw => ?_) (fun ha7_24 hw => ?_)
  · refine aw_tab C 200 dX0_translate_7 ha7_24 (by decide) (by decide) rfl (by decide) ?_
    refine aw_aloadn C dX0_translate_200 rfl ?_
    refine aw_bipush (v := 41) C dX0_translate_201 (by decide) ?_
    refine aw_iloadn C dX0_translate_203 rfl ?_
    refine aw_callV C dX0_translate_204 (t_X0_emit S 41 p1 _ _ hw) mM_X0_30 bX0_emit (sA_14 S) rfl rfl ⟨Nat.le_of_ble_eq_true rfl, Nat.le_of_ble_eq_true rfl, Nat.zero_le _, Nat.zero_le _⟩ _ rfl (Nat.le_of_ble_eq_true rfl) (fun r204 G7 hq => ?_)
    obtain ⟨rfl, hw⟩ := hq
    refine aw_aloadn C dX0_translate_207 rfl ?_
    refine aw_bipush (v := 24) C dX0_translate_208 (by decide) ?_
    refine aw_iconst (v := (-1)) C dX0_translate_210 (by decide) ?_
    refine aw_callV C dX0_translate_211 (t_X0_emit S 24 (-1) _ _ hw) mM_X0_30 bX0_emit (sA_14 S) rfl rfl ⟨Nat.le_of_ble_eq_true rfl, Nat.le_of_ble_eq_true rfl, Nat.zero_le _, Nat.zero_le _⟩ _ rfl (Nat.le_of_ble_eq_true rfl) (fun r211 G8 hq => ?_)
    obtain ⟨rfl, hw⟩ := hq
    refine aw_aloadn C dX0_translate_214 rfl ?_
    refine aw_iconst (v := 0) C dX0_translate_215 (by decide) ?_
    refine aw_iconst (v := 0) C dX0_translate_216 (by decide) ?_
    refine aw_callV C dX0_translate_217 (t_X0_emit S 0 0 _ _ hw) mM_X0_30 bX0_emit (sA_14 S) rfl rfl ⟨Nat.le_of_ble_eq_true rfl, Nat.le_of_ble_eq_true rfl, Nat.zero_le _, Nat.zero_le _⟩ _ rfl (Nat.le_of_ble_eq_true rfl) (fun r217 G9 hq => ?_)
    obtain ⟨rfl, hw⟩ := hq
    refine aw_goto (tgt := 267) C dX0_translate_220 (by decide) ?_
    exact aw_msk [true, false, false, false, false, true] (h267 (G0 14 2) _ hw)
  refine sw_if hw (fun ha7_25 hw => ?_) (fun ha7_25 hw => ?_)
  · refine aw_tab C 184 dX0_translate_7 ha7_25 (by decide) (by decide) rfl (by decide) ?_
    exact aw_msk [true, true, true, false, false, true] (h184 p0 p1 (G0 14 2) _ hw)
  refine sw_if hw (fun ha7_28 hw => ?_) (fun ha7_28 hw => ?_)
  · refine aw_tab C 168 dX0_translate_7 ha7_28 (by decide) (by decide) rfl (by decide) ?_
    exact aw_msk [true, true, true, true, false, true] (h168 p0 p1 p2 (G0 14 2) _ hw)
  refine sw_if hw (fun ha7_29 hw => ?_) (fun ha7_29 hw => ?_)
  · refine aw_tab C 250 dX0_translate_7 ha7_29 (by decide) (by decide) rfl (by decide) ?_
    refine aw_aloadn C dX0_translate_250 rfl ?_
    refine aw_iloadn C dX0_translate_251 rfl ?_
    refine aw_callV C dX0_translate_252 (t_X0_translateInsert S p1 _ _ hw) mM_X0_37 bX0_translateInsert (sA_14 S) rfl rfl ⟨Nat.le_of_ble_eq_true rfl, Nat.le_of_ble_eq_true rfl, Nat.zero_le _, Nat.zero_le _⟩ _ rfl (Nat.le_of_ble_eq_true rfl) (fun r252 G10 hq => ?_)
    obtain ⟨rfl, hw⟩ := hq
    refine aw_goto (tgt := 267) C dX0_translate_255 (by decide) ?_
    exact aw_msk [true, false, false, false, false, true] (h267 (G0 14 2) _ hw)
  refine sw_if hw (fun ha7_31 hw => ?_) (fun ha7_31 hw => ?_)
  · refine aw_tab C 184 dX0_translate_7 ha7_31 (by decide) (by decide) rfl (by decide) ?_
    exact aw_msk [true, true, true, false, false, true] (h184 p0 p1 (G0 14 2) _ hw)
  refine sw_if hw (fun ha7_35 hw => ?_) (fun ha7_35 hw => ?_)
  · refine aw_tab C 184 dX0_translate_7 ha7_35 (by decide) (by decide) rfl (by decide) ?_
    exact aw_msk [true, true, true, false, false, true] (h184 p0 p1 (G0 14 2) _ hw)
  refine sw_if hw (fun ha7_37 hw => ?_) (fun ha7_37 hw => ?_)
  · refine aw_tab C 184 dX0_translate_7 ha7_37 (by decide) (by decide) rfl (by decide) ?_
    exact aw_msk [true, true, true, false, false, true] (h184 p0 p1 (G0 14 2) _ hw)
  refine sw_if hw (fun ha7_38 hw => ?_) (fun ha7_38 hw => ?_)
  · refine aw_tab C 223 dX0_translate_7 ha7_38 (by decide) (by decide) rfl (by decide) ?_
    refine aw_aloadn C dX0_translate_223 rfl ?_
    refine aw_iconst (v := 0) C dX0_translate_224 (by decide) ?_
    refine aw_iloadn C dX0_translate_225 rfl ?_
    refine aw_callV C dX0_translate_226 (t_X0_emit S 0 p2 _ _ hw) mM_X0_30 bX0_emit (sA_14 S) rfl rfl ⟨Nat.le_of_ble_eq_true rfl, Nat.le_of_ble_eq_true rfl, Nat.zero_le _, Nat.zero_le _⟩ _ rfl (Nat.le_of_ble_eq_true rfl) (fun r226 G11 hq => ?_)
    obtain ⟨rfl, hw⟩ := hq
    refine aw_aloadn C dX0_translate_229 rfl ?_
    refine aw_bipush (v := 38) C dX0_translate_230 (by decide) ?_
    refine aw_iloadn C dX0_translate_232 rfl ?_
    refine aw_callV C dX0_translate_233 (t_X0_emit S 38 p1 _ _ hw) mM_X0_30 bX0_emit (sA_14 S) rfl rfl ⟨Nat.le_of_ble_eq_true rfl, Nat.le_of_ble_eq_true rfl, Nat.zero_le _, Nat.zero_le _⟩ _ rfl (Nat.le_of_ble_eq_true rfl) (fun r233 G12 hq => ?_)
    obtain ⟨rfl, hw⟩ := hq
    refine aw_goto (tgt := 267) C dX0_translate_236 (by decide) ?_
    exact aw_msk [true, false, false, false, false, true] (h267 (G0 14 2) _ hw)
  refine aw_tabDef C 258 dX0_translate_7 36 (by decide) (by decide) (by decide) (fun i hi h => ?_) (by decide) ?_
  · exact match i, hi, h with
      | 0, _, h => absurd (h.trans (by decide)) ha7_2
      | 1, _, h => absurd (h.trans (by decide)) ha7_3
      | 2, _, h => rfl
      | 3, _, h => rfl
      | 4, _, h => rfl
      | 5, _, h => rfl
      | 6, _, h => rfl
      | 7, _, h => rfl
      | 8, _, h => rfl
      | 9, _, h => rfl
      | 10, _, h => rfl
      | 11, _, h => rfl
      | 12, _, h => absurd (h.trans (by decide)) ha7_14
      | 13, _, h => rfl
      | 14, _, h => rfl
      | 15, _, h => rfl
      | 16, _, h => absurd (h.trans (by decide)) ha7_18
      | 17, _, h => absurd (h.trans (by decide)) ha7_19
      | 18, _, h => rfl
      | 19, _, h => rfl
      | 20, _, h => absurd (h.trans (by decide)) ha7_22
      | 21, _, h => rfl
      | 22, _, h => absurd (h.trans (by decide)) ha7_24
      | 23, _, h => absurd (h.trans (by decide)) ha7_25
      | 24, _, h => rfl
      | 25, _, h => rfl
      | 26, _, h => absurd (h.trans (by decide)) ha7_28
      | 27, _, h => absurd (h.trans (by decide)) ha7_29
      | 28, _, h => rfl
      | 29, _, h => absurd (h.trans (by decide)) ha7_31
      | 30, _, h => rfl
      | 31, _, h => rfl
      | 32, _, h => rfl
      | 33, _, h => absurd (h.trans (by decide)) ha7_35
      | 34, _, h => rfl
      | 35, _, h => absurd (h.trans (by decide)) ha7_37
      | 36, _, h => absurd (h.trans (by decide)) ha7_38
      | i + 37, hi, _ => absurd hi (by omega)
  exact aw_msk [true, true, true, true, true, true] (h258 p0 p1 p2 p3 (G0 14 2) _ hw)
def w_X4_add (K : Int32 → Gt → Prop) (p0 : Int32) (p1 : Int32) (p2 : Int32) (p3 : Int32) (G0 : Gt) : Prop :=
  pt (rput G0 3 120 (G0 1 7) p0) fun G1 =>
  pt (rput G1 5 120 (G0 1 7) p1) fun G2 =>
  pt (rput G2 7 120 (G0 1 7) p2) fun G3 =>
  w_X4_sizeWith (fun v5 G4 =>
    pt (rput G4 9 120 (G0 1 7) v5) fun G6 =>
    w_X0_translate (fun v8 G7 =>
      pt (rput G7 13 120 (G0 1 7) v8) fun G9 =>
      pt (gu G9 1 7 ((G0 1 7) + 1)) fun G10 =>
      K (G0 1 7) G10) p0 p1 p2 p3 G6) p0 p1 p2 p3 G3
set_option maxHeartbeats 4000000 in
set_option maxRecDepth 100000 in
theorem t_X4_add {l : Launch} {sh : Sh} (S : shOK sh) (p0 : Int32) (p1 : Int32) (p2 : Int32) (p3 : Int32) (G0 : Gt) (K : Int32 → Gt → Prop) (hw : w_X4_add K p0 p1 p2 p3 G0) : CT0 l yX4_add cX4_add 6 (some .int) 6 137 [.ref 1, .int p0, .int p1, .int p2, .int p3] sh G0 (fun r G' => ∃ v, r = some (.int v) ∧ K v G') := by
  refine CT0_of (by decide) (Nat.le_of_ble_eq_true rfl) rfl ?_
  intro p e s m args below meth c D tA ad A C hr _
  unfold w_X4_add at hw
  show aw p l e { frames := 6, cells := 0, slots := 0, locals := 137 } s m args below meth c 6 D tA A (MQ below (QC0 D tA ad A sh (fun r G' => ∃ v, r = some (.int v) ∧ K v G')) args s 0 0 A) 0 0 ad 0 [some (.ref 1), some (.int p0), some (.int p1), some (.int p2), some (.int p3), none] [] sh G0
  refine aw_aloadn C dX4_add_0 rfl ?_
  refine aw_getI C dX4_add_1 kcX4 (sA_1 S) 7 (by decide) rfl mF_X4_42 ?_
  refine aw_istore C dX4_add_4 (by decide) rfl ?_
  refine aw_aloadn C dX4_add_6 rfl ?_
  refine aw_getR (r := 2) C dX4_add_7 kcX4 (sA_1 S) 0 (by decide) rfl mF_X4_14 ?_
  refine aw_iload C dX4_add_10 rfl ?_
  refine aw_iloadn C dX4_add_12 rfl ?_
  refine aw_callV C dX4_add_13 (t_put (rowS_2 S) (Nat.le_of_ble_eq_true rfl) (G0 1 7) p0 _) mM_X4_88 bX6_put (rowS_2 S).1 rfl rfl ⟨Nat.le_of_ble_eq_true rfl, Nat.le_of_ble_eq_true rfl, Nat.zero_le _, Nat.zero_le _⟩ _ rfl (Nat.le_of_ble_eq_true rfl) (fun r13 G1 hq => ?_)
  obtain ⟨rfl, hq⟩ := hq
  replace hw := pt_eq hw hq
  refine aw_aloadn C dX4_add_16 rfl ?_
  refine aw_getR (r := 4) C dX4_add_17 kcX4 (sA_1 S) 1 (by decide) rfl mF_X4_20 ?_
  refine aw_iload C dX4_add_20 rfl ?_
  refine aw_iloadn C dX4_add_22 rfl ?_
  refine aw_callV C dX4_add_23 (t_put (rowS_4 S) (Nat.le_of_ble_eq_true rfl) (G0 1 7) p1 _) mM_X4_88 bX6_put (rowS_4 S).1 rfl rfl ⟨Nat.le_of_ble_eq_true rfl, Nat.le_of_ble_eq_true rfl, Nat.zero_le _, Nat.zero_le _⟩ _ rfl (Nat.le_of_ble_eq_true rfl) (fun r23 G2 hq => ?_)
  obtain ⟨rfl, hq⟩ := hq
  replace hw := pt_eq hw hq
  refine aw_aloadn C dX4_add_26 rfl ?_
  refine aw_getR (r := 6) C dX4_add_27 kcX4 (sA_1 S) 2 (by decide) rfl mF_X4_23 ?_
  refine aw_iload C dX4_add_30 rfl ?_
  refine aw_iloadn C dX4_add_32 rfl ?_
  refine aw_callV C dX4_add_33 (t_put (rowS_6 S) (Nat.le_of_ble_eq_true rfl) (G0 1 7) p2 _) mM_X4_88 bX6_put (rowS_6 S).1 rfl rfl ⟨Nat.le_of_ble_eq_true rfl, Nat.le_of_ble_eq_true rfl, Nat.zero_le _, Nat.zero_le _⟩ _ rfl (Nat.le_of_ble_eq_true rfl) (fun r33 G3 hq => ?_)
  obtain ⟨rfl, hq⟩ := hq
  replace hw := pt_eq hw hq
  refine aw_aloadn C dX4_add_36 rfl ?_
  refine aw_getR (r := 8) C dX4_add_37 kcX4 (sA_1 S) 3 (by decide) rfl mF_X4_26 ?_
  refine aw_iload C dX4_add_40 rfl ?_
  refine aw_aloadn C dX4_add_42 rfl ?_
  refine aw_iloadn C dX4_add_43 rfl ?_
  refine aw_iloadn C dX4_add_44 rfl ?_
  refine aw_iloadn C dX4_add_45 rfl ?_
  refine aw_iload C dX4_add_46 rfl ?_
  refine aw_callV C dX4_add_48 (t_X4_sizeWith S p0 p1 p2 p3 _ _ hw) mM_X4_81 bX4_sizeWith (sA_1 S) rfl rfl ⟨Nat.le_of_ble_eq_true rfl, Nat.le_of_ble_eq_true rfl, Nat.zero_le _, Nat.zero_le _⟩ _ rfl (Nat.le_of_ble_eq_true rfl) (fun r48 G4 hq => ?_)
  obtain ⟨v5, rfl, hw⟩ := hq
  refine aw_callV C dX4_add_51 (t_put (rowS_8 S) (Nat.le_of_ble_eq_true rfl) (G0 1 7) v5 _) mM_X4_88 bX6_put (rowS_8 S).1 rfl rfl ⟨Nat.le_of_ble_eq_true rfl, Nat.le_of_ble_eq_true rfl, Nat.zero_le _, Nat.zero_le _⟩ _ rfl (Nat.le_of_ble_eq_true rfl) (fun r51 G6 hq => ?_)
  obtain ⟨rfl, hq⟩ := hq
  replace hw := pt_eq hw hq
  refine aw_aloadn C dX4_add_54 rfl ?_
  refine aw_getR (r := 12) C dX4_add_55 kcX4 (sA_1 S) 5 (by decide) rfl mF_X4_32 ?_
  refine aw_iload C dX4_add_58 rfl ?_
  refine aw_aloadn C dX4_add_60 rfl ?_
  refine aw_getR (r := 14) C dX4_add_61 kcX4 (sA_1 S) 6 (by decide) rfl mF_X4_38 ?_
  refine aw_iloadn C dX4_add_64 rfl ?_
  refine aw_iloadn C dX4_add_65 rfl ?_
  refine aw_iloadn C dX4_add_66 rfl ?_
  refine aw_iload C dX4_add_67 rfl ?_
  refine aw_callV C dX4_add_69 (t_X0_translate S p0 p1 p2 p3 _ _ hw) mM_X4_91 bX0_translate (sA_14 S) rfl rfl ⟨Nat.le_of_ble_eq_true rfl, Nat.le_of_ble_eq_true rfl, Nat.zero_le _, Nat.zero_le _⟩ _ rfl (Nat.le_of_ble_eq_true rfl) (fun r69 G7 hq => ?_)
  obtain ⟨v8, rfl, hw⟩ := hq
  refine aw_callV C dX4_add_72 (t_put (rowS_12 S) (Nat.le_of_ble_eq_true rfl) (G0 1 7) v8 _) mM_X4_88 bX6_put (rowS_12 S).1 rfl rfl ⟨Nat.le_of_ble_eq_true rfl, Nat.le_of_ble_eq_true rfl, Nat.zero_le _, Nat.zero_le _⟩ _ rfl (Nat.le_of_ble_eq_true rfl) (fun r72 G9 hq => ?_)
  obtain ⟨rfl, hq⟩ := hq
  replace hw := pt_eq hw hq
  refine aw_aloadn C dX4_add_75 rfl ?_
  refine aw_iload C dX4_add_76 rfl ?_
  refine aw_iconst (v := 1) C dX4_add_78 (by decide) ?_
  refine aw_iadd C dX4_add_79 ?_
  refine aw_putI C dX4_add_80 kcX4 (sA_1 S) 7 (by decide) rfl mF_X4_42 rfl rfl rfl hw (fun G10 hw => ?_)
  refine aw_iload C dX4_add_83 rfl ?_
  exact aw_ireturn C hr dX4_add_85 ⟨_, rfl, hw⟩
