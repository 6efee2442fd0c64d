def w_X2_leave_j124 (K : Gt → Prop)  (G0 : Gt) : Prop :=
  K G0
def w_X2_leave_j92 (K : Gt → Prop) (x1 : Int32) (G0 : Gt) : Prop :=
  pt (gu G0 84 11 x1) fun G1 =>
  pif (x1 = (-1)) (
    w_X2_closeNext (fun G3 =>
      w_X2_leave_j124 K G3) G1) (
    pif ((G1 84 15) = 0) (
      w_X2_leave_j124 K G1) (
      w_X1_land (fun G2 =>
        w_X2_leave_j124 K G2) x1 G1))
def w_X2_leave_j57 (K : Gt → Prop) (x1 : Int32) (y1 : Int32) (G0 : Gt) : Prop :=
  pt (gu G0 84 15 y1) fun G7 =>
  w_X2_leave_j92 K x1 G7
def w_X2_leave (K : Gt → Prop) (G0 : Gt) : Prop :=
  pif ((rat G0 114 601 (G0 84 11)) = 3) (
    w_X2_endCall (fun G6 =>
      pif ((G6 84 15) = 4) (
        w_X2_leave_j57 K (rat G0 110 601 (G0 84 11)) 0 G6) (
        w_X2_leave_j57 K (rat G0 110 601 (G0 84 11)) (G6 84 15) G6)) (rat G0 110 601 (G0 84 11)) G0) (
    pif ((rat G0 114 601 (G0 84 11)) < 4) (
      pif ((rat G0 114 601 (G0 84 11)) = 1) (
        pt (gu G0 84 19 (G0 84 16)) fun G4 =>
        w_X2_leave_j92 K (rat G0 110 601 (G0 84 11)) G4) (
        w_X2_leave_j92 K (rat G0 110 601 (G0 84 11)) G0)) (
      w_X2_endGenerator (fun G5 =>
        w_X2_leave_j92 K (rat G0 110 601 (G0 84 11)) G5) ((rat G0 114 601 (G0 84 11)) - 4) (rat G0 110 601 (G0 84 11)) G0))
set_option maxHeartbeats 4000000 in
set_option maxRecDepth 100000 in
theorem t_X2_leave {l : Launch}  (G0 : Gt) (K : Gt → Prop) (hw : w_X2_leave K G0) : CT0 l yX2_leave cX2_leave 3 none 3 64 [.ref 84] shB G0 (fun r G' => r = none ∧ K G') := by
  refine CT0_of (by decide) (Nat.le_of_ble_eq_true rfl) rfl ?_
  intro p e s m args below meth c D tA ad A C hr _
  have h124 : ∀ (G0 : Gt), w_X2_leave_j124 K  G0 → aw p l e { frames := 3, cells := 0, slots := 0, locals := 64 } s m args below meth c 3 D tA A (MQ below (QC0 D tA ad A shB (fun r G' => r = none ∧ K G')) args s 0 0 A) 0 0 ad 124 [none, none, none] [] shB G0 := by
    intro   G0 hw
    unfold w_X2_leave_j124 at hw
    exact aw_return C hr dX2_leave_124 ⟨rfl, hw⟩
  have h92 : ∀ (x1 : Int32) (G0 : Gt), w_X2_leave_j92 K x1 G0 → aw p l e { frames := 3, cells := 0, slots := 0, locals := 64 } s m args below meth c 3 D tA A (MQ below (QC0 D tA ad A shB (fun r G' => r = none ∧ K G')) args s 0 0 A) 0 0 ad 92 [some (.ref 84), some (.int x1), none] [] shB G0 := by
    intro  x1 G0 hw
    unfold w_X2_leave_j92 at hw
    refine aw_aloadn C dX2_leave_92 rfl ?_
    refine aw_iloadn C dX2_leave_93 rfl ?_
    refine aw_putI C dX2_leave_94 kcX2 shB_84 11 (by decide) rfl mF_X2_91 rfl rfl rfl hw (fun G1 hw => ?_)
    refine aw_iloadn C dX2_leave_97 rfl ?_
    refine aw_iconst (v := (-1)) C dX2_leave_98 (by decide) ?_
    refine aw_ic_ne C dX2_leave_99 109 (by decide) hw (fun hc99 hw => ?_) (fun hc99 hw => ?_)
    · refine aw_aloadn C dX2_leave_109 rfl ?_
      refine aw_getI C dX2_leave_110 kcX2 shB_84 15 (by decide) rfl mF_X2_75 ?_
      refine aw_if_eq C dX2_leave_113 124 (by decide) hw (fun hc113 hw => ?_) (fun hc113 hw => ?_)
      · exact aw_msk [false, false, false] (h124 _ hw)
      · refine aw_aloadn C dX2_leave_116 rfl ?_
        refine aw_getR (r := 106) C dX2_leave_117 kcX2 shB_84 3 (by decide) rfl mF_X2_21 ?_
        refine aw_iloadn C dX2_leave_120 rfl ?_
        refine aw_callV C dX2_leave_121 (t_X1_land x1 _ _ hw) mM_X2_359 bX1_land shB_106 rfl rfl ⟨Nat.le_of_ble_eq_true rfl, Nat.le_of_ble_eq_true rfl, Nat.zero_le _, Nat.zero_le _⟩ _ rfl (Nat.le_of_ble_eq_true rfl) (fun r121 G2 hq => ?_)
        obtain ⟨rfl, hw⟩ := hq
        exact aw_msk [false, false, false] (h124 _ hw)
    · refine aw_aloadn C dX2_leave_102 rfl ?_
      refine aw_callV C dX2_leave_103 (t_X2_closeNext _ _ hw) mM_X2_356 bX2_closeNext shB_84 rfl rfl ⟨Nat.le_of_ble_eq_true rfl, Nat.le_of_ble_eq_true rfl, Nat.zero_le _, Nat.zero_le _⟩ _ rfl (Nat.le_of_ble_eq_true rfl) (fun r103 G3 hq => ?_)
      obtain ⟨rfl, hw⟩ := hq
      refine aw_goto (tgt := 124) C dX2_leave_106 (by decide) ?_
      exact aw_msk [false, false, false] (h124 _ hw)
  have h57 : ∀ (x1 : Int32) (y1 : Int32) (G0 : Gt), w_X2_leave_j57 K x1 y1 G0 → aw p l e { frames := 3, cells := 0, slots := 0, locals := 64 } s m args below meth c 3 D tA A (MQ below (QC0 D tA ad A shB (fun r G' => r = none ∧ K G')) args s 0 0 A) 0 0 ad 57 [some (.ref 84), some (.int x1), none] [.int y1, .ref 84] shB G0 := by
    intro  x1 y1 G0 hw
    unfold w_X2_leave_j57 at hw
    refine aw_putI C dX2_leave_57 kcX2 shB_84 15 (by decide) rfl mF_X2_75 rfl rfl rfl hw (fun G7 hw => ?_)
    refine aw_goto (tgt := 92) C dX2_leave_60 (by decide) ?_
    exact aw_msk [true, true, false] (h92 x1 _ hw)
  unfold w_X2_leave at hw
  show aw p l e { frames := 3, cells := 0, slots := 0, locals := 64 } s m args below meth c 3 D tA A (MQ below (QC0 D tA ad A shB (fun r G' => r = none ∧ K G')) args s 0 0 A) 0 0 ad 0 [some (.ref 84), none, none] [] shB G0
  refine aw_aloadn C dX2_leave_0 rfl ?_
  refine aw_getR (r := 106) C dX2_leave_1 kcX2 shB_84 3 (by decide) rfl mF_X2_21 ?_
  refine aw_getR (r := 109) C dX2_leave_4 kcX1 shB_106 1 (by decide) rfl mF_X2_200 ?_
  refine aw_aloadn C dX2_leave_7 rfl ?_
  refine aw_getI C dX2_leave_8 kcX2 shB_84 11 (by decide) rfl mF_X2_91 ?_
  refine aw_callV C dX2_leave_11 (t_at rowB_109 (Nat.le_of_ble_eq_true rfl) (G0 84 11) _) mM_X2_119 bX6_at rowB_109.1 rfl rfl ⟨Nat.le_of_ble_eq_true rfl, Nat.le_of_ble_eq_true rfl, Nat.zero_le _, Nat.zero_le _⟩ _ rfl (Nat.le_of_ble_eq_true rfl) (fun r11 G11x hq => ?_)
  obtain ⟨rfl, rfl⟩ := hq
  refine aw_istoren C dX2_leave_14 (by decide) rfl ?_
  refine aw_aloadn C dX2_leave_15 rfl ?_
  refine aw_getR (r := 106) C dX2_leave_16 kcX2 shB_84 3 (by decide) rfl mF_X2_21 ?_
  refine aw_getR (r := 113) C dX2_leave_19 kcX1 shB_106 3 (by decide) rfl mF_X2_203 ?_
  refine aw_aloadn C dX2_leave_22 rfl ?_
  refine aw_getI C dX2_leave_23 kcX2 shB_84 11 (by decide) rfl mF_X2_91 ?_
  refine aw_callV C dX2_leave_26 (t_at rowB_113 (Nat.le_of_ble_eq_true rfl) (G0 84 11) _) mM_X2_119 bX6_at rowB_113.1 rfl rfl ⟨Nat.le_of_ble_eq_true rfl, Nat.le_of_ble_eq_true rfl, Nat.zero_le _, Nat.zero_le _⟩ _ rfl (Nat.le_of_ble_eq_true rfl) (fun r26 G26x hq => ?_)
  obtain ⟨rfl, rfl⟩ := hq
  refine aw_istoren C dX2_leave_29 (by decide) rfl ?_
  refine aw_iloadn C dX2_leave_30 rfl ?_
  refine aw_iconst (v := 3) C dX2_leave_31 (by decide) ?_
  refine aw_ic_ne C dX2_leave_32 63 (by decide) hw (fun hc32 hw => ?_) (fun hc32 hw => ?_)
  · refine aw_iloadn C dX2_leave_63 rfl ?_
    refine aw_iconst (v := 4) C dX2_leave_64 (by decide) ?_
    refine aw_ic_lt C dX2_leave_65 79 (by decide) hw (fun hc65 hw => ?_) (fun hc65 hw => ?_)
    · refine aw_iloadn C dX2_leave_79 rfl ?_
      refine aw_iconst (v := 1) C dX2_leave_80 (by decide) ?_
      refine aw_ic_ne C dX2_leave_81 92 (by decide) hw (fun hc81 hw => ?_) (fun hc81 hw => ?_)
      · exact aw_msk [true, true, false] (h92 (rat G0 110 601 (G0 84 11)) _ hw)
      · refine aw_aloadn C dX2_leave_84 rfl ?_
        refine aw_aloadn C dX2_leave_85 rfl ?_
        refine aw_getI C dX2_leave_86 kcX2 shB_84 16 (by decide) rfl mF_X2_78 ?_
        refine aw_putI C dX2_leave_89 kcX2 shB_84 19 (by decide) rfl mF_X2_88 rfl rfl rfl hw (fun G4 hw => ?_)
        exact aw_msk [true, true, false] (h92 (rat G0 110 601 (G0 84 11)) _ hw)
    · refine aw_aloadn C dX2_leave_68 rfl ?_
      refine aw_iloadn C dX2_leave_69 rfl ?_
      refine aw_iconst (v := 4) C dX2_leave_70 (by decide) ?_
      refine aw_isub C dX2_leave_71 ?_
      refine aw_iloadn C dX2_leave_72 rfl ?_
      refine aw_callV C dX2_leave_73 (t_X2_endGenerator ((rat G0 114 601 (G0 84 11)) - 4) (rat G0 110 601 (G0 84 11)) _ _ hw) mM_X2_353 bX2_endGenerator shB_84 rfl rfl ⟨Nat.le_of_ble_eq_true rfl, Nat.le_of_ble_eq_true rfl, Nat.zero_le _, Nat.zero_le _⟩ _ rfl (Nat.le_of_ble_eq_true rfl) (fun r73 G5 hq => ?_)
      obtain ⟨rfl, hw⟩ := hq
      refine aw_goto (tgt := 92) C dX2_leave_76 (by decide) ?_
      exact aw_msk [true, true, false] (h92 (rat G0 110 601 (G0 84 11)) _ hw)
  · refine aw_aloadn C dX2_leave_35 rfl ?_
    refine aw_iloadn C dX2_leave_36 rfl ?_
    refine aw_callV C dX2_leave_37 (t_X2_endCall (rat G0 110 601 (G0 84 11)) _ _ hw) mM_X2_350 bX2_endCall shB_84 rfl rfl ⟨Nat.le_of_ble_eq_true rfl, Nat.le_of_ble_eq_true rfl, Nat.zero_le _, Nat.zero_le _⟩ _ rfl (Nat.le_of_ble_eq_true rfl) (fun r37 G6 hq => ?_)
    obtain ⟨rfl, hw⟩ := hq
    refine aw_aloadn C dX2_leave_40 rfl ?_
    refine aw_aloadn C dX2_leave_41 rfl ?_
    refine aw_getI C dX2_leave_42 kcX2 shB_84 15 (by decide) rfl mF_X2_75 ?_
    refine aw_iconst (v := 4) C dX2_leave_45 (by decide) ?_
    refine aw_ic_ne C dX2_leave_46 53 (by decide) hw (fun hc46 hw => ?_) (fun hc46 hw => ?_)
    · refine aw_aloadn C dX2_leave_53 rfl ?_
      refine aw_getI C dX2_leave_54 kcX2 shB_84 15 (by decide) rfl mF_X2_75 ?_
      exact aw_msk [true, true, false] (h57 (rat G0 110 601 (G0 84 11)) (G6 84 15) _ hw)
    · refine aw_iconst (v := 0) C dX2_leave_49 (by decide) ?_
      refine aw_goto (tgt := 57) C dX2_leave_50 (by decide) ?_
      exact aw_msk [true, true, false] (h57 (rat G0 110 601 (G0 84 11)) 0 _ hw)
def w_X2_insert_j38 (t0 : Nat) (K : Gt → Prop)  (G0 : Gt) : Prop :=
  w_X2_fail (fun G1 =>
    K G1) (-4) G0
def w_X2_insert_j71 (t0 : Nat) (K : Gt → Prop)  (G0 : Gt) : Prop :=
  w_X2_jump (fun G3 =>
    K G3) 0 G0
def w_X2_insert (t0 : Nat) (K : Gt → Prop) (p1 : Int32) (G0 : Gt) : Prop :=
  pif ((inm (G0 84 16)) = 0) (
    w_X2_fail (fun G8 =>
      K G8) (-3) G0) (
    pif ((ibl (G0 84 16) 26) = 0) (
      w_X2_insert_j38 t0 K G0) (
      pif ((G0 t0 2) < 40) (
        w_X8_insertLetter t0 (fun G2 =>
          pif ((G2 19 8) = (-1)) (
            w_X2_insert_j71 t0 K G2) (
            pif ((G2 84 14) = 0) (
              pt (gu G2 84 14 1) fun G4 =>
              pt (rput G4 122 601 (G4 84 11) (G4 84 16)) fun G5 =>
              pt (rput G5 118 601 (G5 84 11) p1) fun G6 =>
              w_X2_invoke (fun G7 =>
                K G7) (G6 19 8) 1 G6) (
              w_X2_insert_j71 t0 K G2))) (G0 84 16) G0) (
        w_X2_insert_j38 t0 K G0)))
set_option maxHeartbeats 4000000 in
set_option maxRecDepth 100000 in
theorem t_X2_insert {l : Launch} {t0 : Nat} (hT0 : isText shB t0) (p1 : Int32) (G0 : Gt) (K : Gt → Prop) (hw : w_X2_insert t0 K p1 G0) : CT0 l yX2_insert cX2_insert 3 none 3 71 [.ref 84, .ref t0, .int p1] shB G0 (fun r G' => r = none ∧ K G') := by
  refine CT0_of (by decide) (Nat.le_of_ble_eq_true rfl) rfl ?_
  intro p e s m args below meth c D tA ad A C hr _
  have h38 : ∀ (G0 : Gt), w_X2_insert_j38 t0 K  G0 → aw p l e { frames := 3, cells := 0, slots := 0, locals := 71 } s m args below meth c 3 D tA A (MQ below (QC0 D tA ad A shB (fun r G' => r = none ∧ K G')) args s 0 0 A) 0 0 ad 38 [some (.ref 84), none, none] [] shB G0 := by
    intro   G0 hw
    unfold w_X2_insert_j38 at hw
    refine aw_aloadn C dX2_insert_38 rfl ?_
    refine aw_bipush (v := (-4)) C dX2_insert_39 (by decide) ?_
    refine aw_callV C dX2_insert_41 (t_X2_fail (-4) _ _ hw) mM_X2_176 bX2_fail shB_84 rfl rfl ⟨Nat.le_of_ble_eq_true rfl, Nat.le_of_ble_eq_true rfl, Nat.zero_le _, Nat.zero_le _⟩ _ rfl (Nat.le_of_ble_eq_true rfl) (fun r41 G1 hq => ?_)
    obtain ⟨rfl, hw⟩ := hq
    exact aw_return C hr dX2_insert_44 ⟨rfl, hw⟩
  have h71 : ∀ (G0 : Gt), w_X2_insert_j71 t0 K  G0 → aw p l e { frames := 3, cells := 0, slots := 0, locals := 71 } s m args below meth c 3 D tA A (MQ below (QC0 D tA ad A shB (fun r G' => r = none ∧ K G')) args s 0 0 A) 0 0 ad 71 [some (.ref 84), none, none] [] shB G0 := by
    intro   G0 hw
    unfold w_X2_insert_j71 at hw
    refine aw_aloadn C dX2_insert_71 rfl ?_
    refine aw_iconst (v := 0) C dX2_insert_72 (by decide) ?_
    refine aw_callV C dX2_insert_73 (t_X2_jump 0 _ _ hw) mM_X2_221 bX2_jump shB_84 rfl rfl ⟨Nat.le_of_ble_eq_true rfl, Nat.le_of_ble_eq_true rfl, Nat.zero_le _, Nat.zero_le _⟩ _ rfl (Nat.le_of_ble_eq_true rfl) (fun r73 G3 hq => ?_)
    obtain ⟨rfl, hw⟩ := hq
    exact aw_return C hr dX2_insert_76 ⟨rfl, hw⟩
  unfold w_X2_insert at hw
  show aw p l e { frames := 3, cells := 0, slots := 0, locals := 71 } s m args below meth c 3 D tA A (MQ below (QC0 D tA ad A shB (fun r G' => r = none ∧ K G')) args s 0 0 A) 0 0 ad 0 [some (.ref 84), some (.ref t0), some (.int p1)] [] shB G0
  refine aw_aloadn C dX2_insert_0 rfl ?_
  refine aw_getI C dX2_insert_1 kcX2 shB_84 16 (by decide) rfl mF_X2_78 ?_
  refine aw_callSN C dX2_insert_4 (t_isNumber (G0 84 16) _) mE_X2_265 bX10_isNumber rfl ⟨Nat.le_of_ble_eq_true rfl, Nat.le_of_ble_eq_true rfl, Nat.zero_le _, Nat.zero_le _⟩ _ rfl (Nat.le_of_ble_eq_true rfl) (fun r4 G4x hq => ?_)
  obtain ⟨rfl, rfl⟩ := hq
  refine aw_if_ne C dX2_insert_7 17 (by decide) hw (fun hc7 hw => ?_) (fun hc7 hw => ?_)
  · refine aw_aloadn C dX2_insert_17 rfl ?_
    refine aw_getI C dX2_insert_18 kcX2 shB_84 16 (by decide) rfl mF_X2_78 ?_
    refine aw_bipush (v := 26) C dX2_insert_21 (by decide) ?_
    refine aw_callSN C dX2_insert_23 (t_isBelow (G0 84 16) 26 _) mE_X2_423 bX10_isBelow rfl ⟨Nat.le_of_ble_eq_true rfl, Nat.le_of_ble_eq_true rfl, Nat.zero_le _, Nat.zero_le _⟩ _ rfl (Nat.le_of_ble_eq_true rfl) (fun r23 G23x hq => ?_)
    obtain ⟨rfl, rfl⟩ := hq
    refine aw_if_eq C dX2_insert_26 38 (by decide) hw (fun hc26 hw => ?_) (fun hc26 hw => ?_)
    · exact aw_msk [true, false, false] (h38 _ hw)
    · refine aw_aloadn C dX2_insert_29 rfl ?_
      refine aw_getI C dX2_insert_30 kcX8 hT0.1 2 (by decide) rfl mF_X2_328 ?_
      refine aw_bipush (v := 40) C dX2_insert_33 (by decide) ?_
      refine aw_ic_lt C dX2_insert_35 45 (by decide) hw (fun hc35 hw => ?_) (fun hc35 hw => ?_)
      · refine aw_aloadn C dX2_insert_45 rfl ?_
        refine aw_aloadn C dX2_insert_46 rfl ?_
        refine aw_getI C dX2_insert_47 kcX2 shB_84 16 (by decide) rfl mF_X2_78 ?_
        refine aw_callV C dX2_insert_50 (t_X8_insertLetter hT0 (G0 84 16) _ _ hw) mM_X2_427 bX8_insertLetter hT0.1 rfl rfl ⟨Nat.le_of_ble_eq_true rfl, Nat.le_of_ble_eq_true rfl, Nat.zero_le _, Nat.zero_le _⟩ _ rfl (Nat.le_of_ble_eq_true rfl) (fun r50 G2 hq => ?_)
        obtain ⟨rfl, hw⟩ := hq
        refine aw_aloadn C dX2_insert_53 rfl ?_
        refine aw_getR (r := 19) C dX2_insert_54 kcX2 shB_84 1 (by decide) rfl mF_X2_43 ?_
        refine aw_getI C dX2_insert_57 kcX9 (worldS_19 shOK_B).1 8 (by decide) rfl mF_X2_347 ?_
        refine aw_iconst (v := (-1)) C dX2_insert_60 (by decide) ?_
        refine aw_ic_eq C dX2_insert_61 71 (by decide) hw (fun hc61 hw => ?_) (fun hc61 hw => ?_)
        · exact aw_msk [true, false, false] (h71 _ hw)
        · refine aw_aloadn C dX2_insert_64 rfl ?_
          refine aw_getI C dX2_insert_65 kcX2 shB_84 14 (by decide) rfl mF_X2_71 ?_
          refine aw_if_eq C dX2_insert_68 77 (by decide) hw (fun hc68 hw => ?_) (fun hc68 hw => ?_)
          · refine aw_aloadn C dX2_insert_77 rfl ?_
            refine aw_iconst (v := 1) C dX2_insert_78 (by decide) ?_
            refine aw_putI C dX2_insert_79 kcX2 shB_84 14 (by decide) rfl mF_X2_71 rfl rfl rfl hw (fun G4 hw => ?_)
            refine aw_aloadn C dX2_insert_82 rfl ?_
            refine aw_getR (r := 106) C dX2_insert_83 kcX2 shB_84 3 (by decide) rfl mF_X2_21 ?_
            refine aw_getR (r := 121) C dX2_insert_86 kcX1 shB_106 7 (by decide) rfl mF_X2_218 ?_
            refine aw_aloadn C dX2_insert_89 rfl ?_
            refine aw_getI C dX2_insert_90 kcX2 shB_84 11 (by decide) rfl mF_X2_91 ?_
            refine aw_aloadn C dX2_insert_93 rfl ?_
            refine aw_getI C dX2_insert_94 kcX2 shB_84 16 (by decide) rfl mF_X2_78 ?_
            refine aw_callV C dX2_insert_97 (t_put rowB_121 (Nat.le_of_ble_eq_true rfl) (G4 84 11) (G4 84 16) _) mM_X2_142 bX6_put rowB_121.1 rfl rfl ⟨Nat.le_of_ble_eq_true rfl, Nat.le_of_ble_eq_true rfl, Nat.zero_le _, Nat.zero_le _⟩ _ rfl (Nat.le_of_ble_eq_true rfl) (fun r97 G5 hq => ?_)
            obtain ⟨rfl, hq⟩ := hq
            replace hw := pt_eq hw hq
            refine aw_aloadn C dX2_insert_100 rfl ?_
            refine aw_getR (r := 106) C dX2_insert_101 kcX2 shB_84 3 (by decide) rfl mF_X2_21 ?_
            refine aw_getR (r := 117) C dX2_insert_104 kcX1 shB_106 5 (by decide) rfl mF_X2_209 ?_
            refine aw_aloadn C dX2_insert_107 rfl ?_
            refine aw_getI C dX2_insert_108 kcX2 shB_84 11 (by decide) rfl mF_X2_91 ?_
            refine aw_iloadn C dX2_insert_111 rfl ?_
            refine aw_callV C dX2_insert_112 (t_put rowB_117 (Nat.le_of_ble_eq_true rfl) (G5 84 11) p1 _) mM_X2_142 bX6_put rowB_117.1 rfl rfl ⟨Nat.le_of_ble_eq_true rfl, Nat.le_of_ble_eq_true rfl, Nat.zero_le _, Nat.zero_le _⟩ _ rfl (Nat.le_of_ble_eq_true rfl) (fun r112 G6 hq => ?_)
            obtain ⟨rfl, hq⟩ := hq
            replace hw := pt_eq hw hq
            refine aw_aloadn C dX2_insert_115 rfl ?_
            refine aw_aloadn C dX2_insert_116 rfl ?_
            refine aw_getR (r := 19) C dX2_insert_117 kcX2 shB_84 1 (by decide) rfl mF_X2_43 ?_
            refine aw_getI C dX2_insert_120 kcX9 (worldS_19 shOK_B).1 8 (by decide) rfl mF_X2_347 ?_
            refine aw_iconst (v := 1) C dX2_insert_123 (by decide) ?_
            refine aw_callV C dX2_insert_124 (t_X2_invoke (G6 19 8) 1 _ _ hw) mM_X2_292 bX2_invoke shB_84 rfl rfl ⟨Nat.le_of_ble_eq_true rfl, Nat.le_of_ble_eq_true rfl, Nat.zero_le _, Nat.zero_le _⟩ _ rfl (Nat.le_of_ble_eq_true rfl) (fun r124 G7 hq => ?_)
            obtain ⟨rfl, hw⟩ := hq
            exact aw_return C hr dX2_insert_127 ⟨rfl, hw⟩
          · exact aw_msk [true, false, false] (h71 _ hw)
      · exact aw_msk [true, false, false] (h38 _ hw)
  · refine aw_aloadn C dX2_insert_10 rfl ?_
    refine aw_bipush (v := (-3)) C dX2_insert_11 (by decide) ?_
    refine aw_callV C dX2_insert_13 (t_X2_fail (-3) _ _ hw) mM_X2_176 bX2_fail shB_84 rfl rfl ⟨Nat.le_of_ble_eq_true rfl, Nat.le_of_ble_eq_true rfl, Nat.zero_le _, Nat.zero_le _⟩ _ rfl (Nat.le_of_ble_eq_true rfl) (fun r13 G8 hq => ?_)
    obtain ⟨rfl, hw⟩ := hq
    exact aw_return C hr dX2_insert_16 ⟨rfl, hw⟩
def w_X2_apply (K : Gt → Prop) (G0 : Gt) : Prop :=
  w_X3_isFunction (fun v2 G1 =>
    pif (v2 = 0) (
      w_X2_fail (fun G10 =>
        K G10) (-3) G1) (
      w_X3_functionMaker (fun v4 G3 =>
        w_X7_open (fun v6 G5 =>
          w_X7_bind (fun G7 =>
            pt (rput G7 124 601 (G7 84 11) v6) fun G8 =>
            w_X2_enter (fun G9 =>
              K G9) (rat G8 7 120 (rat G3 108 601 v4)) G8) v6 (rat G5 5 120 (rat G3 108 601 v4)) (G5 84 16) G5) (rat G3 112 601 v4) G3) (rat G0 122 601 (G0 84 11)) G1)) (rat G0 122 601 (G0 84 11)) G0
set_option maxHeartbeats 4000000 in
set_option maxRecDepth 100000 in
theorem t_X2_apply {l : Launch}  (G0 : Gt) (K : Gt → Prop) (hw : w_X2_apply K G0) : CT0 l yX2_apply cX2_apply 5 none 3 67 [.ref 84] shB G0 (fun r G' => r = none ∧ K G') := by
  refine CT0_of (by decide) (Nat.le_of_ble_eq_true rfl) rfl ?_
  intro p e s m args below meth c D tA ad A C hr _
  unfold w_X2_apply at hw
  show aw p l e { frames := 3, cells := 0, slots := 0, locals := 67 } s m args below meth c 5 D tA A (MQ below (QC0 D tA ad A shB (fun r G' => r = none ∧ K G')) args s 0 0 A) 0 0 ad 0 [some (.ref 84), none, none, none, none] [] shB G0
  refine aw_aloadn C dX2_apply_0 rfl ?_
  refine aw_getR (r := 106) C dX2_apply_1 kcX2 shB_84 3 (by decide) rfl mF_X2_21 ?_
  refine aw_getR (r := 121) C dX2_apply_4 kcX1 shB_106 7 (by decide) rfl mF_X2_218 ?_
  refine aw_aloadn C dX2_apply_7 rfl ?_
  refine aw_getI C dX2_apply_8 kcX2 shB_84 11 (by decide) rfl mF_X2_91 ?_
  refine aw_callV C dX2_apply_11 (t_at rowB_121 (Nat.le_of_ble_eq_true rfl) (G0 84 11) _) mM_X2_119 bX6_at rowB_121.1 rfl rfl ⟨Nat.le_of_ble_eq_true rfl, Nat.le_of_ble_eq_true rfl, Nat.zero_le _, Nat.zero_le _⟩ _ rfl (Nat.le_of_ble_eq_true rfl) (fun r11 G11x hq => ?_)
  obtain ⟨rfl, rfl⟩ := hq
  refine aw_istoren C dX2_apply_14 (by decide) rfl ?_
  refine aw_aloadn C dX2_apply_15 rfl ?_
  refine aw_getR (r := 134) C dX2_apply_16 kcX2 shB_84 5 (by decide) rfl mF_X2_35 ?_
  refine aw_iloadn C dX2_apply_19 rfl ?_
  refine aw_callV C dX2_apply_20 (t_X3_isFunction (rat G0 122 601 (G0 84 11)) _ _ hw) mM_X2_386 bX3_isFunction shB_134 rfl rfl ⟨Nat.le_of_ble_eq_true rfl, Nat.le_of_ble_eq_true rfl, Nat.zero_le _, Nat.zero_le _⟩ _ rfl (Nat.le_of_ble_eq_true rfl) (fun r20 G1 hq => ?_)
  obtain ⟨v2, rfl, hw⟩ := hq
  refine aw_if_ne C dX2_apply_23 33 (by decide) hw (fun hc23 hw => ?_) (fun hc23 hw => ?_)
  · refine aw_aloadn C dX2_apply_33 rfl ?_
    refine aw_getR (r := 134) C dX2_apply_34 kcX2 shB_84 5 (by decide) rfl mF_X2_35 ?_
    refine aw_iloadn C dX2_apply_37 rfl ?_
    refine aw_callV C dX2_apply_38 (t_X3_functionMaker (rat G0 122 601 (G0 84 11)) _ _ hw) mM_X2_389 bX3_functionMaker shB_134 rfl rfl ⟨Nat.le_of_ble_eq_true rfl, Nat.le_of_ble_eq_true rfl, Nat.zero_le _, Nat.zero_le _⟩ _ rfl (Nat.le_of_ble_eq_true rfl) (fun r38 G3 hq => ?_)
    obtain ⟨v4, rfl, hw⟩ := hq
    refine aw_istoren C dX2_apply_41 (by decide) rfl ?_
    refine aw_aloadn C dX2_apply_42 rfl ?_
    refine aw_getR (r := 106) C dX2_apply_43 kcX2 shB_84 3 (by decide) rfl mF_X2_21 ?_
    refine aw_getR (r := 107) C dX2_apply_46 kcX1 shB_106 0 (by decide) rfl mF_X2_167 ?_
    refine aw_iloadn C dX2_apply_49 rfl ?_
    refine aw_callV C dX2_apply_50 (t_at rowB_107 (Nat.le_of_ble_eq_true rfl) v4 _) mM_X2_119 bX6_at rowB_107.1 rfl rfl ⟨Nat.le_of_ble_eq_true rfl, Nat.le_of_ble_eq_true rfl, Nat.zero_le _, Nat.zero_le _⟩ _ rfl (Nat.le_of_ble_eq_true rfl) (fun r50 G50x hq => ?_)
    obtain ⟨rfl, rfl⟩ := hq
    refine aw_istoren C dX2_apply_53 (by decide) rfl ?_
    refine aw_aloadn C dX2_apply_54 rfl ?_
    refine aw_getR (r := 129) C dX2_apply_55 kcX2 shB_84 4 (by decide) rfl mF_X2_28 ?_
    refine aw_aloadn C dX2_apply_58 rfl ?_
    refine aw_getR (r := 106) C dX2_apply_59 kcX2 shB_84 3 (by decide) rfl mF_X2_21 ?_
    refine aw_getR (r := 111) C dX2_apply_62 kcX1 shB_106 2 (by decide) rfl mF_X2_170 ?_
    refine aw_iloadn C dX2_apply_65 rfl ?_
    refine aw_callV C dX2_apply_66 (t_at rowB_111 (Nat.le_of_ble_eq_true rfl) v4 _) mM_X2_119 bX6_at rowB_111.1 rfl rfl ⟨Nat.le_of_ble_eq_true rfl, Nat.le_of_ble_eq_true rfl, Nat.zero_le _, Nat.zero_le _⟩ _ rfl (Nat.le_of_ble_eq_true rfl) (fun r66 G66x hq => ?_)
    obtain ⟨rfl, rfl⟩ := hq
    refine aw_callV C dX2_apply_69 (t_X7_open (rat G3 112 601 v4) _ _ hw) mM_X2_97 bX7_open shB_129 rfl rfl ⟨Nat.le_of_ble_eq_true rfl, Nat.le_of_ble_eq_true rfl, Nat.zero_le _, Nat.zero_le _⟩ _ rfl (Nat.le_of_ble_eq_true rfl) (fun r69 G5 hq => ?_)
    obtain ⟨v6, rfl, hw⟩ := hq
    refine aw_istore C dX2_apply_72 (by decide) rfl ?_
    refine aw_aloadn C dX2_apply_74 rfl ?_
    refine aw_getR (r := 129) C dX2_apply_75 kcX2 shB_84 4 (by decide) rfl mF_X2_28 ?_
    refine aw_iload C dX2_apply_78 rfl ?_
    refine aw_aloadn C dX2_apply_80 rfl ?_
    refine aw_getR (r := 1) C dX2_apply_81 kcX2 shB_84 0 (by decide) rfl mF_X2_39 ?_
    refine aw_getR (r := 4) C dX2_apply_84 kcX4 shB_1 1 (by decide) rfl mF_X2_380 ?_
    refine aw_iloadn C dX2_apply_87 rfl ?_
    refine aw_callV C dX2_apply_88 (t_at (rowS_4 shOK_B) (Nat.le_of_ble_eq_true rfl) (rat G3 108 601 v4) _) mM_X2_119 bX6_at (rowS_4 shOK_B).1 rfl rfl ⟨Nat.le_of_ble_eq_true rfl, Nat.le_of_ble_eq_true rfl, Nat.zero_le _, Nat.zero_le _⟩ _ rfl (Nat.le_of_ble_eq_true rfl) (fun r88 G88x hq => ?_)
    obtain ⟨rfl, rfl⟩ := hq
    refine aw_aloadn C dX2_apply_91 rfl ?_
    refine aw_getI C dX2_apply_92 kcX2 shB_84 16 (by decide) rfl mF_X2_78 ?_
    refine aw_callV C dX2_apply_95 (t_X7_bind v6 (rat G5 5 120 (rat G3 108 601 v4)) (G5 84 16) _ _ hw) mM_X2_245 bX7_bind shB_129 rfl rfl ⟨Nat.le_of_ble_eq_true rfl, Nat.le_of_ble_eq_true rfl, Nat.zero_le _, Nat.zero_le _⟩ _ rfl (Nat.le_of_ble_eq_true rfl) (fun r95 G7 hq => ?_)
    obtain ⟨rfl, hw⟩ := hq
    refine aw_aloadn C dX2_apply_98 rfl ?_
    refine aw_getR (r := 106) C dX2_apply_99 kcX2 shB_84 3 (by decide) rfl mF_X2_21 ?_
    refine aw_getR (r := 123) C dX2_apply_102 kcX1 shB_106 8 (by decide) rfl mF_X2_212 ?_
    refine aw_aloadn C dX2_apply_105 rfl ?_
    refine aw_getI C dX2_apply_106 kcX2 shB_84 11 (by decide) rfl mF_X2_91 ?_
    refine aw_iload C dX2_apply_109 rfl ?_
    refine aw_callV C dX2_apply_111 (t_put rowB_123 (Nat.le_of_ble_eq_true rfl) (G7 84 11) v6 _) mM_X2_142 bX6_put rowB_123.1 rfl rfl ⟨Nat.le_of_ble_eq_true rfl, Nat.le_of_ble_eq_true rfl, Nat.zero_le _, Nat.zero_le _⟩ _ rfl (Nat.le_of_ble_eq_true rfl) (fun r111 G8 hq => ?_)
    obtain ⟨rfl, hq⟩ := hq
    replace hw := pt_eq hw hq
    refine aw_aloadn C dX2_apply_114 rfl ?_
    refine aw_aloadn C dX2_apply_115 rfl ?_
    refine aw_getR (r := 1) C dX2_apply_116 kcX2 shB_84 0 (by decide) rfl mF_X2_39 ?_
    refine aw_getR (r := 6) C dX2_apply_119 kcX4 shB_1 2 (by decide) rfl mF_X2_392 ?_
    refine aw_iloadn C dX2_apply_122 rfl ?_
    refine aw_callV C dX2_apply_123 (t_at (rowS_6 shOK_B) (Nat.le_of_ble_eq_true rfl) (rat G3 108 601 v4) _) mM_X2_119 bX6_at (rowS_6 shOK_B).1 rfl rfl ⟨Nat.le_of_ble_eq_true rfl, Nat.le_of_ble_eq_true rfl, Nat.zero_le _, Nat.zero_le _⟩ _ rfl (Nat.le_of_ble_eq_true rfl) (fun r123 G123x hq => ?_)
    obtain ⟨rfl, rfl⟩ := hq
    refine aw_callV C dX2_apply_126 (t_X2_enter (rat G8 7 120 (rat G3 108 601 v4)) _ _ hw) mM_X2_252 bX2_enter shB_84 rfl rfl ⟨Nat.le_of_ble_eq_true rfl, Nat.le_of_ble_eq_true rfl, Nat.zero_le _, Nat.zero_le _⟩ _ rfl (Nat.le_of_ble_eq_true rfl) (fun r126 G9 hq => ?_)
    obtain ⟨rfl, hw⟩ := hq
    exact aw_return C hr dX2_apply_129 ⟨rfl, hw⟩
  · refine aw_aloadn C dX2_apply_26 rfl ?_
    refine aw_bipush (v := (-3)) C dX2_apply_27 (by decide) ?_
    refine aw_callV C dX2_apply_29 (t_X2_fail (-3) _ _ hw) mM_X2_176 bX2_fail shB_84 rfl rfl ⟨Nat.le_of_ble_eq_true rfl, Nat.le_of_ble_eq_true rfl, Nat.zero_le _, Nat.zero_le _⟩ _ rfl (Nat.le_of_ble_eq_true rfl) (fun r29 G10 hq => ?_)
    obtain ⟨rfl, hw⟩ := hq
    exact aw_return C hr dX2_apply_32 ⟨rfl, hw⟩
def w_X2_rest_j52 (K : Gt → Prop)  (G0 : Gt) : Prop :=
  w_X2_fail (fun G3 =>
    K G3) (-6) G0
def w_X2_rest (K : Gt → Prop) (G0 : Gt) : Prop :=
  w_X1_rootOf (fun v2 G1 =>
    pif (((rat G1 114 601 v2) - 4) < 0) (
      w_X2_rest_j52 K G1) (
      pif ((rat G1 140 601 ((rat G1 114 601 v2) - 4)) = 2) (
        w_X2_isBarred (fun v5 G4 =>
          pif (v5 = 0) (
            pt (rput G4 140 601 ((rat G1 114 601 v2) - 4) 1) fun G6 =>
            pt (rput G6 144 601 ((rat G1 114 601 v2) - 4) (G6 84 11)) fun G7 =>
            w_X2_endCall (fun G8 =>
              pt (gu G8 84 11 (rat G4 110 601 v2)) fun G9 =>
              K G9) (rat G4 110 601 v2) G7) (
            w_X2_rest_j52 K G4)) G1) (
        w_X2_rest_j52 K G1))) (G0 84 11) G0
set_option maxHeartbeats 4000000 in
set_option maxRecDepth 100000 in
theorem t_X2_rest {l : Launch}  (G0 : Gt) (K : Gt → Prop) (hw : w_X2_rest K G0) : CT0 l yX2_rest cX2_rest 4 none 2 44 [.ref 84] shB G0 (fun r G' => r = none ∧ K G') := by
  refine CT0_of (by decide) (Nat.le_of_ble_eq_true rfl) rfl ?_
  intro p e s m args below meth c D tA ad A C hr _
  have h52 : ∀ (G0 : Gt), w_X2_rest_j52 K  G0 → aw p l e { frames := 2, cells := 0, slots := 0, locals := 44 } s m args below meth c 4 D tA A (MQ below (QC0 D tA ad A shB (fun r G' => r = none ∧ K G')) args s 0 0 A) 0 0 ad 52 [some (.ref 84), none, none, none] [] shB G0 := by
    intro   G0 hw
    unfold w_X2_rest_j52 at hw
    refine aw_aloadn C dX2_rest_52 rfl ?_
    refine aw_bipush (v := (-6)) C dX2_rest_53 (by decide) ?_
    refine aw_callV C dX2_rest_55 (t_X2_fail (-6) _ _ hw) mM_X2_176 bX2_fail shB_84 rfl rfl ⟨Nat.le_of_ble_eq_true rfl, Nat.le_of_ble_eq_true rfl, Nat.zero_le _, Nat.zero_le _⟩ _ rfl (Nat.le_of_ble_eq_true rfl) (fun r55 G3 hq => ?_)
    obtain ⟨rfl, hw⟩ := hq
    exact aw_return C hr dX2_rest_58 ⟨rfl, hw⟩
  unfold w_X2_rest at hw
  show aw p l e { frames := 2, cells := 0, slots := 0, locals := 44 } s m args below meth c 4 D tA A (MQ below (QC0 D tA ad A shB (fun r G' => r = none ∧ K G')) args s 0 0 A) 0 0 ad 0 [some (.ref 84), none, none, none] [] shB G0
  refine aw_aloadn C dX2_rest_0 rfl ?_
  refine aw_getR (r := 106) C dX2_rest_1 kcX2 shB_84 3 (by decide) rfl mF_X2_21 ?_
  refine aw_aloadn C dX2_rest_4 rfl ?_
  refine aw_getI C dX2_rest_5 kcX2 shB_84 11 (by decide) rfl mF_X2_91 ?_
  refine aw_callV C dX2_rest_8 (t_X1_rootOf (G0 84 11) _ _ hw) mM_X2_383 bX1_rootOf shB_106 rfl rfl ⟨Nat.le_of_ble_eq_true rfl, Nat.le_of_ble_eq_true rfl, Nat.zero_le _, Nat.zero_le _⟩ _ rfl (Nat.le_of_ble_eq_true rfl) (fun r8 G1 hq => ?_)
  obtain ⟨v2, rfl, hw⟩ := hq
  refine aw_istoren C dX2_rest_11 (by decide) rfl ?_
  refine aw_aloadn C dX2_rest_12 rfl ?_
  refine aw_getR (r := 106) C dX2_rest_13 kcX2 shB_84 3 (by decide) rfl mF_X2_21 ?_
  refine aw_getR (r := 113) C dX2_rest_16 kcX1 shB_106 3 (by decide) rfl mF_X2_203 ?_
  refine aw_iloadn C dX2_rest_19 rfl ?_
  refine aw_callV C dX2_rest_20 (t_at rowB_113 (Nat.le_of_ble_eq_true rfl) v2 _) mM_X2_119 bX6_at rowB_113.1 rfl rfl ⟨Nat.le_of_ble_eq_true rfl, Nat.le_of_ble_eq_true rfl, Nat.zero_le _, Nat.zero_le _⟩ _ rfl (Nat.le_of_ble_eq_true rfl) (fun r20 G20x hq => ?_)
  obtain ⟨rfl, rfl⟩ := hq
  refine aw_iconst (v := 4) C dX2_rest_23 (by decide) ?_
  refine aw_isub C dX2_rest_24 ?_
  refine aw_istoren C dX2_rest_25 (by decide) rfl ?_
  refine aw_iloadn C dX2_rest_26 rfl ?_
  refine aw_if_lt C dX2_rest_27 52 (by decide) hw (fun hc27 hw => ?_) (fun hc27 hw => ?_)
  · exact aw_msk [true, false, false, false] (h52 _ hw)
  · refine aw_aloadn C dX2_rest_30 rfl ?_
    refine aw_getR (r := 134) C dX2_rest_31 kcX2 shB_84 5 (by decide) rfl mF_X2_35 ?_
    refine aw_getR (r := 139) C dX2_rest_34 kcX3 shB_134 2 (by decide) rfl mF_X2_362 ?_
    refine aw_iloadn C dX2_rest_37 rfl ?_
    refine aw_callV C dX2_rest_38 (t_at rowB_139 (Nat.le_of_ble_eq_true rfl) ((rat G1 114 601 v2) - 4) _) mM_X2_119 bX6_at rowB_139.1 rfl rfl ⟨Nat.le_of_ble_eq_true rfl, Nat.le_of_ble_eq_true rfl, Nat.zero_le _, Nat.zero_le _⟩ _ rfl (Nat.le_of_ble_eq_true rfl) (fun r38 G38x hq => ?_)
    obtain ⟨rfl, rfl⟩ := hq
    refine aw_iconst (v := 2) C dX2_rest_41 (by decide) ?_
    refine aw_ic_ne C dX2_rest_42 52 (by decide) hw (fun hc42 hw => ?_) (fun hc42 hw => ?_)
    · exact aw_msk [true, false, false, false] (h52 _ hw)
    · refine aw_aloadn C dX2_rest_45 rfl ?_
      refine aw_callV C dX2_rest_46 (t_X2_isBarred _ _ hw) mM_X2_416 bX2_isBarred shB_84 rfl rfl ⟨Nat.le_of_ble_eq_true rfl, Nat.le_of_ble_eq_true rfl, Nat.zero_le _, Nat.zero_le _⟩ _ rfl (Nat.le_of_ble_eq_true rfl) (fun r46 G4 hq => ?_)
      obtain ⟨v5, rfl, hw⟩ := hq
      refine aw_if_eq C dX2_rest_49 59 (by decide) hw (fun hc49 hw => ?_) (fun hc49 hw => ?_)
      · refine aw_aloadn C dX2_rest_59 rfl ?_
        refine aw_getR (r := 106) C dX2_rest_60 kcX2 shB_84 3 (by decide) rfl mF_X2_21 ?_
        refine aw_getR (r := 109) C dX2_rest_63 kcX1 shB_106 1 (by decide) rfl mF_X2_200 ?_
        refine aw_iloadn C dX2_rest_66 rfl ?_
        refine aw_callV C dX2_rest_67 (t_at rowB_109 (Nat.le_of_ble_eq_true rfl) v2 _) mM_X2_119 bX6_at rowB_109.1 rfl rfl ⟨Nat.le_of_ble_eq_true rfl, Nat.le_of_ble_eq_true rfl, Nat.zero_le _, Nat.zero_le _⟩ _ rfl (Nat.le_of_ble_eq_true rfl) (fun r67 G67x hq => ?_)
        obtain ⟨rfl, rfl⟩ := hq
        refine aw_istoren C dX2_rest_70 (by decide) rfl ?_
        refine aw_aloadn C dX2_rest_71 rfl ?_
        refine aw_getR (r := 134) C dX2_rest_72 kcX2 shB_84 5 (by decide) rfl mF_X2_35 ?_
        refine aw_getR (r := 139) C dX2_rest_75 kcX3 shB_134 2 (by decide) rfl mF_X2_362 ?_
        refine aw_iloadn C dX2_rest_78 rfl ?_
        refine aw_iconst (v := 1) C dX2_rest_79 (by decide) ?_
        refine aw_callV C dX2_rest_80 (t_put rowB_139 (Nat.le_of_ble_eq_true rfl) ((rat G1 114 601 v2) - 4) 1 _) mM_X2_142 bX6_put rowB_139.1 rfl rfl ⟨Nat.le_of_ble_eq_true rfl, Nat.le_of_ble_eq_true rfl, Nat.zero_le _, Nat.zero_le _⟩ _ rfl (Nat.le_of_ble_eq_true rfl) (fun r80 G6 hq => ?_)
        obtain ⟨rfl, hq⟩ := hq
        replace hw := pt_eq hw hq
        refine aw_aloadn C dX2_rest_83 rfl ?_
        refine aw_getR (r := 134) C dX2_rest_84 kcX2 shB_84 5 (by decide) rfl mF_X2_35 ?_
        refine aw_getR (r := 143) C dX2_rest_87 kcX3 shB_134 4 (by decide) rfl mF_X2_371 ?_
        refine aw_iloadn C dX2_rest_90 rfl ?_
        refine aw_aloadn C dX2_rest_91 rfl ?_
        refine aw_getI C dX2_rest_92 kcX2 shB_84 11 (by decide) rfl mF_X2_91 ?_
        refine aw_callV C dX2_rest_95 (t_put rowB_143 (Nat.le_of_ble_eq_true rfl) ((rat G1 114 601 v2) - 4) (G6 84 11) _) mM_X2_142 bX6_put rowB_143.1 rfl rfl ⟨Nat.le_of_ble_eq_true rfl, Nat.le_of_ble_eq_true rfl, Nat.zero_le _, Nat.zero_le _⟩ _ rfl (Nat.le_of_ble_eq_true rfl) (fun r95 G7 hq => ?_)
        obtain ⟨rfl, hq⟩ := hq
        replace hw := pt_eq hw hq
        refine aw_aloadn C dX2_rest_98 rfl ?_
        refine aw_iloadn C dX2_rest_99 rfl ?_
        refine aw_callV C dX2_rest_100 (t_X2_endCall (rat G4 110 601 v2) _ _ hw) mM_X2_350 bX2_endCall shB_84 rfl rfl ⟨Nat.le_of_ble_eq_true rfl, Nat.le_of_ble_eq_true rfl, Nat.zero_le _, Nat.zero_le _⟩ _ rfl (Nat.le_of_ble_eq_true rfl) (fun r100 G8 hq => ?_)
        obtain ⟨rfl, hw⟩ := hq
        refine aw_aloadn C dX2_rest_103 rfl ?_
        refine aw_iloadn C dX2_rest_104 rfl ?_
        refine aw_putI C dX2_rest_105 kcX2 shB_84 11 (by decide) rfl mF_X2_91 rfl rfl rfl hw (fun G9 hw => ?_)
        exact aw_return C hr dX2_rest_108 ⟨rfl, hw⟩
      · exact aw_msk [true, false, false, false] (h52 _ hw)
def w_X2_ask_j119 (K : Gt → Prop)  (G0 : Gt) : Prop :=
  K G0
def w_X2_ask_j49 (K : Gt → Prop)  (G0 : Gt) : Prop :=
  w_X2_fail (fun G3 =>
    w_X2_ask_j119 K G3) (-3) G0
def w_X2_ask_j38 (K : Gt → Prop) (x1 : Int32) (y0 : Int32) (G0 : Gt) : Prop :=
  pif (y0 = 2) (
    w_X2_ask_j49 K G0) (
    pif (y0 = 3) (
      w_X2_ask_j49 K G0) (
      pif (y0 = 4) (
        pt (gu G0 84 16 (-1)) fun G8 =>
        w_X2_ask_j119 K G8) (
        pif ((G0 84 8) < 12) (
          pt (rput G0 140 601 x1 2) fun G4 =>
          pif (y0 = 1) (
            w_X2_goOn (fun G6 =>
              w_X2_ask_j119 K G6) x1 G4) (
            w_X2_askFirst (fun G5 =>
              w_X2_ask_j119 K G5) x1 G4)) (
          w_X2_fail (fun G7 =>
            w_X2_ask_j119 K G7) (-5) G0))))
def w_X2_ask (K : Gt → Prop) (G0 : Gt) : Prop :=
  w_X3_isGenerator (fun v2 G1 =>
    pif (v2 = 0) (
      w_X2_ask_j38 K ((G0 84 16) - 30000) 2 G1) (
      w_X2_ask_j38 K ((G0 84 16) - 30000) (rat G1 140 601 ((G0 84 16) - 30000)) G1)) (G0 84 16) G0
set_option maxHeartbeats 4000000 in
set_option maxRecDepth 100000 in
theorem t_X2_ask {l : Launch}  (G0 : Gt) (K : Gt → Prop) (hw : w_X2_ask K G0) : CT0 l yX2_ask cX2_ask 3 none 3 68 [.ref 84] shB G0 (fun r G' => r = none ∧ K G') := by
  refine CT0_of (by decide) (Nat.le_of_ble_eq_true rfl) rfl ?_
  intro p e s m args below meth c D tA ad A C hr _
  have h119 : ∀ (G0 : Gt), w_X2_ask_j119 K  G0 → aw p l e { frames := 3, cells := 0, slots := 0, locals := 68 } s m args below meth c 3 D tA A (MQ below (QC0 D tA ad A shB (fun r G' => r = none ∧ K G')) args s 0 0 A) 0 0 ad 119 [none, none, none] [] shB G0 := by
    intro   G0 hw
    unfold w_X2_ask_j119 at hw
    exact aw_return C hr dX2_ask_119 ⟨rfl, hw⟩
  have h49 : ∀ (G0 : Gt), w_X2_ask_j49 K  G0 → aw p l e { frames := 3, cells := 0, slots := 0, locals := 68 } s m args below meth c 3 D tA A (MQ below (QC0 D tA ad A shB (fun r G' => r = none ∧ K G')) args s 0 0 A) 0 0 ad 49 [some (.ref 84), none, none] [] shB G0 := by
    intro   G0 hw
    unfold w_X2_ask_j49 at hw
    refine aw_aloadn C dX2_ask_49 rfl ?_
    refine aw_bipush (v := (-3)) C dX2_ask_50 (by decide) ?_
    refine aw_callV C dX2_ask_52 (t_X2_fail (-3) _ _ hw) mM_X2_176 bX2_fail shB_84 rfl rfl ⟨Nat.le_of_ble_eq_true rfl, Nat.le_of_ble_eq_true rfl, Nat.zero_le _, Nat.zero_le _⟩ _ rfl (Nat.le_of_ble_eq_true rfl) (fun r52 G3 hq => ?_)
    obtain ⟨rfl, hw⟩ := hq
    refine aw_goto (tgt := 119) C dX2_ask_55 (by decide) ?_
    exact aw_msk [false, false, false] (h119 _ hw)
  have h38 : ∀ (x1 : Int32) (y0 : Int32) (G0 : Gt), w_X2_ask_j38 K x1 y0 G0 → aw p l e { frames := 3, cells := 0, slots := 0, locals := 68 } s m args below meth c 3 D tA A (MQ below (QC0 D tA ad A shB (fun r G' => r = none ∧ K G')) args s 0 0 A) 0 0 ad 38 [some (.ref 84), some (.int x1), none] [.int y0] shB G0 := by
    intro  x1 y0 G0 hw
    unfold w_X2_ask_j38 at hw
    refine aw_istoren C dX2_ask_38 (by decide) rfl ?_
    refine aw_iloadn C dX2_ask_39 rfl ?_
    refine aw_iconst (v := 2) C dX2_ask_40 (by decide) ?_
    refine aw_ic_eq C dX2_ask_41 49 (by decide) hw (fun hc41 hw => ?_) (fun hc41 hw => ?_)
    · exact aw_msk [true, false, false] (h49 _ hw)
    · refine aw_iloadn C dX2_ask_44 rfl ?_
      refine aw_iconst (v := 3) C dX2_ask_45 (by decide) ?_
      refine aw_ic_ne C dX2_ask_46 58 (by decide) hw (fun hc46 hw => ?_) (fun hc46 hw => ?_)
      · refine aw_iloadn C dX2_ask_58 rfl ?_
        refine aw_iconst (v := 4) C dX2_ask_59 (by decide) ?_
        refine aw_ic_ne C dX2_ask_60 71 (by decide) hw (fun hc60 hw => ?_) (fun hc60 hw => ?_)
        · refine aw_aloadn C dX2_ask_71 rfl ?_
          refine aw_getI C dX2_ask_72 kcX2 shB_84 8 (by decide) rfl mF_X2_65 ?_
          refine aw_bipush (v := 12) C dX2_ask_75 (by decide) ?_
          refine aw_ic_lt C dX2_ask_77 89 (by decide) hw (fun hc77 hw => ?_) (fun hc77 hw => ?_)
          · refine aw_aloadn C dX2_ask_89 rfl ?_
            refine aw_getR (r := 134) C dX2_ask_90 kcX2 shB_84 5 (by decide) rfl mF_X2_35 ?_
            refine aw_getR (r := 139) C dX2_ask_93 kcX3 shB_134 2 (by decide) rfl mF_X2_362 ?_
            refine aw_iloadn C dX2_ask_96 rfl ?_
            refine aw_iconst (v := 2) C dX2_ask_97 (by decide) ?_
            refine aw_callV C dX2_ask_98 (t_put rowB_139 (Nat.le_of_ble_eq_true rfl) x1 2 _) mM_X2_142 bX6_put rowB_139.1 rfl rfl ⟨Nat.le_of_ble_eq_true rfl, Nat.le_of_ble_eq_true rfl, Nat.zero_le _, Nat.zero_le _⟩ _ rfl (Nat.le_of_ble_eq_true rfl) (fun r98 G4 hq => ?_)
            obtain ⟨rfl, hq⟩ := hq
            replace hw := pt_eq hw hq
            refine aw_iloadn C dX2_ask_101 rfl ?_
            refine aw_iconst (v := 1) C dX2_ask_102 (by decide) ?_
            refine aw_ic_ne C dX2_ask_103 114 (by decide) hw (fun hc103 hw => ?_) (fun hc103 hw => ?_)
            · refine aw_aloadn C dX2_ask_114 rfl ?_
              refine aw_iloadn C dX2_ask_115 rfl ?_
              refine aw_callV C dX2_ask_116 (t_X2_askFirst x1 _ _ hw) mM_X2_410 bX2_askFirst shB_84 rfl rfl ⟨Nat.le_of_ble_eq_true rfl, Nat.le_of_ble_eq_true rfl, Nat.zero_le _, Nat.zero_le _⟩ _ rfl (Nat.le_of_ble_eq_true rfl) (fun r116 G5 hq => ?_)
              obtain ⟨rfl, hw⟩ := hq
              exact aw_msk [false, false, false] (h119 _ hw)
            · refine aw_aloadn C dX2_ask_106 rfl ?_
              refine aw_iloadn C dX2_ask_107 rfl ?_
              refine aw_callV C dX2_ask_108 (t_X2_goOn x1 _ _ hw) mM_X2_407 bX2_goOn shB_84 rfl rfl ⟨Nat.le_of_ble_eq_true rfl, Nat.le_of_ble_eq_true rfl, Nat.zero_le _, Nat.zero_le _⟩ _ rfl (Nat.le_of_ble_eq_true rfl) (fun r108 G6 hq => ?_)
              obtain ⟨rfl, hw⟩ := hq
              refine aw_goto (tgt := 119) C dX2_ask_111 (by decide) ?_
              exact aw_msk [false, false, false] (h119 _ hw)
          · refine aw_aloadn C dX2_ask_80 rfl ?_
            refine aw_bipush (v := (-5)) C dX2_ask_81 (by decide) ?_
            refine aw_callV C dX2_ask_83 (t_X2_fail (-5) _ _ hw) mM_X2_176 bX2_fail shB_84 rfl rfl ⟨Nat.le_of_ble_eq_true rfl, Nat.le_of_ble_eq_true rfl, Nat.zero_le _, Nat.zero_le _⟩ _ rfl (Nat.le_of_ble_eq_true rfl) (fun r83 G7 hq => ?_)
            obtain ⟨rfl, hw⟩ := hq
            refine aw_goto (tgt := 119) C dX2_ask_86 (by decide) ?_
            exact aw_msk [false, false, false] (h119 _ hw)
        · refine aw_aloadn C dX2_ask_63 rfl ?_
          refine aw_iconst (v := (-1)) C dX2_ask_64 (by decide) ?_
          refine aw_putI C dX2_ask_65 kcX2 shB_84 16 (by decide) rfl mF_X2_78 rfl rfl rfl hw (fun G8 hw => ?_)
          refine aw_goto (tgt := 119) C dX2_ask_68 (by decide) ?_
          exact aw_msk [false, false, false] (h119 _ hw)
      · exact aw_msk [true, false, false] (h49 _ hw)
  unfold w_X2_ask at hw
  show aw p l e { frames := 3, cells := 0, slots := 0, locals := 68 } s m args below meth c 3 D tA A (MQ below (QC0 D tA ad A shB (fun r G' => r = none ∧ K G')) args s 0 0 A) 0 0 ad 0 [some (.ref 84), none, none] [] shB G0
  refine aw_aloadn C dX2_ask_0 rfl ?_
  refine aw_getI C dX2_ask_1 kcX2 shB_84 16 (by decide) rfl mF_X2_78 ?_
  refine aw_sipush (v := 30000) C dX2_ask_4 (by decide) ?_
  refine aw_isub C dX2_ask_7 ?_
  refine aw_istoren C dX2_ask_8 (by decide) rfl ?_
  refine aw_aloadn C dX2_ask_9 rfl ?_
  refine aw_getR (r := 134) C dX2_ask_10 kcX2 shB_84 5 (by decide) rfl mF_X2_35 ?_
  refine aw_aloadn C dX2_ask_13 rfl ?_
  refine aw_getI C dX2_ask_14 kcX2 shB_84 16 (by decide) rfl mF_X2_78 ?_
  refine aw_callV C dX2_ask_17 (t_X3_isGenerator (G0 84 16) _ _ hw) mM_X2_404 bX3_isGenerator shB_134 rfl rfl ⟨Nat.le_of_ble_eq_true rfl, Nat.le_of_ble_eq_true rfl, Nat.zero_le _, Nat.zero_le _⟩ _ rfl (Nat.le_of_ble_eq_true rfl) (fun r17 G1 hq => ?_)
  obtain ⟨v2, rfl, hw⟩ := hq
  refine aw_if_eq C dX2_ask_20 37 (by decide) hw (fun hc20 hw => ?_) (fun hc20 hw => ?_)
  · refine aw_iconst (v := 2) C dX2_ask_37 (by decide) ?_
    exact aw_msk [true, true, false] (h38 ((G0 84 16) - 30000) 2 _ hw)
  · refine aw_aloadn C dX2_ask_23 rfl ?_
    refine aw_getR (r := 134) C dX2_ask_24 kcX2 shB_84 5 (by decide) rfl mF_X2_35 ?_
    refine aw_getR (r := 139) C dX2_ask_27 kcX3 shB_134 2 (by decide) rfl mF_X2_362 ?_
    refine aw_iloadn C dX2_ask_30 rfl ?_
    refine aw_callV C dX2_ask_31 (t_at rowB_139 (Nat.le_of_ble_eq_true rfl) ((G0 84 16) - 30000) _) mM_X2_119 bX6_at rowB_139.1 rfl rfl ⟨Nat.le_of_ble_eq_true rfl, Nat.le_of_ble_eq_true rfl, Nat.zero_le _, Nat.zero_le _⟩ _ rfl (Nat.le_of_ble_eq_true rfl) (fun r31 G31x hq => ?_)
    obtain ⟨rfl, rfl⟩ := hq
    refine aw_goto (tgt := 38) C dX2_ask_34 (by decide) ?_
    exact aw_msk [true, true, false] (h38 ((G0 84 16) - 30000) (rat G1 140 601 ((G0 84 16) - 30000)) _ hw)
def w_X2_performReckoning_j199 (K : Gt → Prop)  (G0 : Gt) : Prop :=
  K G0
def w_X2_performReckoning_j170 (K : Gt → Prop) (y1 : Int32) (G0 : Gt) : Prop :=
  pt (gu G0 84 16 y1) fun G10 =>
  w_X2_performReckoning_j199 K G10
def w_X2_performReckoning_j176 (K : Gt → Prop) (x1 : Int32) (G0 : Gt) : Prop :=
  w_X2_reckon (fun G11 =>
    w_X2_performReckoning_j199 K G11) x1 (rat G0 122 601 (G0 84 11)) (G0 84 16) G0
def w_X2_performReckoning (K : Gt → Prop) (p0 : Int32) (p1 : Int32) (G0 : Gt) : Prop :=
  pif (p0 = 0) (
    pt (gu G0 84 16 p1) fun G1 =>
    w_X2_performReckoning_j199 K G1) (
  pif (p0 = 1) (
    w_X7_valueOf (fun v3 G2 =>
      pt (gu G2 84 16 v3) fun G4 =>
      pif ((G4 84 16) = 49999) (
        w_X2_fail (fun G5 =>
          w_X2_performReckoning_j199 K G5) (-1) G4) (
        w_X2_performReckoning_j199 K G4)) (rat G0 112 601 (G0 84 11)) p1 G0) (
  pif (p0 = 2) (
    w_X7_bind (fun G6 =>
      w_X2_performReckoning_j199 K G6) (rat G0 112 601 (G0 84 11)) p1 (G0 84 16) G0) (
  pif (p0 = 3) (
    w_X7_holderOf (fun v8 G7 =>
      w_X2_putInto (fun G9 =>
        w_X2_performReckoning_j199 K G9) v8 p1 G7) (rat G0 112 601 (G0 84 11)) p1 G0) (
  pif (p0 = 9) (
    pif ((rat G0 122 601 (G0 84 11)) = (G0 84 16)) (
      w_X2_performReckoning_j170 K 1 G0) (
      w_X2_performReckoning_j170 K 0 G0)) (
    w_X2_performReckoning_j176 K p0 G0)))))
set_option maxHeartbeats 4000000 in
set_option maxRecDepth 100000 in
theorem t_X2_performReckoning {l : Launch}  (p0 : Int32) (p1 : Int32) (G0 : Gt) (K : Gt → Prop) (hw : w_X2_performReckoning K p0 p1 G0) : CT0 l yX2_performReckoning cX2_performReckoning 4 none 3 68 [.ref 84, .int p0, .int p1] shB G0 (fun r G' => r = none ∧ K G') := by
  refine CT0_of (by decide) (Nat.le_of_ble_eq_true rfl) rfl ?_
  intro p e s m args below meth c D tA ad A C hr _
  have h199 : ∀ (G0 : Gt), w_X2_performReckoning_j199 K  G0 → aw p l e { frames := 3, cells := 0, slots := 0, locals := 68 } s m args below meth c 4 D tA A (MQ below (QC0 D tA ad A shB (fun r G' => r = none ∧ K G')) args s 0 0 A) 0 0 ad 199 [none, none, none, none] [] shB G0 := by
    intro   G0 hw
    unfold w_X2_performReckoning_j199 at hw
    exact aw_return C hr dX2_performReckoning_199 ⟨rfl, hw⟩
  have h170 : ∀ (y1 : Int32) (G0 : Gt), w_X2_performReckoning_j170 K y1 G0 → aw p l e { frames := 3, cells := 0, slots := 0, locals := 68 } s m args below meth c 4 D tA A (MQ below (QC0 D tA ad A shB (fun r G' => r = none ∧ K G')) args s 0 0 A) 0 0 ad 170 [none, none, none, none] [.int y1, .ref 84] shB G0 := by
    intro  y1 G0 hw
    unfold w_X2_performReckoning_j170 at hw
    refine aw_putI C dX2_performReckoning_170 kcX2 shB_84 16 (by decide) rfl mF_X2_78 rfl rfl rfl hw (fun G10 hw => ?_)
    refine aw_goto (tgt := 199) C dX2_performReckoning_173 (by decide) ?_
    exact aw_msk [false, false, false, false] (h199 _ hw)
  have h176 : ∀ (x1 : Int32) (G0 : Gt), w_X2_performReckoning_j176 K x1 G0 → aw p l e { frames := 3, cells := 0, slots := 0, locals := 68 } s m args below meth c 4 D tA A (MQ below (QC0 D tA ad A shB (fun r G' => r = none ∧ K G')) args s 0 0 A) 0 0 ad 176 [some (.ref 84), some (.int x1), none, none] [] shB G0 := by
    intro  x1 G0 hw
    unfold w_X2_performReckoning_j176 at hw
    refine aw_aloadn C dX2_performReckoning_176 rfl ?_
    refine aw_iloadn C dX2_performReckoning_177 rfl ?_
    refine aw_aloadn C dX2_performReckoning_178 rfl ?_
    refine aw_getR (r := 106) C dX2_performReckoning_179 kcX2 shB_84 3 (by decide) rfl mF_X2_21 ?_
    refine aw_getR (r := 121) C dX2_performReckoning_182 kcX1 shB_106 7 (by decide) rfl mF_X2_218 ?_
    refine aw_aloadn C dX2_performReckoning_185 rfl ?_
    refine aw_getI C dX2_performReckoning_186 kcX2 shB_84 11 (by decide) rfl mF_X2_91 ?_
    refine aw_callV C dX2_performReckoning_189 (t_at rowB_121 (Nat.le_of_ble_eq_true rfl) (G0 84 11) _) mM_X2_119 bX6_at rowB_121.1 rfl rfl ⟨Nat.le_of_ble_eq_true rfl, Nat.le_of_ble_eq_true rfl, Nat.zero_le _, Nat.zero_le _⟩ _ rfl (Nat.le_of_ble_eq_true rfl) (fun r189 G189x hq => ?_)
    obtain ⟨rfl, rfl⟩ := hq
    refine aw_aloadn C dX2_performReckoning_192 rfl ?_
    refine aw_getI C dX2_performReckoning_193 kcX2 shB_84 16 (by decide) rfl mF_X2_78 ?_
    refine aw_callV C dX2_performReckoning_196 (t_X2_reckon x1 (rat G0 122 601 (G0 84 11)) (G0 84 16) _ _ hw) mM_X2_262 bX2_reckon shB_84 rfl rfl ⟨Nat.le_of_ble_eq_true rfl, Nat.le_of_ble_eq_true rfl, Nat.zero_le _, Nat.zero_le _⟩ _ rfl (Nat.le_of_ble_eq_true rfl) (fun r196 G11 hq => ?_)
    obtain ⟨rfl, hw⟩ := hq
    exact aw_msk [false, false, false, false] (h199 _ hw)
  unfold w_X2_performReckoning at hw
  show aw p l e { frames := 3, cells := 0, slots := 0, locals := 68 } s m args below meth c 4 D tA A (MQ below (QC0 D tA ad A shB (fun r G' => r = none ∧ K G')) args s 0 0 A) 0 0 ad 0 [some (.ref 84), some (.int p0), some (.int p1), none] [] shB G0
  refine aw_aloadn C dX2_performReckoning_0 rfl ?_
  refine aw_getR (r := 106) C dX2_performReckoning_1 kcX2 shB_84 3 (by decide) rfl mF_X2_21 ?_
  refine aw_getR (r := 111) C dX2_performReckoning_4 kcX1 shB_106 2 (by decide) rfl mF_X2_170 ?_
  refine aw_aloadn C dX2_performReckoning_7 rfl ?_
  refine aw_getI C dX2_performReckoning_8 kcX2 shB_84 11 (by decide) rfl mF_X2_91 ?_
  refine aw_callV C dX2_performReckoning_11 (t_at rowB_111 (Nat.le_of_ble_eq_true rfl) (G0 84 11) _) mM_X2_119 bX6_at rowB_111.1 rfl rfl ⟨Nat.le_of_ble_eq_true rfl, Nat.le_of_ble_eq_true rfl, Nat.zero_le _, Nat.zero_le _⟩ _ rfl (Nat.le_of_ble_eq_true rfl) (fun r11 G11x hq => ?_)
  obtain ⟨rfl, rfl⟩ := hq
  refine aw_istoren C dX2_performReckoning_14 (by decide) rfl ?_
  refine aw_iloadn C dX2_performReckoning_15 rfl ?_
  refine sw_if hw (fun ha16_0 hw => ?_) (fun ha16_0 hw => ?_)
  · refine aw_tab C 72 dX2_performReckoning_16 ha16_0 (by decide) (by decide) rfl (by decide) ?_
    refine aw_aloadn C dX2_performReckoning_72 rfl ?_
    refine aw_iloadn C dX2_performReckoning_73 rfl ?_
    refine aw_putI C dX2_performReckoning_74 kcX2 shB_84 16 (by decide) rfl mF_X2_78 rfl rfl rfl hw (fun G1 hw => ?_)
    refine aw_goto (tgt := 199) C dX2_performReckoning_77 (by decide) ?_
    exact aw_msk [false, false, false, false] (h199 _ hw)
  refine sw_if hw (fun ha16_1 hw => ?_) (fun ha16_1 hw => ?_)
  · refine aw_tab C 80 dX2_performReckoning_16 ha16_1 (by decide) (by decide) rfl (by decide) ?_
    refine aw_aloadn C dX2_performReckoning_80 rfl ?_
    refine aw_aloadn C dX2_performReckoning_81 rfl ?_
    refine aw_getR (r := 129) C dX2_performReckoning_82 kcX2 shB_84 4 (by decide) rfl mF_X2_28 ?_
    refine aw_iloadn C dX2_performReckoning_85 rfl ?_
    refine aw_iloadn C dX2_performReckoning_86 rfl ?_
    refine aw_callV C dX2_performReckoning_87 (t_X7_valueOf (rat G0 112 601 (G0 84 11)) p1 _ _ hw) mM_X2_172 bX7_valueOf shB_129 rfl rfl ⟨Nat.le_of_ble_eq_true rfl, Nat.le_of_ble_eq_true rfl, Nat.zero_le _, Nat.zero_le _⟩ _ rfl (Nat.le_of_ble_eq_true rfl) (fun r87 G2 hq => ?_)
    obtain ⟨v3, rfl, hw⟩ := hq
    refine aw_putI C dX2_performReckoning_90 kcX2 shB_84 16 (by decide) rfl mF_X2_78 rfl rfl rfl hw (fun G4 hw => ?_)
    refine aw_aloadn C dX2_performReckoning_93 rfl ?_
    refine aw_getI C dX2_performReckoning_94 kcX2 shB_84 16 (by decide) rfl mF_X2_78 ?_
    refine aw_ldc (v := 49999) C dX2_performReckoning_97 mK_X2_255 ?_
    refine aw_ic_ne C dX2_performReckoning_99 199 (by decide) hw (fun hc99 hw => ?_) (fun hc99 hw => ?_)
    · exact aw_msk [false, false, false, false] (h199 _ hw)
    · refine aw_aloadn C dX2_performReckoning_102 rfl ?_
      refine aw_iconst (v := (-1)) C dX2_performReckoning_103 (by decide) ?_
      refine aw_callV C dX2_performReckoning_104 (t_X2_fail (-1) _ _ hw) mM_X2_176 bX2_fail shB_84 rfl rfl ⟨Nat.le_of_ble_eq_true rfl, Nat.le_of_ble_eq_true rfl, Nat.zero_le _, Nat.zero_le _⟩ _ rfl (Nat.le_of_ble_eq_true rfl) (fun r104 G5 hq => ?_)
      obtain ⟨rfl, hw⟩ := hq
      refine aw_goto (tgt := 199) C dX2_performReckoning_107 (by decide) ?_
      exact aw_msk [false, false, false, false] (h199 _ hw)
  refine sw_if hw (fun ha16_2 hw => ?_) (fun ha16_2 hw => ?_)
  · refine aw_tab C 110 dX2_performReckoning_16 ha16_2 (by decide) (by decide) rfl (by decide) ?_
    refine aw_aloadn C dX2_performReckoning_110 rfl ?_
    refine aw_getR (r := 129) C dX2_performReckoning_111 kcX2 shB_84 4 (by decide) rfl mF_X2_28 ?_
    refine aw_iloadn C dX2_performReckoning_114 rfl ?_
    refine aw_iloadn C dX2_performReckoning_115 rfl ?_
    refine aw_aloadn C dX2_performReckoning_116 rfl ?_
    refine aw_getI C dX2_performReckoning_117 kcX2 shB_84 16 (by decide) rfl mF_X2_78 ?_
    refine aw_callV C dX2_performReckoning_120 (t_X7_bind (rat G0 112 601 (G0 84 11)) p1 (G0 84 16) _ _ hw) mM_X2_245 bX7_bind shB_129 rfl rfl ⟨Nat.le_of_ble_eq_true rfl, Nat.le_of_ble_eq_true rfl, Nat.zero_le _, Nat.zero_le _⟩ _ rfl (Nat.le_of_ble_eq_true rfl) (fun r120 G6 hq => ?_)
    obtain ⟨rfl, hw⟩ := hq
    refine aw_goto (tgt := 199) C dX2_performReckoning_123 (by decide) ?_
    exact aw_msk [false, false, false, false] (h199 _ hw)
  refine sw_if hw (fun ha16_3 hw => ?_) (fun ha16_3 hw => ?_)
  · refine aw_tab C 126 dX2_performReckoning_16 ha16_3 (by decide) (by decide) rfl (by decide) ?_
    refine aw_aloadn C dX2_performReckoning_126 rfl ?_
    refine aw_aloadn C dX2_performReckoning_127 rfl ?_
    refine aw_getR (r := 129) C dX2_performReckoning_128 kcX2 shB_84 4 (by decide) rfl mF_X2_28 ?_
    refine aw_iloadn C dX2_performReckoning_131 rfl ?_
    refine aw_iloadn C dX2_performReckoning_132 rfl ?_
    refine aw_callV C dX2_performReckoning_133 (t_X7_holderOf (rat G0 112 601 (G0 84 11)) p1 _ _ hw) mM_X2_256 bX7_holderOf shB_129 rfl rfl ⟨Nat.le_of_ble_eq_true rfl, Nat.le_of_ble_eq_true rfl, Nat.zero_le _, Nat.zero_le _⟩ _ rfl (Nat.le_of_ble_eq_true rfl) (fun r133 G7 hq => ?_)
    obtain ⟨v8, rfl, hw⟩ := hq
    refine aw_iloadn C dX2_performReckoning_136 rfl ?_
    refine aw_callV C dX2_performReckoning_137 (t_X2_putInto v8 p1 _ _ hw) mM_X2_259 bX2_putInto shB_84 rfl rfl ⟨Nat.le_of_ble_eq_true rfl, Nat.le_of_ble_eq_true rfl, Nat.zero_le _, Nat.zero_le _⟩ _ rfl (Nat.le_of_ble_eq_true rfl) (fun r137 G9 hq => ?_)
    obtain ⟨rfl, hw⟩ := hq
    refine aw_goto (tgt := 199) C dX2_performReckoning_140 (by decide) ?_
    exact aw_msk [false, false, false, false] (h199 _ hw)
  refine sw_if hw (fun ha16_9 hw => ?_) (fun ha16_9 hw => ?_)
  · refine aw_tab C 143 dX2_performReckoning_16 ha16_9 (by decide) (by decide) rfl (by decide) ?_
    refine aw_aloadn C dX2_performReckoning_143 rfl ?_
    refine aw_aloadn C dX2_performReckoning_144 rfl ?_
    refine aw_getR (r := 106) C dX2_performReckoning_145 kcX2 shB_84 3 (by decide) rfl mF_X2_21 ?_
    refine aw_getR (r := 121) C dX2_performReckoning_148 kcX1 shB_106 7 (by decide) rfl mF_X2_218 ?_
    refine aw_aloadn C dX2_performReckoning_151 rfl ?_
    refine aw_getI C dX2_performReckoning_152 kcX2 shB_84 11 (by decide) rfl mF_X2_91 ?_
    refine aw_callV C dX2_performReckoning_155 (t_at rowB_121 (Nat.le_of_ble_eq_true rfl) (G0 84 11) _) mM_X2_119 bX6_at rowB_121.1 rfl rfl ⟨Nat.le_of_ble_eq_true rfl, Nat.le_of_ble_eq_true rfl, Nat.zero_le _, Nat.zero_le _⟩ _ rfl (Nat.le_of_ble_eq_true rfl) (fun r155 G155x hq => ?_)
    obtain ⟨rfl, rfl⟩ := hq
    refine aw_aloadn C dX2_performReckoning_158 rfl ?_
    refine aw_getI C dX2_performReckoning_159 kcX2 shB_84 16 (by decide) rfl mF_X2_78 ?_
    refine aw_ic_ne C dX2_performReckoning_162 169 (by decide) hw (fun hc162 hw => ?_) (fun hc162 hw => ?_)
    · refine aw_iconst (v := 0) C dX2_performReckoning_169 (by decide) ?_
      exact aw_msk [false, false, false, false] (h170 0 _ hw)
    · refine aw_iconst (v := 1) C dX2_performReckoning_165 (by decide) ?_
      refine aw_goto (tgt := 170) C dX2_performReckoning_166 (by decide) ?_
      exact aw_msk [false, false, false, false] (h170 1 _ hw)
  refine aw_tabDef C 176 dX2_performReckoning_16 9 (by decide) (by decide) (by decide) (fun i hi h => ?_) (by decide) ?_
  · exact match i, hi, h with
      | 0, _, h => absurd (h.trans (by decide)) ha16_0
      | 1, _, h => absurd (h.trans (by decide)) ha16_1
      | 2, _, h => absurd (h.trans (by decide)) ha16_2
      | 3, _, h => absurd (h.trans (by decide)) ha16_3
      | 4, _, h => rfl
      | 5, _, h => rfl
      | 6, _, h => rfl
      | 7, _, h => rfl
      | 8, _, h => rfl
      | 9, _, h => absurd (h.trans (by decide)) ha16_9
      | i + 10, hi, _ => absurd hi (by omega)
  exact aw_msk [true, true, false, false] (h176 p0 _ hw)
def w_X2_settle_j178 (K : Gt → Prop)  (G0 : Gt) : Prop :=
  K G0
def w_X2_settle_j167 (K : Gt → Prop)  (G0 : Gt) : Prop :=
  w_X9_becomeButRegisters 19 85 (fun G6 =>
    w_X2_settle_j178 K G6) G0
def w_X2_settle_h120 (K : Gt → Prop) : Nat → Int32 → Int32 → Gt → Prop
  | 0, _, _, _ => False
  | n + 1, x2, x3, G0 =>
    pif (12 ≤ x3) (
      w_X2_settle_j167 K G0) (
      pif (x2 = (-1)) (
        w_X2_settle_j167 K G0) (
        w_X5_push (rpt G0) (fun G7 =>
          (w_X2_settle_h120 K n) (rat G7 120 601 x2) (x3 + 1) G7) (rat G0 108 601 x2) G0))
def w_X2_settle_j67 (K : Gt → Prop) (x1 : Int32) (y0 : Nat) (y1 : Int32) (G0 : Gt) : Prop :=
  pt (gu G0 y0 2 y1) fun G3 =>
  pt (gu G3 (rpt G3) 3 0) fun G4 =>
  pif (x1 = 0) (
    w_X2_settle_j178 K G4) (
    w_X5_push (rpt G4) (fun G5 =>
      ∃ i, w_X2_settle_h120 K i (rat G5 120 601 (G5 84 18)) 0 G5) (rat G4 108 601 (G4 84 18)) G4)
def w_X2_settle_j36 (K : Gt → Prop) (x1 : Int32) (y0 : Nat) (y1 : Int32) (G0 : Gt) : Prop :=
  pt (gu G0 y0 0 y1) fun G1 =>
  pt (gu G1 (rpt G1) 1 (G1 84 10)) fun G2 =>
  pif (x1 = 0) (
    w_X2_settle_j67 K x1 (rpt G2) 50000 G2) (
    w_X2_settle_j67 K x1 (rpt G2) (G2 84 17) G2)
def w_X2_settle_j13 (K : Gt → Prop) (y0 : Int32) (G0 : Gt) : Prop :=
  pif (y0 = 0) (
    w_X2_settle_j36 K y0 (rpt G0) (G0 84 19) G0) (
    w_X2_settle_j36 K y0 (rpt G0) (50000 + (G0 84 16)) G0)
def w_X2_settle (K : Gt → Prop) (G0 : Gt) : Prop :=
  pif ((G0 84 15) = 1) (
    w_X2_settle_j13 K 1 G0) (
    w_X2_settle_j13 K 0 G0)
set_option maxHeartbeats 4000000 in
set_option maxRecDepth 100000 in
theorem t_X2_settle {l : Launch}  (G0 : Gt) (K : Gt → Prop) (hw : w_X2_settle K G0) : CT0 l yX2_settle cX2_settle 4 none 4 103 [.ref 84] shB G0 (fun r G' => r = none ∧ K G') := by
  refine CT0_of (by decide) (Nat.le_of_ble_eq_true rfl) rfl ?_
  intro p e s m args below meth c D tA ad A C hr _
  have h178 : ∀ (G0 : Gt), w_X2_settle_j178 K  G0 → aw p l e { frames := 4, cells := 0, slots := 0, locals := 103 } s m args below meth c 4 D tA A (MQ below (QC0 D tA ad A shB (fun r G' => r = none ∧ K G')) args s 0 0 A) 0 0 ad 178 [none, none, none, none] [] shB G0 := by
    intro   G0 hw
    unfold w_X2_settle_j178 at hw
    exact aw_return C hr dX2_settle_178 ⟨rfl, hw⟩
  have h167 : ∀ (G0 : Gt), w_X2_settle_j167 K  G0 → aw p l e { frames := 4, cells := 0, slots := 0, locals := 103 } s m args below meth c 4 D tA A (MQ below (QC0 D tA ad A shB (fun r G' => r = none ∧ K G')) args s 0 0 A) 0 0 ad 167 [some (.ref 84), none, none, none] [] shB G0 := by
    intro   G0 hw
    unfold w_X2_settle_j167 at hw
    refine aw_aloadn C dX2_settle_167 rfl ?_
    refine aw_getR (r := 19) C dX2_settle_168 kcX2 shB_84 1 (by decide) rfl mF_X2_43 ?_
    refine aw_aloadn C dX2_settle_171 rfl ?_
    refine aw_getR (r := 85) C dX2_settle_172 kcX2 shB_84 2 (by decide) rfl mF_X2_12 ?_
    refine aw_callV C dX2_settle_175 (t_X9_becomeButRegisters (worldS_19 shOK_B) worldB_85 _ _ hw) mM_X2_164 bX9_becomeButRegisters (worldS_19 shOK_B).1 rfl rfl ⟨Nat.le_of_ble_eq_true rfl, Nat.le_of_ble_eq_true rfl, Nat.zero_le _, Nat.zero_le _⟩ _ rfl (Nat.le_of_ble_eq_true rfl) (fun r175 G6 hq => ?_)
    obtain ⟨rfl, hw⟩ := hq
    exact aw_msk [false, false, false, false] (h178 _ hw)
  have h120 : ∀ (n : Nat) (x2 : Int32) (x3 : Int32) (G0 : Gt), w_X2_settle_h120 K n x2 x3 G0 → aw p l e { frames := 4, cells := 0, slots := 0, locals := 103 } s m args below meth c 4 D tA A (MQ below (QC0 D tA ad A shB (fun r G' => r = none ∧ K G')) args s 0 0 A) 0 0 ad 120 [some (.ref 84), none, some (.int x2), some (.int x3)] [] shB G0 := by
    intro  n
    induction n with
    | zero => intro x2 x3 G0 hw; exact hw.elim
    | succ n ih =>
      intro x2 x3 G0 hw
      rw [w_X2_settle_h120] at hw
      refine aw_iloadn C dX2_settle_120 rfl ?_
      refine aw_bipush (v := 12) C dX2_settle_121 (by decide) ?_
      refine aw_ic_ge C dX2_settle_123 167 (by decide) hw (fun hc123 hw => ?_) (fun hc123 hw => ?_)
      · exact aw_msk [true, false, false, false] (h167 _ hw)
      · refine aw_iloadn C dX2_settle_126 rfl ?_
        refine aw_iconst (v := (-1)) C dX2_settle_127 (by decide) ?_
        refine aw_ic_eq C dX2_settle_128 167 (by decide) hw (fun hc128 hw => ?_) (fun hc128 hw => ?_)
        · exact aw_msk [true, false, false, false] (h167 _ hw)
        · refine aw_aloadn C dX2_settle_131 rfl ?_
          refine aw_getC C dX2_settle_132 kcX2 shB_84 6 (by decide) rfl mF_X2_46 ?_
          show aw p l e { frames := 4, cells := 0, slots := 0, locals := 103 } s m args below meth c 4 D tA A (MQ below (QC0 D tA ad A shB (fun r G' => r = none ∧ K G')) args s 0 0 A) 0 0 ad 135 [some (.ref 84), none, some (.int x2), some (.int x3)] [.ref (rpt G0)] shB G0
          refine aw_aloadn C dX2_settle_135 rfl ?_
          refine aw_getR (r := 106) C dX2_settle_136 kcX2 shB_84 3 (by decide) rfl mF_X2_21 ?_
          refine aw_getR (r := 107) C dX2_settle_139 kcX1 shB_106 0 (by decide) rfl mF_X2_167 ?_
          refine aw_iloadn C dX2_settle_142 rfl ?_
          refine aw_callV C dX2_settle_143 (t_at rowB_107 (Nat.le_of_ble_eq_true rfl) x2 _) mM_X2_119 bX6_at rowB_107.1 rfl rfl ⟨Nat.le_of_ble_eq_true rfl, Nat.le_of_ble_eq_true rfl, Nat.zero_le _, Nat.zero_le _⟩ _ rfl (Nat.le_of_ble_eq_true rfl) (fun r143 G143x hq => ?_)
          obtain ⟨rfl, rfl⟩ := hq
          refine aw_callV C dX2_settle_146 (t_X5_push (report_rpt G0) (rat G0 108 601 x2) _ _ hw) mM_X2_194 bX5_push (report_rpt G0).1 rfl rfl ⟨Nat.le_of_ble_eq_true rfl, Nat.le_of_ble_eq_true rfl, Nat.zero_le _, Nat.zero_le _⟩ _ rfl (Nat.le_of_ble_eq_true rfl) (fun r146 G7 hq => ?_)
          obtain ⟨rfl, hw⟩ := hq
          refine aw_aloadn C dX2_settle_149 rfl ?_
          refine aw_getR (r := 106) C dX2_settle_150 kcX2 shB_84 3 (by decide) rfl mF_X2_21 ?_
          refine aw_getR (r := 119) C dX2_settle_153 kcX1 shB_106 6 (by decide) rfl mF_X2_197 ?_
          refine aw_iloadn C dX2_settle_156 rfl ?_
          refine aw_callV C dX2_settle_157 (t_at rowB_119 (Nat.le_of_ble_eq_true rfl) x2 _) mM_X2_119 bX6_at rowB_119.1 rfl rfl ⟨Nat.le_of_ble_eq_true rfl, Nat.le_of_ble_eq_true rfl, Nat.zero_le _, Nat.zero_le _⟩ _ rfl (Nat.le_of_ble_eq_true rfl) (fun r157 G157x hq => ?_)
          obtain ⟨rfl, rfl⟩ := hq
          refine aw_istoren C dX2_settle_160 (by decide) rfl ?_
          refine aw_iinc (w := (x3 + 1)) C dX2_settle_161 rfl rfl (by decide) rfl ?_
          refine aw_goto (tgt := 120) C dX2_settle_164 (by decide) ?_
          exact aw_msk [true, false, true, true] (ih (rat G7 120 601 x2) (x3 + 1) _ hw)
  have h67 : ∀ (x1 : Int32) (y0 : Nat) (fy0 : isReport shB y0) (y1 : Int32) (G0 : Gt), w_X2_settle_j67 K x1 y0 y1 G0 → aw p l e { frames := 4, cells := 0, slots := 0, locals := 103 } s m args below meth c 4 D tA A (MQ below (QC0 D tA ad A shB (fun r G' => r = none ∧ K G')) args s 0 0 A) 0 0 ad 67 [some (.ref 84), some (.int x1), none, none] [.int y1, .ref y0] shB G0 := by
    intro  x1 y0 fy0 y1 G0 hw
    unfold w_X2_settle_j67 at hw
    refine aw_putI C dX2_settle_67 kcX5 fy0.1 2 (by decide) rfl mF_X2_188 rfl rfl rfl hw (fun G3 hw => ?_)
    refine aw_aloadn C dX2_settle_70 rfl ?_
    refine aw_getC C dX2_settle_71 kcX2 shB_84 6 (by decide) rfl mF_X2_46 ?_
    show aw p l e { frames := 4, cells := 0, slots := 0, locals := 103 } s m args below meth c 4 D tA A (MQ below (QC0 D tA ad A shB (fun r G' => r = none ∧ K G')) args s 0 0 A) 0 0 ad 74 [some (.ref 84), some (.int x1), none, none] [.ref (rpt G3)] shB G3
    refine aw_iconst (v := 0) C dX2_settle_74 (by decide) ?_
    refine aw_putI C dX2_settle_75 kcX5 (report_rpt G3).1 3 (by decide) rfl mF_X2_191 rfl rfl rfl hw (fun G4 hw => ?_)
    refine aw_iloadn C dX2_settle_78 rfl ?_
    refine aw_if_eq C dX2_settle_79 178 (by decide) hw (fun hc79 hw => ?_) (fun hc79 hw => ?_)
    · exact aw_msk [false, false, false, false] (h178 _ hw)
    · refine aw_aloadn C dX2_settle_82 rfl ?_
      refine aw_getC C dX2_settle_83 kcX2 shB_84 6 (by decide) rfl mF_X2_46 ?_
      show aw p l e { frames := 4, cells := 0, slots := 0, locals := 103 } s m args below meth c 4 D tA A (MQ below (QC0 D tA ad A shB (fun r G' => r = none ∧ K G')) args s 0 0 A) 0 0 ad 86 [some (.ref 84), some (.int x1), none, none] [.ref (rpt G4)] shB G4
      refine aw_aloadn C dX2_settle_86 rfl ?_
      refine aw_getR (r := 106) C dX2_settle_87 kcX2 shB_84 3 (by decide) rfl mF_X2_21 ?_
      refine aw_getR (r := 107) C dX2_settle_90 kcX1 shB_106 0 (by decide) rfl mF_X2_167 ?_
      refine aw_aloadn C dX2_settle_93 rfl ?_
      refine aw_getI C dX2_settle_94 kcX2 shB_84 18 (by decide) rfl mF_X2_85 ?_
      refine aw_callV C dX2_settle_97 (t_at rowB_107 (Nat.le_of_ble_eq_true rfl) (G4 84 18) _) mM_X2_119 bX6_at rowB_107.1 rfl rfl ⟨Nat.le_of_ble_eq_true rfl, Nat.le_of_ble_eq_true rfl, Nat.zero_le _, Nat.zero_le _⟩ _ rfl (Nat.le_of_ble_eq_true rfl) (fun r97 G97x hq => ?_)
      obtain ⟨rfl, rfl⟩ := hq
      refine aw_callV C dX2_settle_100 (t_X5_push (report_rpt G4) (rat G4 108 601 (G4 84 18)) _ _ hw) mM_X2_194 bX5_push (report_rpt G4).1 rfl rfl ⟨Nat.le_of_ble_eq_true rfl, Nat.le_of_ble_eq_true rfl, Nat.zero_le _, Nat.zero_le _⟩ _ rfl (Nat.le_of_ble_eq_true rfl) (fun r100 G5 hq => ?_)
      obtain ⟨rfl, hw⟩ := hq
      refine aw_aloadn C dX2_settle_103 rfl ?_
      refine aw_getR (r := 106) C dX2_settle_104 kcX2 shB_84 3 (by decide) rfl mF_X2_21 ?_
      refine aw_getR (r := 119) C dX2_settle_107 kcX1 shB_106 6 (by decide) rfl mF_X2_197 ?_
      refine aw_aloadn C dX2_settle_110 rfl ?_
      refine aw_getI C dX2_settle_111 kcX2 shB_84 18 (by decide) rfl mF_X2_85 ?_
      refine aw_callV C dX2_settle_114 (t_at rowB_119 (Nat.le_of_ble_eq_true rfl) (G5 84 18) _) mM_X2_119 bX6_at rowB_119.1 rfl rfl ⟨Nat.le_of_ble_eq_true rfl, Nat.le_of_ble_eq_true rfl, Nat.zero_le _, Nat.zero_le _⟩ _ rfl (Nat.le_of_ble_eq_true rfl) (fun r114 G114x hq => ?_)
      obtain ⟨rfl, rfl⟩ := hq
      refine aw_istoren C dX2_settle_117 (by decide) rfl ?_
      refine aw_iconst (v := 0) C dX2_settle_118 (by decide) ?_
      refine aw_istoren C dX2_settle_119 (by decide) rfl ?_
      obtain ⟨n0, hw⟩ := hw
      exact aw_msk [true, false, true, true] (h120 n0 (rat G5 120 601 (G5 84 18)) 0 _ hw)
  have h36 : ∀ (x1 : Int32) (y0 : Nat) (fy0 : isReport shB y0) (y1 : Int32) (G0 : Gt), w_X2_settle_j36 K x1 y0 y1 G0 → aw p l e { frames := 4, cells := 0, slots := 0, locals := 103 } s m args below meth c 4 D tA A (MQ below (QC0 D tA ad A shB (fun r G' => r = none ∧ K G')) args s 0 0 A) 0 0 ad 36 [some (.ref 84), some (.int x1), none, none] [.int y1, .ref y0] shB G0 := by
    intro  x1 y0 fy0 y1 G0 hw
    unfold w_X2_settle_j36 at hw
    refine aw_putI C dX2_settle_36 kcX5 fy0.1 0 (by decide) rfl mF_X2_180 rfl rfl rfl hw (fun G1 hw => ?_)
    refine aw_aloadn C dX2_settle_39 rfl ?_
    refine aw_getC C dX2_settle_40 kcX2 shB_84 6 (by decide) rfl mF_X2_46 ?_
    show aw p l e { frames := 4, cells := 0, slots := 0, locals := 103 } s m args below meth c 4 D tA A (MQ below (QC0 D tA ad A shB (fun r G' => r = none ∧ K G')) args s 0 0 A) 0 0 ad 43 [some (.ref 84), some (.int x1), none, none] [.ref (rpt G1)] shB G1
    refine aw_aloadn C dX2_settle_43 rfl ?_
    refine aw_getI C dX2_settle_44 kcX2 shB_84 10 (by decide) rfl mF_X2_62 ?_
    refine aw_putI C dX2_settle_47 kcX5 (report_rpt G1).1 1 (by decide) rfl mF_X2_185 rfl rfl rfl hw (fun G2 hw => ?_)
    refine aw_aloadn C dX2_settle_50 rfl ?_
    refine aw_getC C dX2_settle_51 kcX2 shB_84 6 (by decide) rfl mF_X2_46 ?_
    show aw p l e { frames := 4, cells := 0, slots := 0, locals := 103 } s m args below meth c 4 D tA A (MQ below (QC0 D tA ad A shB (fun r G' => r = none ∧ K G')) args s 0 0 A) 0 0 ad 54 [some (.ref 84), some (.int x1), none, none] [.ref (rpt G2)] shB G2
    refine aw_iloadn C dX2_settle_54 rfl ?_
    refine aw_if_eq C dX2_settle_55 65 (by decide) hw (fun hc55 hw => ?_) (fun hc55 hw => ?_)
    · refine aw_ldc (v := 50000) C dX2_settle_65 mK_X2_81 ?_
      exact aw_msk [true, true, false, false] (h67 x1 (rpt G2) (report_rpt G2) 50000 _ hw)
    · refine aw_aloadn C dX2_settle_58 rfl ?_
      refine aw_getI C dX2_settle_59 kcX2 shB_84 17 (by decide) rfl mF_X2_82 ?_
      refine aw_goto (tgt := 67) C dX2_settle_62 (by decide) ?_
      exact aw_msk [true, true, false, false] (h67 x1 (rpt G2) (report_rpt G2) (G2 84 17) _ hw)
  have h13 : ∀ (y0 : Int32) (G0 : Gt), w_X2_settle_j13 K y0 G0 → aw p l e { frames := 4, cells := 0, slots := 0, locals := 103 } s m args below meth c 4 D tA A (MQ below (QC0 D tA ad A shB (fun r G' => r = none ∧ K G')) args s 0 0 A) 0 0 ad 13 [some (.ref 84), none, none, none] [.int y0] shB G0 := by
    intro  y0 G0 hw
    unfold w_X2_settle_j13 at hw
    refine aw_istoren C dX2_settle_13 (by decide) rfl ?_
    refine aw_aloadn C dX2_settle_14 rfl ?_
    refine aw_getC C dX2_settle_15 kcX2 shB_84 6 (by decide) rfl mF_X2_46 ?_
    show aw p l e { frames := 4, cells := 0, slots := 0, locals := 103 } s m args below meth c 4 D tA A (MQ below (QC0 D tA ad A shB (fun r G' => r = none ∧ K G')) args s 0 0 A) 0 0 ad 18 [some (.ref 84), some (.int y0), none, none] [.ref (rpt G0)] shB G0
    refine aw_iloadn C dX2_settle_18 rfl ?_
    refine aw_if_eq C dX2_settle_19 32 (by decide) hw (fun hc19 hw => ?_) (fun hc19 hw => ?_)
    · refine aw_aloadn C dX2_settle_32 rfl ?_
      refine aw_getI C dX2_settle_33 kcX2 shB_84 19 (by decide) rfl mF_X2_88 ?_
      exact aw_msk [true, true, false, false] (h36 y0 (rpt G0) (report_rpt G0) (G0 84 19) _ hw)
    · refine aw_ldc (v := 50000) C dX2_settle_22 mK_X2_81 ?_
      refine aw_aloadn C dX2_settle_24 rfl ?_
      refine aw_getI C dX2_settle_25 kcX2 shB_84 16 (by decide) rfl mF_X2_78 ?_
      refine aw_iadd C dX2_settle_28 ?_
      refine aw_goto (tgt := 36) C dX2_settle_29 (by decide) ?_
      exact aw_msk [true, true, false, false] (h36 y0 (rpt G0) (report_rpt G0) (50000 + (G0 84 16)) _ hw)
  unfold w_X2_settle at hw
  show aw p l e { frames := 4, cells := 0, slots := 0, locals := 103 } s m args below meth c 4 D tA A (MQ below (QC0 D tA ad A shB (fun r G' => r = none ∧ K G')) args s 0 0 A) 0 0 ad 0 [some (.ref 84), none, none, none] [] shB G0
  refine aw_aloadn C dX2_settle_0 rfl ?_
  refine aw_getI C dX2_settle_1 kcX2 shB_84 15 (by decide) rfl mF_X2_75 ?_
  refine aw_iconst (v := 1) C dX2_settle_4 (by decide) ?_
  refine aw_ic_ne C dX2_settle_5 12 (by decide) hw (fun hc5 hw => ?_) (fun hc5 hw => ?_)
  · refine aw_iconst (v := 0) C dX2_settle_12 (by decide) ?_
    exact aw_msk [true, false, false, false] (h13 0 _ hw)
  · refine aw_iconst (v := 1) C dX2_settle_8 (by decide) ?_
    refine aw_goto (tgt := 13) C dX2_settle_9 (by decide) ?_
    exact aw_msk [true, false, false, false] (h13 1 _ hw)
def w_X2_abandon (K : Int32 → Gt → Prop) (G0 : Gt) : Prop :=
  pt (gu G0 84 7 0) fun G1 =>
  w_X9_becomeButRegisters 19 85 (fun G2 =>
    K (G2 84 10) G2) G1
set_option maxHeartbeats 4000000 in
set_option maxRecDepth 100000 in
theorem t_X2_abandon {l : Launch}  (G0 : Gt) (K : Int32 → Gt → Prop) (hw : w_X2_abandon K G0) : CT0 l yX2_abandon cX2_abandon 1 (some .int) 4 103 [.ref 84] shB G0 (fun r G' => ∃ v, r = some (.int v) ∧ K v G') := by
  refine CT0_of (by decide) (Nat.le_of_ble_eq_true rfl) rfl ?_
  intro p e s m args below meth c D tA ad A C hr _
  unfold w_X2_abandon at hw
  show aw p l e { frames := 4, cells := 0, slots := 0, locals := 103 } s m args below meth c 1 D tA A (MQ below (QC0 D tA ad A shB (fun r G' => ∃ v, r = some (.int v) ∧ K v G')) args s 0 0 A) 0 0 ad 0 [some (.ref 84)] [] shB G0
  refine aw_aloadn C dX2_abandon_0 rfl ?_
  refine aw_iconst (v := 0) C dX2_abandon_1 (by decide) ?_
  refine aw_putI C dX2_abandon_2 kcX2 shB_84 7 (by decide) rfl mF_X2_94 rfl rfl rfl hw (fun G1 hw => ?_)
  refine aw_aloadn C dX2_abandon_5 rfl ?_
  refine aw_getR (r := 19) C dX2_abandon_6 kcX2 shB_84 1 (by decide) rfl mF_X2_43 ?_
  refine aw_aloadn C dX2_abandon_9 rfl ?_
  refine aw_getR (r := 85) C dX2_abandon_10 kcX2 shB_84 2 (by decide) rfl mF_X2_12 ?_
  refine aw_callV C dX2_abandon_13 (t_X9_becomeButRegisters (worldS_19 shOK_B) worldB_85 _ _ hw) mM_X2_164 bX9_becomeButRegisters (worldS_19 shOK_B).1 rfl rfl ⟨Nat.le_of_ble_eq_true rfl, Nat.le_of_ble_eq_true rfl, Nat.zero_le _, Nat.zero_le _⟩ _ rfl (Nat.le_of_ble_eq_true rfl) (fun r13 G2 hq => ?_)
  obtain ⟨rfl, hw⟩ := hq
  refine aw_aloadn C dX2_abandon_16 rfl ?_
  refine aw_getI C dX2_abandon_17 kcX2 shB_84 10 (by decide) rfl mF_X2_62 ?_
  exact aw_ireturn C hr dX2_abandon_20 ⟨_, rfl, hw⟩
def w_X2_performBehind_j298 (K : Gt → Prop)  (G0 : Gt) : Prop :=
  K G0
def w_X2_performBehind (K : Gt → Prop) (p0 : Int32) (p1 : Int32) (G0 : Gt) : Prop :=
  pif (p0 = 48) (
    w_X2_catchError (fun G1 =>
      w_X2_performBehind_j298 K G1) p1 G0) (
  pif (p0 = 49) (
    w_X2_catchLeaving (fun G2 =>
      w_X2_performBehind_j298 K G2) p1 G0) (
  pif (p0 = 50) (
    w_X2_hold (fun G3 =>
      w_X2_performBehind_j298 K G3) G0) (
  pif (p0 = 51) (
    w_X2_revive (fun G4 =>
      w_X2_performBehind_j298 K G4) G0) (
  pif (p0 = 52) (
    pif ((G0 84 15) = 1) (
      pif ((rat G0 124 601 (G0 84 11)) = 1) (
        pt (gu G0 84 17 (rat G0 122 601 (G0 84 11))) fun G5 =>
        w_X2_performBehind_j298 K G5) (
        w_X2_performBehind_j298 K G0)) (
      w_X2_performBehind_j298 K G0)) (
  pif (p0 = 53) (
    pt (rput G0 31 4 p1 (rat G0 122 601 (G0 84 11))) fun G6 =>
    w_X2_performBehind_j298 K G6) (
  pif (p0 = 54) (
    w_X2_chooseNextCursor (fun G7 =>
      w_X2_performBehind_j298 K G7) p1 G0) (
  pif (p0 = 55) (
    pt (gu G0 84 16 (rat G0 124 601 (G0 84 11))) fun G8 =>
    w_X2_performBehind_j298 K G8) (
  pif (p0 = 56) (
    w_X2_leaveEach (fun G9 =>
      w_X2_performBehind_j298 K G9) G0) (
  pif (p0 = 57) (
    w_X7_bind (fun G10 =>
      w_X2_performBehind_j298 K G10) (rat G0 124 601 (G0 84 11)) 1 (G0 84 16) G0) (
  pif (p0 = 58) (
    w_X2_enter (fun G11 =>
      w_X2_performBehind_j298 K G11) (rat G0 35 6 (rat G0 126 601 (G0 84 11))) G0) (
  pif (p0 = 59) (
    pt (gu G0 84 16 (rat G0 122 601 (G0 84 11))) fun G12 =>
    w_X2_performBehind_j298 K G12) (
  pif (p0 = 60) (
    pt (gu G0 84 14 0) fun G13 =>
    w_X2_performBehind_j298 K G13) (
    w_X2_performBehind_j298 K G0)))))))))))))
set_option maxHeartbeats 4000000 in
set_option maxRecDepth 100000 in
theorem t_X2_performBehind {l : Launch}  (p0 : Int32) (p1 : Int32) (G0 : Gt) (K : Gt → Prop) (hw : w_X2_performBehind K p0 p1 G0) : CT0 l yX2_performBehind cX2_performBehind 3 none 3 69 [.ref 84, .int p0, .int p1] shB G0 (fun r G' => r = none ∧ K G') := by
  refine CT0_of (by decide) (Nat.le_of_ble_eq_true rfl) rfl ?_
  intro p e s m args below meth c D tA ad A C hr _
  have h298 : ∀ (G0 : Gt), w_X2_performBehind_j298 K  G0 → aw p l e { frames := 3, cells := 0, slots := 0, locals := 69 } s m args below meth c 3 D tA A (MQ below (QC0 D tA ad A shB (fun r G' => r = none ∧ K G')) args s 0 0 A) 0 0 ad 298 [none, none, none] [] shB G0 := by
    intro   G0 hw
    unfold w_X2_performBehind_j298 at hw
    exact aw_return C hr dX2_performBehind_298 ⟨rfl, hw⟩
  unfold w_X2_performBehind at hw
  show aw p l e { frames := 3, cells := 0, slots := 0, locals := 69 } s m args below meth c 3 D tA A (MQ below (QC0 D tA ad A shB (fun r G' => r = none ∧ K G')) args s 0 0 A) 0 0 ad 0 [some (.ref 84), some (.int p0), some (.int p1)] [] shB G0
  refine aw_iloadn C dX2_performBehind_0 rfl ?_
  refine sw_if hw (fun ha1_48 hw => ?_) (fun ha1_48 hw => ?_)
  · refine aw_tab C 68 dX2_performBehind_1 ha1_48 (by decide) (by decide) rfl (by decide) ?_
    refine aw_aloadn C dX2_performBehind_68 rfl ?_
    refine aw_iloadn C dX2_performBehind_69 rfl ?_
    refine aw_callV C dX2_performBehind_70 (t_X2_catchError p1 _ _ hw) mM_X2_224 bX2_catchError shB_84 rfl rfl ⟨Nat.le_of_ble_eq_true rfl, Nat.le_of_ble_eq_true rfl, Nat.zero_le _, Nat.zero_le _⟩ _ rfl (Nat.le_of_ble_eq_true rfl) (fun r70 G1 hq => ?_)
    obtain ⟨rfl, hw⟩ := hq
    refine aw_goto (tgt := 298) C dX2_performBehind_73 (by decide) ?_
    exact aw_msk [false, false, false] (h298 _ hw)
  refine sw_if hw (fun ha1_49 hw => ?_) (fun ha1_49 hw => ?_)
  · refine aw_tab C 76 dX2_performBehind_1 ha1_49 (by decide) (by decide) rfl (by decide) ?_
    refine aw_aloadn C dX2_performBehind_76 rfl ?_
    refine aw_iloadn C dX2_performBehind_77 rfl ?_
    refine aw_callV C dX2_performBehind_78 (t_X2_catchLeaving p1 _ _ hw) mM_X2_227 bX2_catchLeaving shB_84 rfl rfl ⟨Nat.le_of_ble_eq_true rfl, Nat.le_of_ble_eq_true rfl, Nat.zero_le _, Nat.zero_le _⟩ _ rfl (Nat.le_of_ble_eq_true rfl) (fun r78 G2 hq => ?_)
    obtain ⟨rfl, hw⟩ := hq
    refine aw_goto (tgt := 298) C dX2_performBehind_81 (by decide) ?_
    exact aw_msk [false, false, false] (h298 _ hw)
  refine sw_if hw (fun ha1_50 hw => ?_) (fun ha1_50 hw => ?_)
  · refine aw_tab C 84 dX2_performBehind_1 ha1_50 (by decide) (by decide) rfl (by decide) ?_
    refine aw_aloadn C dX2_performBehind_84 rfl ?_
    refine aw_callV C dX2_performBehind_85 (t_X2_hold _ _ hw) mM_X2_230 bX2_hold shB_84 rfl rfl ⟨Nat.le_of_ble_eq_true rfl, Nat.le_of_ble_eq_true rfl, Nat.zero_le _, Nat.zero_le _⟩ _ rfl (Nat.le_of_ble_eq_true rfl) (fun r85 G3 hq => ?_)
    obtain ⟨rfl, hw⟩ := hq
    refine aw_goto (tgt := 298) C dX2_performBehind_88 (by decide) ?_
    exact aw_msk [false, false, false] (h298 _ hw)
  refine sw_if hw (fun ha1_51 hw => ?_) (fun ha1_51 hw => ?_)
  · refine aw_tab C 91 dX2_performBehind_1 ha1_51 (by decide) (by decide) rfl (by decide) ?_
    refine aw_aloadn C dX2_performBehind_91 rfl ?_
    refine aw_callV C dX2_performBehind_92 (t_X2_revive _ _ hw) mM_X2_233 bX2_revive shB_84 rfl rfl ⟨Nat.le_of_ble_eq_true rfl, Nat.le_of_ble_eq_true rfl, Nat.zero_le _, Nat.zero_le _⟩ _ rfl (Nat.le_of_ble_eq_true rfl) (fun r92 G4 hq => ?_)
    obtain ⟨rfl, hw⟩ := hq
    refine aw_goto (tgt := 298) C dX2_performBehind_95 (by decide) ?_
    exact aw_msk [false, false, false] (h298 _ hw)
  refine sw_if hw (fun ha1_52 hw => ?_) (fun ha1_52 hw => ?_)
  · refine aw_tab C 98 dX2_performBehind_1 ha1_52 (by decide) (by decide) rfl (by decide) ?_
    refine aw_aloadn C dX2_performBehind_98 rfl ?_
    refine aw_getI C dX2_performBehind_99 kcX2 shB_84 15 (by decide) rfl mF_X2_75 ?_
    refine aw_iconst (v := 1) C dX2_performBehind_102 (by decide) ?_
    refine aw_ic_ne C dX2_performBehind_103 298 (by decide) hw (fun hc103 hw => ?_) (fun hc103 hw => ?_)
    · exact aw_msk [false, false, false] (h298 _ hw)
    · refine aw_aloadn C dX2_performBehind_106 rfl ?_
      refine aw_getR (r := 106) C dX2_performBehind_107 kcX2 shB_84 3 (by decide) rfl mF_X2_21 ?_
      refine aw_getR (r := 123) C dX2_performBehind_110 kcX1 shB_106 8 (by decide) rfl mF_X2_212 ?_
      refine aw_aloadn C dX2_performBehind_113 rfl ?_
      refine aw_getI C dX2_performBehind_114 kcX2 shB_84 11 (by decide) rfl mF_X2_91 ?_
      refine aw_callV C dX2_performBehind_117 (t_at rowB_123 (Nat.le_of_ble_eq_true rfl) (G0 84 11) _) mM_X2_119 bX6_at rowB_123.1 rfl rfl ⟨Nat.le_of_ble_eq_true rfl, Nat.le_of_ble_eq_true rfl, Nat.zero_le _, Nat.zero_le _⟩ _ rfl (Nat.le_of_ble_eq_true rfl) (fun r117 G117x hq => ?_)
      obtain ⟨rfl, rfl⟩ := hq
      refine aw_iconst (v := 1) C dX2_performBehind_120 (by decide) ?_
      refine aw_ic_ne C dX2_performBehind_121 298 (by decide) hw (fun hc121 hw => ?_) (fun hc121 hw => ?_)
      · exact aw_msk [false, false, false] (h298 _ hw)
      · refine aw_aloadn C dX2_performBehind_124 rfl ?_
        refine aw_aloadn C dX2_performBehind_125 rfl ?_
        refine aw_getR (r := 106) C dX2_performBehind_126 kcX2 shB_84 3 (by decide) rfl mF_X2_21 ?_
        refine aw_getR (r := 121) C dX2_performBehind_129 kcX1 shB_106 7 (by decide) rfl mF_X2_218 ?_
        refine aw_aloadn C dX2_performBehind_132 rfl ?_
        refine aw_getI C dX2_performBehind_133 kcX2 shB_84 11 (by decide) rfl mF_X2_91 ?_
        refine aw_callV C dX2_performBehind_136 (t_at rowB_121 (Nat.le_of_ble_eq_true rfl) (G0 84 11) _) mM_X2_119 bX6_at rowB_121.1 rfl rfl ⟨Nat.le_of_ble_eq_true rfl, Nat.le_of_ble_eq_true rfl, Nat.zero_le _, Nat.zero_le _⟩ _ rfl (Nat.le_of_ble_eq_true rfl) (fun r136 G136x hq => ?_)
        obtain ⟨rfl, rfl⟩ := hq
        refine aw_putI C dX2_performBehind_139 kcX2 shB_84 17 (by decide) rfl mF_X2_82 rfl rfl rfl hw (fun G5 hw => ?_)
        refine aw_goto (tgt := 298) C dX2_performBehind_142 (by decide) ?_
        exact aw_msk [false, false, false] (h298 _ hw)
  refine sw_if hw (fun ha1_53 hw => ?_) (fun ha1_53 hw => ?_)
  · refine aw_tab C 145 dX2_performBehind_1 ha1_53 (by decide) (by decide) rfl (by decide) ?_
    refine aw_aloadn C dX2_performBehind_145 rfl ?_
    refine aw_getR (r := 19) C dX2_performBehind_146 kcX2 shB_84 1 (by decide) rfl mF_X2_43 ?_
    refine aw_getR (r := 30) C dX2_performBehind_149 kcX9 (worldS_19 shOK_B).1 2 (by decide) rfl mF_X2_236 ?_
    refine aw_iloadn C dX2_performBehind_152 rfl ?_
    refine aw_aloadn C dX2_performBehind_153 rfl ?_
    refine aw_getR (r := 106) C dX2_performBehind_154 kcX2 shB_84 3 (by decide) rfl mF_X2_21 ?_
    refine aw_getR (r := 121) C dX2_performBehind_157 kcX1 shB_106 7 (by decide) rfl mF_X2_218 ?_
    refine aw_aloadn C dX2_performBehind_160 rfl ?_
    refine aw_getI C dX2_performBehind_161 kcX2 shB_84 11 (by decide) rfl mF_X2_91 ?_
    refine aw_callV C dX2_performBehind_164 (t_at rowB_121 (Nat.le_of_ble_eq_true rfl) (G0 84 11) _) mM_X2_119 bX6_at rowB_121.1 rfl rfl ⟨Nat.le_of_ble_eq_true rfl, Nat.le_of_ble_eq_true rfl, Nat.zero_le _, Nat.zero_le _⟩ _ rfl (Nat.le_of_ble_eq_true rfl) (fun r164 G164x hq => ?_)
    obtain ⟨rfl, rfl⟩ := hq
    refine aw_callV C dX2_performBehind_167 (t_put (rowS_30 shOK_B) (Nat.le_of_ble_eq_true rfl) p1 (rat G0 122 601 (G0 84 11)) _) mM_X2_142 bX6_put (rowS_30 shOK_B).1 rfl rfl ⟨Nat.le_of_ble_eq_true rfl, Nat.le_of_ble_eq_true rfl, Nat.zero_le _, Nat.zero_le _⟩ _ rfl (Nat.le_of_ble_eq_true rfl) (fun r167 G6 hq => ?_)
    obtain ⟨rfl, hq⟩ := hq
    replace hw := pt_eq hw hq
    refine aw_goto (tgt := 298) C dX2_performBehind_170 (by decide) ?_
    exact aw_msk [false, false, false] (h298 _ hw)
  refine sw_if hw (fun ha1_54 hw => ?_) (fun ha1_54 hw => ?_)
  · refine aw_tab C 173 dX2_performBehind_1 ha1_54 (by decide) (by decide) rfl (by decide) ?_
    refine aw_aloadn C dX2_performBehind_173 rfl ?_
    refine aw_iloadn C dX2_performBehind_174 rfl ?_
    refine aw_callV C dX2_performBehind_175 (t_X2_chooseNextCursor p1 _ _ hw) mM_X2_239 bX2_chooseNextCursor shB_84 rfl rfl ⟨Nat.le_of_ble_eq_true rfl, Nat.le_of_ble_eq_true rfl, Nat.zero_le _, Nat.zero_le _⟩ _ rfl (Nat.le_of_ble_eq_true rfl) (fun r175 G7 hq => ?_)
    obtain ⟨rfl, hw⟩ := hq
    refine aw_goto (tgt := 298) C dX2_performBehind_178 (by decide) ?_
    exact aw_msk [false, false, false] (h298 _ hw)
  refine sw_if hw (fun ha1_55 hw => ?_) (fun ha1_55 hw => ?_)
  · refine aw_tab C 181 dX2_performBehind_1 ha1_55 (by decide) (by decide) rfl (by decide) ?_
    refine aw_aloadn C dX2_performBehind_181 rfl ?_
    refine aw_aloadn C dX2_performBehind_182 rfl ?_
    refine aw_getR (r := 106) C dX2_performBehind_183 kcX2 shB_84 3 (by decide) rfl mF_X2_21 ?_
    refine aw_getR (r := 123) C dX2_performBehind_186 kcX1 shB_106 8 (by decide) rfl mF_X2_212 ?_
    refine aw_aloadn C dX2_performBehind_189 rfl ?_
    refine aw_getI C dX2_performBehind_190 kcX2 shB_84 11 (by decide) rfl mF_X2_91 ?_
    refine aw_callV C dX2_performBehind_193 (t_at rowB_123 (Nat.le_of_ble_eq_true rfl) (G0 84 11) _) mM_X2_119 bX6_at rowB_123.1 rfl rfl ⟨Nat.le_of_ble_eq_true rfl, Nat.le_of_ble_eq_true rfl, Nat.zero_le _, Nat.zero_le _⟩ _ rfl (Nat.le_of_ble_eq_true rfl) (fun r193 G193x hq => ?_)
    obtain ⟨rfl, rfl⟩ := hq
    refine aw_putI C dX2_performBehind_196 kcX2 shB_84 16 (by decide) rfl mF_X2_78 rfl rfl rfl hw (fun G8 hw => ?_)
    refine aw_goto (tgt := 298) C dX2_performBehind_199 (by decide) ?_
    exact aw_msk [false, false, false] (h298 _ hw)
  refine sw_if hw (fun ha1_56 hw => ?_) (fun ha1_56 hw => ?_)
  · refine aw_tab C 202 dX2_performBehind_1 ha1_56 (by decide) (by decide) rfl (by decide) ?_
    refine aw_aloadn C dX2_performBehind_202 rfl ?_
    refine aw_callV C dX2_performBehind_203 (t_X2_leaveEach _ _ hw) mM_X2_242 bX2_leaveEach shB_84 rfl rfl ⟨Nat.le_of_ble_eq_true rfl, Nat.le_of_ble_eq_true rfl, Nat.zero_le _, Nat.zero_le _⟩ _ rfl (Nat.le_of_ble_eq_true rfl) (fun r203 G9 hq => ?_)
    obtain ⟨rfl, hw⟩ := hq
    refine aw_goto (tgt := 298) C dX2_performBehind_206 (by decide) ?_
    exact aw_msk [false, false, false] (h298 _ hw)
  refine sw_if hw (fun ha1_57 hw => ?_) (fun ha1_57 hw => ?_)
  · refine aw_tab C 209 dX2_performBehind_1 ha1_57 (by decide) (by decide) rfl (by decide) ?_
    refine aw_aloadn C dX2_performBehind_209 rfl ?_
    refine aw_getR (r := 129) C dX2_performBehind_210 kcX2 shB_84 4 (by decide) rfl mF_X2_28 ?_
    refine aw_aloadn C dX2_performBehind_213 rfl ?_
    refine aw_getR (r := 106) C dX2_performBehind_214 kcX2 shB_84 3 (by decide) rfl mF_X2_21 ?_
    refine aw_getR (r := 123) C dX2_performBehind_217 kcX1 shB_106 8 (by decide) rfl mF_X2_212 ?_
    refine aw_aloadn C dX2_performBehind_220 rfl ?_
    refine aw_getI C dX2_performBehind_221 kcX2 shB_84 11 (by decide) rfl mF_X2_91 ?_
    refine aw_callV C dX2_performBehind_224 (t_at rowB_123 (Nat.le_of_ble_eq_true rfl) (G0 84 11) _) mM_X2_119 bX6_at rowB_123.1 rfl rfl ⟨Nat.le_of_ble_eq_true rfl, Nat.le_of_ble_eq_true rfl, Nat.zero_le _, Nat.zero_le _⟩ _ rfl (Nat.le_of_ble_eq_true rfl) (fun r224 G224x hq => ?_)
    obtain ⟨rfl, rfl⟩ := hq
    refine aw_iconst (v := 1) C dX2_performBehind_227 (by decide) ?_
    refine aw_aloadn C dX2_performBehind_228 rfl ?_
    refine aw_getI C dX2_performBehind_229 kcX2 shB_84 16 (by decide) rfl mF_X2_78 ?_
    refine aw_callV C dX2_performBehind_232 (t_X7_bind (rat G0 124 601 (G0 84 11)) 1 (G0 84 16) _ _ hw) mM_X2_245 bX7_bind shB_129 rfl rfl ⟨Nat.le_of_ble_eq_true rfl, Nat.le_of_ble_eq_true rfl, Nat.zero_le _, Nat.zero_le _⟩ _ rfl (Nat.le_of_ble_eq_true rfl) (fun r232 G10 hq => ?_)
    obtain ⟨rfl, hw⟩ := hq
    refine aw_goto (tgt := 298) C dX2_performBehind_235 (by decide) ?_
    exact aw_msk [false, false, false] (h298 _ hw)
  refine sw_if hw (fun ha1_58 hw => ?_) (fun ha1_58 hw => ?_)
  · refine aw_tab C 238 dX2_performBehind_1 ha1_58 (by decide) (by decide) rfl (by decide) ?_
    refine aw_aloadn C dX2_performBehind_238 rfl ?_
    refine aw_aloadn C dX2_performBehind_239 rfl ?_
    refine aw_getR (r := 19) C dX2_performBehind_240 kcX2 shB_84 1 (by decide) rfl mF_X2_43 ?_
    refine aw_getR (r := 34) C dX2_performBehind_243 kcX9 (worldS_19 shOK_B).1 4 (by decide) rfl mF_X2_248 ?_
    refine aw_aloadn C dX2_performBehind_246 rfl ?_
    refine aw_getR (r := 106) C dX2_performBehind_247 kcX2 shB_84 3 (by decide) rfl mF_X2_21 ?_
    refine aw_getR (r := 125) C dX2_performBehind_250 kcX1 shB_106 9 (by decide) rfl mF_X2_249 ?_
    refine aw_aloadn C dX2_performBehind_253 rfl ?_
    refine aw_getI C dX2_performBehind_254 kcX2 shB_84 11 (by decide) rfl mF_X2_91 ?_
    refine aw_callV C dX2_performBehind_257 (t_at rowB_125 (Nat.le_of_ble_eq_true rfl) (G0 84 11) _) mM_X2_119 bX6_at rowB_125.1 rfl rfl ⟨Nat.le_of_ble_eq_true rfl, Nat.le_of_ble_eq_true rfl, Nat.zero_le _, Nat.zero_le _⟩ _ rfl (Nat.le_of_ble_eq_true rfl) (fun r257 G257x hq => ?_)
    obtain ⟨rfl, rfl⟩ := hq
    refine aw_callV C dX2_performBehind_260 (t_at (rowS_34 shOK_B) (Nat.le_of_ble_eq_true rfl) (rat G0 126 601 (G0 84 11)) _) mM_X2_119 bX6_at (rowS_34 shOK_B).1 rfl rfl ⟨Nat.le_of_ble_eq_true rfl, Nat.le_of_ble_eq_true rfl, Nat.zero_le _, Nat.zero_le _⟩ _ rfl (Nat.le_of_ble_eq_true rfl) (fun r260 G260x hq => ?_)
    obtain ⟨rfl, rfl⟩ := hq
    refine aw_callV C dX2_performBehind_263 (t_X2_enter (rat G0 35 6 (rat G0 126 601 (G0 84 11))) _ _ hw) mM_X2_252 bX2_enter shB_84 rfl rfl ⟨Nat.le_of_ble_eq_true rfl, Nat.le_of_ble_eq_true rfl, Nat.zero_le _, Nat.zero_le _⟩ _ rfl (Nat.le_of_ble_eq_true rfl) (fun r263 G11 hq => ?_)
    obtain ⟨rfl, hw⟩ := hq
    refine aw_goto (tgt := 298) C dX2_performBehind_266 (by decide) ?_
    exact aw_msk [false, false, false] (h298 _ hw)
  refine sw_if hw (fun ha1_59 hw => ?_) (fun ha1_59 hw => ?_)
  · refine aw_tab C 269 dX2_performBehind_1 ha1_59 (by decide) (by decide) rfl (by decide) ?_
    refine aw_aloadn C dX2_performBehind_269 rfl ?_
    refine aw_aloadn C dX2_performBehind_270 rfl ?_
    refine aw_getR (r := 106) C dX2_performBehind_271 kcX2 shB_84 3 (by decide) rfl mF_X2_21 ?_
    refine aw_getR (r := 121) C dX2_performBehind_274 kcX1 shB_106 7 (by decide) rfl mF_X2_218 ?_
    refine aw_aloadn C dX2_performBehind_277 rfl ?_
    refine aw_getI C dX2_performBehind_278 kcX2 shB_84 11 (by decide) rfl mF_X2_91 ?_
    refine aw_callV C dX2_performBehind_281 (t_at rowB_121 (Nat.le_of_ble_eq_true rfl) (G0 84 11) _) mM_X2_119 bX6_at rowB_121.1 rfl rfl ⟨Nat.le_of_ble_eq_true rfl, Nat.le_of_ble_eq_true rfl, Nat.zero_le _, Nat.zero_le _⟩ _ rfl (Nat.le_of_ble_eq_true rfl) (fun r281 G281x hq => ?_)
    obtain ⟨rfl, rfl⟩ := hq
    refine aw_putI C dX2_performBehind_284 kcX2 shB_84 16 (by decide) rfl mF_X2_78 rfl rfl rfl hw (fun G12 hw => ?_)
    refine aw_goto (tgt := 298) C dX2_performBehind_287 (by decide) ?_
    exact aw_msk [false, false, false] (h298 _ hw)
  refine sw_if hw (fun ha1_60 hw => ?_) (fun ha1_60 hw => ?_)
  · refine aw_tab C 290 dX2_performBehind_1 ha1_60 (by decide) (by decide) rfl (by decide) ?_
    refine aw_aloadn C dX2_performBehind_290 rfl ?_
    refine aw_iconst (v := 0) C dX2_performBehind_291 (by decide) ?_
    refine aw_putI C dX2_performBehind_292 kcX2 shB_84 14 (by decide) rfl mF_X2_71 rfl rfl rfl hw (fun G13 hw => ?_)
    refine aw_goto (tgt := 298) C dX2_performBehind_295 (by decide) ?_
    exact aw_msk [false, false, false] (h298 _ hw)
  refine aw_tabDef C 298 dX2_performBehind_1 12 (by decide) (by decide) (by decide) (fun i hi h => ?_) (by decide) ?_
  · exact match i, hi, h with
      | 0, _, h => absurd (h.trans (by decide)) ha1_48
      | 1, _, h => absurd (h.trans (by decide)) ha1_49
      | 2, _, h => absurd (h.trans (by decide)) ha1_50
      | 3, _, h => absurd (h.trans (by decide)) ha1_51
      | 4, _, h => absurd (h.trans (by decide)) ha1_52
      | 5, _, h => absurd (h.trans (by decide)) ha1_53
      | 6, _, h => absurd (h.trans (by decide)) ha1_54
      | 7, _, h => absurd (h.trans (by decide)) ha1_55
      | 8, _, h => absurd (h.trans (by decide)) ha1_56
      | 9, _, h => absurd (h.trans (by decide)) ha1_57
      | 10, _, h => absurd (h.trans (by decide)) ha1_58
      | 11, _, h => absurd (h.trans (by decide)) ha1_59
      | 12, _, h => absurd (h.trans (by decide)) ha1_60
      | i + 13, hi, _ => absurd hi (by omega)
  exact aw_msk [false, false, false] (h298 _ hw)
def w_X2_performFlow_j183 (K : Gt → Prop)  (G0 : Gt) : Prop :=
  K G0
def w_X2_performFlow (K : Gt → Prop) (p0 : Int32) (p1 : Int32) (G0 : Gt) : Prop :=
  pif (p0 = 40) (
    w_X2_leave (fun G1 =>
      w_X2_performFlow_j183 K G1) G0) (
  pif (p0 = 41) (
    w_X2_begin (fun G2 =>
      w_X2_performFlow_j183 K G2) p1 (rat G0 112 601 (G0 84 11)) 0 G0) (
  pif (p0 = 42) (
    w_X7_open (fun v4 G3 =>
      w_X2_begin (fun G5 =>
        w_X2_performFlow_j183 K G5) p1 v4 0 G3) (rat G0 112 601 (G0 84 11)) G0) (
  pif (p0 = 43) (
    w_X2_begin (fun G6 =>
      w_X2_performFlow_j183 K G6) p1 (rat G0 124 601 (G0 84 11)) 0 G0) (
  pif (p0 = 44) (
    pt (rput G0 122 601 (G0 84 11) (G0 84 16)) fun G7 =>
    w_X2_performFlow_j183 K G7) (
  pif (p0 = 45) (
    w_X2_jump (fun G8 =>
      w_X2_performFlow_j183 K G8) p1 G0) (
  pif (p0 = 46) (
    pif ((G0 84 16) = 0) (
      w_X2_jump (fun G9 =>
        w_X2_performFlow_j183 K G9) p1 G0) (
      w_X2_performFlow_j183 K G0)) (
  pif (p0 = 47) (
    pt (rput G0 118 601 (G0 84 11) p1) fun G10 =>
    w_X2_performFlow_j183 K G10) (
    w_X2_performFlow_j183 K G0))))))))
set_option maxHeartbeats 4000000 in
set_option maxRecDepth 100000 in
theorem t_X2_performFlow {l : Launch}  (p0 : Int32) (p1 : Int32) (G0 : Gt) (K : Gt → Prop) (hw : w_X2_performFlow K p0 p1 G0) : CT0 l yX2_performFlow cX2_performFlow 4 none 4 86 [.ref 84, .int p0, .int p1] shB G0 (fun r G' => r = none ∧ K G') := by
  refine CT0_of (by decide) (Nat.le_of_ble_eq_true rfl) rfl ?_
  intro p e s m args below meth c D tA ad A C hr _
  have h183 : ∀ (G0 : Gt), w_X2_performFlow_j183 K  G0 → aw p l e { frames := 4, cells := 0, slots := 0, locals := 86 } s m args below meth c 4 D tA A (MQ below (QC0 D tA ad A shB (fun r G' => r = none ∧ K G')) args s 0 0 A) 0 0 ad 183 [none, none, none, none] [] shB G0 := by
    intro   G0 hw
    unfold w_X2_performFlow_j183 at hw
    exact aw_return C hr dX2_performFlow_183 ⟨rfl, hw⟩
  unfold w_X2_performFlow at hw
  show aw p l e { frames := 4, cells := 0, slots := 0, locals := 86 } s m args below meth c 4 D tA A (MQ below (QC0 D tA ad A shB (fun r G' => r = none ∧ K G')) args s 0 0 A) 0 0 ad 0 [some (.ref 84), some (.int p0), some (.int p1), none] [] shB G0
  refine aw_aloadn C dX2_performFlow_0 rfl ?_
  refine aw_getR (r := 106) C dX2_performFlow_1 kcX2 shB_84 3 (by decide) rfl mF_X2_21 ?_
  refine aw_getR (r := 111) C dX2_performFlow_4 kcX1 shB_106 2 (by decide) rfl mF_X2_170 ?_
  refine aw_aloadn C dX2_performFlow_7 rfl ?_
  refine aw_getI C dX2_performFlow_8 kcX2 shB_84 11 (by decide) rfl mF_X2_91 ?_
  refine aw_callV C dX2_performFlow_11 (t_at rowB_111 (Nat.le_of_ble_eq_true rfl) (G0 84 11) _) mM_X2_119 bX6_at rowB_111.1 rfl rfl ⟨Nat.le_of_ble_eq_true rfl, Nat.le_of_ble_eq_true rfl, Nat.zero_le _, Nat.zero_le _⟩ _ rfl (Nat.le_of_ble_eq_true rfl) (fun r11 G11x hq => ?_)
  obtain ⟨rfl, rfl⟩ := hq
  refine aw_istoren C dX2_performFlow_14 (by decide) rfl ?_
  refine aw_iloadn C dX2_performFlow_15 rfl ?_
  refine sw_if hw (fun ha16_40 hw => ?_) (fun ha16_40 hw => ?_)
  · refine aw_tab C 64 dX2_performFlow_16 ha16_40 (by decide) (by decide) rfl (by decide) ?_
    refine aw_aloadn C dX2_performFlow_64 rfl ?_
    refine aw_callV C dX2_performFlow_65 (t_X2_leave _ _ hw) mM_X2_215 bX2_leave shB_84 rfl rfl ⟨Nat.le_of_ble_eq_true rfl, Nat.le_of_ble_eq_true rfl, Nat.zero_le _, Nat.zero_le _⟩ _ rfl (Nat.le_of_ble_eq_true rfl) (fun r65 G1 hq => ?_)
    obtain ⟨rfl, hw⟩ := hq
    refine aw_goto (tgt := 183) C dX2_performFlow_68 (by decide) ?_
    exact aw_msk [false, false, false, false] (h183 _ hw)
  refine sw_if hw (fun ha16_41 hw => ?_) (fun ha16_41 hw => ?_)
  · refine aw_tab C 71 dX2_performFlow_16 ha16_41 (by decide) (by decide) rfl (by decide) ?_
    refine aw_aloadn C dX2_performFlow_71 rfl ?_
    refine aw_iloadn C dX2_performFlow_72 rfl ?_
    refine aw_iloadn C dX2_performFlow_73 rfl ?_
    refine aw_iconst (v := 0) C dX2_performFlow_74 (by decide) ?_
    refine aw_callV C dX2_performFlow_75 (t_X2_begin p1 (rat G0 112 601 (G0 84 11)) 0 _ _ hw) mM_X2_101 bX2_begin shB_84 rfl rfl ⟨Nat.le_of_ble_eq_true rfl, Nat.le_of_ble_eq_true rfl, Nat.zero_le _, Nat.zero_le _⟩ _ rfl (Nat.le_of_ble_eq_true rfl) (fun r75 G2 hq => ?_)
    obtain ⟨rfl, hw⟩ := hq
    refine aw_goto (tgt := 183) C dX2_performFlow_78 (by decide) ?_
    exact aw_msk [false, false, false, false] (h183 _ hw)
  refine sw_if hw (fun ha16_42 hw => ?_) (fun ha16_42 hw => ?_)
  · refine aw_tab C 81 dX2_performFlow_16 ha16_42 (by decide) (by decide) rfl (by decide) ?_
    refine aw_aloadn C dX2_performFlow_81 rfl ?_
    refine aw_iloadn C dX2_performFlow_82 rfl ?_
    refine aw_aloadn C dX2_performFlow_83 rfl ?_
    refine aw_getR (r := 129) C dX2_performFlow_84 kcX2 shB_84 4 (by decide) rfl mF_X2_28 ?_
    refine aw_iloadn C dX2_performFlow_87 rfl ?_
    refine aw_callV C dX2_performFlow_88 (t_X7_open (rat G0 112 601 (G0 84 11)) _ _ hw) mM_X2_97 bX7_open shB_129 rfl rfl ⟨Nat.le_of_ble_eq_true rfl, Nat.le_of_ble_eq_true rfl, Nat.zero_le _, Nat.zero_le _⟩ _ rfl (Nat.le_of_ble_eq_true rfl) (fun r88 G3 hq => ?_)
    obtain ⟨v4, rfl, hw⟩ := hq
    refine aw_iconst (v := 0) C dX2_performFlow_91 (by decide) ?_
    refine aw_callV C dX2_performFlow_92 (t_X2_begin p1 v4 0 _ _ hw) mM_X2_101 bX2_begin shB_84 rfl rfl ⟨Nat.le_of_ble_eq_true rfl, Nat.le_of_ble_eq_true rfl, Nat.zero_le _, Nat.zero_le _⟩ _ rfl (Nat.le_of_ble_eq_true rfl) (fun r92 G5 hq => ?_)
    obtain ⟨rfl, hw⟩ := hq
    refine aw_goto (tgt := 183) C dX2_performFlow_95 (by decide) ?_
    exact aw_msk [false, false, false, false] (h183 _ hw)
  refine sw_if hw (fun ha16_43 hw => ?_) (fun ha16_43 hw => ?_)
  · refine aw_tab C 98 dX2_performFlow_16 ha16_43 (by decide) (by decide) rfl (by decide) ?_
    refine aw_aloadn C dX2_performFlow_98 rfl ?_
    refine aw_iloadn C dX2_performFlow_99 rfl ?_
    refine aw_aloadn C dX2_performFlow_100 rfl ?_
    refine aw_getR (r := 106) C dX2_performFlow_101 kcX2 shB_84 3 (by decide) rfl mF_X2_21 ?_
    refine aw_getR (r := 123) C dX2_performFlow_104 kcX1 shB_106 8 (by decide) rfl mF_X2_212 ?_
    refine aw_aloadn C dX2_performFlow_107 rfl ?_
    refine aw_getI C dX2_performFlow_108 kcX2 shB_84 11 (by decide) rfl mF_X2_91 ?_
    refine aw_callV C dX2_performFlow_111 (t_at rowB_123 (Nat.le_of_ble_eq_true rfl) (G0 84 11) _) mM_X2_119 bX6_at rowB_123.1 rfl rfl ⟨Nat.le_of_ble_eq_true rfl, Nat.le_of_ble_eq_true rfl, Nat.zero_le _, Nat.zero_le _⟩ _ rfl (Nat.le_of_ble_eq_true rfl) (fun r111 G111x hq => ?_)
    obtain ⟨rfl, rfl⟩ := hq
    refine aw_iconst (v := 0) C dX2_performFlow_114 (by decide) ?_
    refine aw_callV C dX2_performFlow_115 (t_X2_begin p1 (rat G0 124 601 (G0 84 11)) 0 _ _ hw) mM_X2_101 bX2_begin shB_84 rfl rfl ⟨Nat.le_of_ble_eq_true rfl, Nat.le_of_ble_eq_true rfl, Nat.zero_le _, Nat.zero_le _⟩ _ rfl (Nat.le_of_ble_eq_true rfl) (fun r115 G6 hq => ?_)
    obtain ⟨rfl, hw⟩ := hq
    refine aw_goto (tgt := 183) C dX2_performFlow_118 (by decide) ?_
    exact aw_msk [false, false, false, false] (h183 _ hw)
  refine sw_if hw (fun ha16_44 hw => ?_) (fun ha16_44 hw => ?_)
  · refine aw_tab C 121 dX2_performFlow_16 ha16_44 (by decide) (by decide) rfl (by decide) ?_
    refine aw_aloadn C dX2_performFlow_121 rfl ?_
    refine aw_getR (r := 106) C dX2_performFlow_122 kcX2 shB_84 3 (by decide) rfl mF_X2_21 ?_
    refine aw_getR (r := 121) C dX2_performFlow_125 kcX1 shB_106 7 (by decide) rfl mF_X2_218 ?_
    refine aw_aloadn C dX2_performFlow_128 rfl ?_
    refine aw_getI C dX2_performFlow_129 kcX2 shB_84 11 (by decide) rfl mF_X2_91 ?_
    refine aw_aloadn C dX2_performFlow_132 rfl ?_
    refine aw_getI C dX2_performFlow_133 kcX2 shB_84 16 (by decide) rfl mF_X2_78 ?_
    refine aw_callV C dX2_performFlow_136 (t_put rowB_121 (Nat.le_of_ble_eq_true rfl) (G0 84 11) (G0 84 16) _) mM_X2_142 bX6_put rowB_121.1 rfl rfl ⟨Nat.le_of_ble_eq_true rfl, Nat.le_of_ble_eq_true rfl, Nat.zero_le _, Nat.zero_le _⟩ _ rfl (Nat.le_of_ble_eq_true rfl) (fun r136 G7 hq => ?_)
    obtain ⟨rfl, hq⟩ := hq
    replace hw := pt_eq hw hq
    refine aw_goto (tgt := 183) C dX2_performFlow_139 (by decide) ?_
    exact aw_msk [false, false, false, false] (h183 _ hw)
  refine sw_if hw (fun ha16_45 hw => ?_) (fun ha16_45 hw => ?_)
  · refine aw_tab C 142 dX2_performFlow_16 ha16_45 (by decide) (by decide) rfl (by decide) ?_
    refine aw_aloadn C dX2_performFlow_142 rfl ?_
    refine aw_iloadn C dX2_performFlow_143 rfl ?_
    refine aw_callV C dX2_performFlow_144 (t_X2_jump p1 _ _ hw) mM_X2_221 bX2_jump shB_84 rfl rfl ⟨Nat.le_of_ble_eq_true rfl, Nat.le_of_ble_eq_true rfl, Nat.zero_le _, Nat.zero_le _⟩ _ rfl (Nat.le_of_ble_eq_true rfl) (fun r144 G8 hq => ?_)
    obtain ⟨rfl, hw⟩ := hq
    refine aw_goto (tgt := 183) C dX2_performFlow_147 (by decide) ?_
    exact aw_msk [false, false, false, false] (h183 _ hw)
  refine sw_if hw (fun ha16_46 hw => ?_) (fun ha16_46 hw => ?_)
  · refine aw_tab C 150 dX2_performFlow_16 ha16_46 (by decide) (by decide) rfl (by decide) ?_
    refine aw_aloadn C dX2_performFlow_150 rfl ?_
    refine aw_getI C dX2_performFlow_151 kcX2 shB_84 16 (by decide) rfl mF_X2_78 ?_
    refine aw_if_ne C dX2_performFlow_154 183 (by decide) hw (fun hc154 hw => ?_) (fun hc154 hw => ?_)
    · exact aw_msk [false, false, false, false] (h183 _ hw)
    · refine aw_aloadn C dX2_performFlow_157 rfl ?_
      refine aw_iloadn C dX2_performFlow_158 rfl ?_
      refine aw_callV C dX2_performFlow_159 (t_X2_jump p1 _ _ hw) mM_X2_221 bX2_jump shB_84 rfl rfl ⟨Nat.le_of_ble_eq_true rfl, Nat.le_of_ble_eq_true rfl, Nat.zero_le _, Nat.zero_le _⟩ _ rfl (Nat.le_of_ble_eq_true rfl) (fun r159 G9 hq => ?_)
      obtain ⟨rfl, hw⟩ := hq
      refine aw_goto (tgt := 183) C dX2_performFlow_162 (by decide) ?_
      exact aw_msk [false, false, false, false] (h183 _ hw)
  refine sw_if hw (fun ha16_47 hw => ?_) (fun ha16_47 hw => ?_)
  · refine aw_tab C 165 dX2_performFlow_16 ha16_47 (by decide) (by decide) rfl (by decide) ?_
    refine aw_aloadn C dX2_performFlow_165 rfl ?_
    refine aw_getR (r := 106) C dX2_performFlow_166 kcX2 shB_84 3 (by decide) rfl mF_X2_21 ?_
    refine aw_getR (r := 117) C dX2_performFlow_169 kcX1 shB_106 5 (by decide) rfl mF_X2_209 ?_
    refine aw_aloadn C dX2_performFlow_172 rfl ?_
    refine aw_getI C dX2_performFlow_173 kcX2 shB_84 11 (by decide) rfl mF_X2_91 ?_
    refine aw_iloadn C dX2_performFlow_176 rfl ?_
    refine aw_callV C dX2_performFlow_177 (t_put rowB_117 (Nat.le_of_ble_eq_true rfl) (G0 84 11) p1 _) mM_X2_142 bX6_put rowB_117.1 rfl rfl ⟨Nat.le_of_ble_eq_true rfl, Nat.le_of_ble_eq_true rfl, Nat.zero_le _, Nat.zero_le _⟩ _ rfl (Nat.le_of_ble_eq_true rfl) (fun r177 G10 hq => ?_)
    obtain ⟨rfl, hq⟩ := hq
    replace hw := pt_eq hw hq
    refine aw_goto (tgt := 183) C dX2_performFlow_180 (by decide) ?_
    exact aw_msk [false, false, false, false] (h183 _ hw)
  refine aw_tabDef C 183 dX2_performFlow_16 7 (by decide) (by decide) (by decide) (fun i hi h => ?_) (by decide) ?_
  · exact match i, hi, h with
      | 0, _, h => absurd (h.trans (by decide)) ha16_40
      | 1, _, h => absurd (h.trans (by decide)) ha16_41
      | 2, _, h => absurd (h.trans (by decide)) ha16_42
      | 3, _, h => absurd (h.trans (by decide)) ha16_43
      | 4, _, h => absurd (h.trans (by decide)) ha16_44
      | 5, _, h => absurd (h.trans (by decide)) ha16_45
      | 6, _, h => absurd (h.trans (by decide)) ha16_46
      | 7, _, h => absurd (h.trans (by decide)) ha16_47
      | i + 8, hi, _ => absurd hi (by omega)
  exact aw_msk [false, false, false, false] (h183 _ hw)
def w_X2_performEditing_j264 (K : Gt → Prop)  (G0 : Gt) : Prop :=
  K G0
def w_X2_performEditing_j159 (K : Gt → Prop) (y1 : Int32) (G0 : Gt) : Prop :=
  pt (gu G0 84 16 y1) fun G14 =>
  w_X2_performEditing_j264 K G14
def w_X2_performEditing (K : Gt → Prop) (p0 : Int32) (p1 : Int32) (G0 : Gt) : Prop :=
  pif (p0 = 29) (
    w_X2_insert (txo 19 (G0 19 7)) (fun G1 =>
      w_X2_performEditing_j264 K G1) p1 G0) (
  pif (p0 = 30) (
    w_X8_activePlace (txo 19 (G0 19 7)) (fun v3 G2 =>
      pif (1 ≤ v3) (
        w_X8_eraseLetter (txo 19 (G0 19 7)) (fun v5 G4 =>
          pt (gu G4 84 16 v5) fun G6 =>
          w_X2_performEditing_j264 K G6) G2) (
        w_X2_fail (fun G7 =>
          w_X2_performEditing_j264 K G7) (-4) G2)) G0) (
  pif (p0 = 31) (
    w_X2_move (txo 19 (G0 19 7)) (fun G8 =>
      w_X2_performEditing_j264 K G8) G0) (
  pif (p0 = 32) (
    w_X8_activePlace (txo 19 (G0 19 7)) (fun v10 G9 =>
      pt (gu G9 84 16 v10) fun G11 =>
      w_X2_performEditing_j264 K G11) G0) (
  pif (p0 = 33) (
    w_X8_activePlace (txo 19 (G0 19 7)) (fun v13 G12 =>
      pif ((G12 (txo 19 (G0 19 7)) 2) ≤ v13) (
        w_X2_performEditing_j159 K (-1) G12) (
        w_X8_activePlace (txo 19 (G0 19 7)) (fun v16 G15 =>
          w_X2_performEditing_j159 K (rat G15 ((txo 19 (G0 19 7)) + 2) 40 v16) G15) G12)) G0) (
  pif (p0 = 34) (
    pt (gu G0 84 16 (G0 (txo 19 (G0 19 7)) 2)) fun G17 =>
    w_X2_performEditing_j264 K G17) (
  pif (p0 = 35) (
    w_X2_addCursor (txo 19 (G0 19 7)) (fun G18 =>
      w_X2_performEditing_j264 K G18) G0) (
  pif (p0 = 36) (
    w_X8_packedOrder (txo 19 (G0 19 7)) (fun v20 G19 =>
      pt (rput G19 122 601 (G0 84 11) v20) fun G21 =>
      pt (rput G21 126 601 (G21 84 11) (((G21 (txo 19 (G0 19 7)) 3) * 2) + (G21 19 7))) fun G22 =>
      w_X2_performEditing_j264 K G22) G0) (
  pif (p0 = 37) (
    w_X2_choose (fun G23 =>
      w_X2_performEditing_j264 K G23) G0) (
  pif (p0 = 38) (
    w_X2_reload (fun G24 =>
      w_X2_performEditing_j264 K G24) p1 G0) (
  pif (p0 = 39) (
    pt (gu G0 19 8 p1) fun G25 =>
    pt (gu G25 84 16 0) fun G26 =>
    w_X2_performEditing_j264 K G26) (
    w_X2_performEditing_j264 K G0)))))))))))
set_option maxHeartbeats 4000000 in
set_option maxRecDepth 100000 in
theorem t_X2_performEditing {l : Launch}  (p0 : Int32) (p1 : Int32) (G0 : Gt) (K : Gt → Prop) (hw : w_X2_performEditing K p0 p1 G0) : CT0 l yX2_performEditing cX2_performEditing 4 none 4 93 [.ref 84, .int p0, .int p1] shB G0 (fun r G' => r = none ∧ K G') := by
  refine CT0_of (by decide) (Nat.le_of_ble_eq_true rfl) rfl ?_
  intro p e s m args below meth c D tA ad A C hr _
  have h264 : ∀ (G0 : Gt), w_X2_performEditing_j264 K  G0 → aw p l e { frames := 4, cells := 0, slots := 0, locals := 93 } s m args below meth c 4 D tA A (MQ below (QC0 D tA ad A shB (fun r G' => r = none ∧ K G')) args s 0 0 A) 0 0 ad 264 [none, none, none, none] [] shB G0 := by
    intro   G0 hw
    unfold w_X2_performEditing_j264 at hw
    exact aw_return C hr dX2_performEditing_264 ⟨rfl, hw⟩
  have h159 : ∀ (y1 : Int32) (G0 : Gt), w_X2_performEditing_j159 K y1 G0 → aw p l e { frames := 4, cells := 0, slots := 0, locals := 93 } s m args below meth c 4 D tA A (MQ below (QC0 D tA ad A shB (fun r G' => r = none ∧ K G')) args s 0 0 A) 0 0 ad 159 [none, none, none, none] [.int y1, .ref 84] shB G0 := by
    intro  y1 G0 hw
    unfold w_X2_performEditing_j159 at hw
    refine aw_putI C dX2_performEditing_159 kcX2 shB_84 16 (by decide) rfl mF_X2_78 rfl rfl rfl hw (fun G14 hw => ?_)
    refine aw_goto (tgt := 264) C dX2_performEditing_162 (by decide) ?_
    exact aw_msk [false, false, false, false] (h264 _ hw)
  unfold w_X2_performEditing at hw
  show aw p l e { frames := 4, cells := 0, slots := 0, locals := 93 } s m args below meth c 4 D tA A (MQ below (QC0 D tA ad A shB (fun r G' => r = none ∧ K G')) args s 0 0 A) 0 0 ad 0 [some (.ref 84), some (.int p0), some (.int p1), none] [] shB G0
  refine aw_aloadn C dX2_performEditing_0 rfl ?_
  refine aw_getR (r := 19) C dX2_performEditing_1 kcX2 shB_84 1 (by decide) rfl mF_X2_43 ?_
  refine aw_aloadn C dX2_performEditing_4 rfl ?_
  refine aw_getR (r := 19) C dX2_performEditing_5 kcX2 shB_84 1 (by decide) rfl mF_X2_43 ?_
  refine aw_getI C dX2_performEditing_8 kcX9 (worldS_19 shOK_B).1 7 (by decide) rfl mF_X2_307 ?_
  refine aw_callV C dX2_performEditing_11 (t_textOf (worldS_19 shOK_B) (G0 19 7) _) mM_X2_308 bX9_textOf (worldS_19 shOK_B).1 rfl rfl ⟨Nat.le_of_ble_eq_true rfl, Nat.le_of_ble_eq_true rfl, Nat.zero_le _, Nat.zero_le _⟩ _ rfl (Nat.le_of_ble_eq_true rfl) (fun r11 G11x hq => ?_)
  obtain ⟨rfl, rfl⟩ := hq
  refine aw_astoren C dX2_performEditing_14 (by decide) rfl ?_
  refine aw_iloadn C dX2_performEditing_15 rfl ?_
  refine sw_if hw (fun ha16_29 hw => ?_) (fun ha16_29 hw => ?_)
  · refine aw_tab C 76 dX2_performEditing_16 ha16_29 (by decide) (by decide) rfl (by decide) ?_
    refine aw_aloadn C dX2_performEditing_76 rfl ?_
    refine aw_aloadn C dX2_performEditing_77 rfl ?_
    refine aw_iloadn C dX2_performEditing_78 rfl ?_
    refine aw_callV C dX2_performEditing_79 (t_X2_insert (text_txo (worldS_19 shOK_B) (G0 19 7)) p1 _ _ hw) mM_X2_312 bX2_insert shB_84 rfl rfl ⟨Nat.le_of_ble_eq_true rfl, Nat.le_of_ble_eq_true rfl, Nat.zero_le _, Nat.zero_le _⟩ _ rfl (Nat.le_of_ble_eq_true rfl) (fun r79 G1 hq => ?_)
    obtain ⟨rfl, hw⟩ := hq
    refine aw_goto (tgt := 264) C dX2_performEditing_82 (by decide) ?_
    exact aw_msk [false, false, false, false] (h264 _ hw)
  refine sw_if hw (fun ha16_30 hw => ?_) (fun ha16_30 hw => ?_)
  · refine aw_tab C 85 dX2_performEditing_16 ha16_30 (by decide) (by decide) rfl (by decide) ?_
    refine aw_aloadn C dX2_performEditing_85 rfl ?_
    refine aw_callV C dX2_performEditing_86 (t_X8_activePlace (text_txo (worldS_19 shOK_B) (G0 19 7)) _ _ hw) mM_X2_316 bX8_activePlace (text_txo (worldS_19 shOK_B) (G0 19 7)).1 rfl rfl ⟨Nat.le_of_ble_eq_true rfl, Nat.le_of_ble_eq_true rfl, Nat.zero_le _, Nat.zero_le _⟩ _ rfl (Nat.le_of_ble_eq_true rfl) (fun r86 G2 hq => ?_)
    obtain ⟨v3, rfl, hw⟩ := hq
    refine aw_iconst (v := 1) C dX2_performEditing_89 (by decide) ?_
    refine aw_ic_ge C dX2_performEditing_90 102 (by decide) hw (fun hc90 hw => ?_) (fun hc90 hw => ?_)
    · refine aw_aloadn C dX2_performEditing_102 rfl ?_
      refine aw_aloadn C dX2_performEditing_103 rfl ?_
      refine aw_callV C dX2_performEditing_104 (t_X8_eraseLetter (text_txo (worldS_19 shOK_B) (G0 19 7)) _ _ hw) mM_X2_321 bX8_eraseLetter (text_txo (worldS_19 shOK_B) (G0 19 7)).1 rfl rfl ⟨Nat.le_of_ble_eq_true rfl, Nat.le_of_ble_eq_true rfl, Nat.zero_le _, Nat.zero_le _⟩ _ rfl (Nat.le_of_ble_eq_true rfl) (fun r104 G4 hq => ?_)
      obtain ⟨v5, rfl, hw⟩ := hq
      refine aw_putI C dX2_performEditing_107 kcX2 shB_84 16 (by decide) rfl mF_X2_78 rfl rfl rfl hw (fun G6 hw => ?_)
      refine aw_goto (tgt := 264) C dX2_performEditing_110 (by decide) ?_
      exact aw_msk [false, false, false, false] (h264 _ hw)
    · refine aw_aloadn C dX2_performEditing_93 rfl ?_
      refine aw_bipush (v := (-4)) C dX2_performEditing_94 (by decide) ?_
      refine aw_callV C dX2_performEditing_96 (t_X2_fail (-4) _ _ hw) mM_X2_176 bX2_fail shB_84 rfl rfl ⟨Nat.le_of_ble_eq_true rfl, Nat.le_of_ble_eq_true rfl, Nat.zero_le _, Nat.zero_le _⟩ _ rfl (Nat.le_of_ble_eq_true rfl) (fun r96 G7 hq => ?_)
      obtain ⟨rfl, hw⟩ := hq
      refine aw_goto (tgt := 264) C dX2_performEditing_99 (by decide) ?_
      exact aw_msk [false, false, false, false] (h264 _ hw)
  refine sw_if hw (fun ha16_31 hw => ?_) (fun ha16_31 hw => ?_)
  · refine aw_tab C 113 dX2_performEditing_16 ha16_31 (by decide) (by decide) rfl (by decide) ?_
    refine aw_aloadn C dX2_performEditing_113 rfl ?_
    refine aw_aloadn C dX2_performEditing_114 rfl ?_
    refine aw_callV C dX2_performEditing_115 (t_X2_move (text_txo (worldS_19 shOK_B) (G0 19 7)) _ _ hw) mM_X2_324 bX2_move shB_84 rfl rfl ⟨Nat.le_of_ble_eq_true rfl, Nat.le_of_ble_eq_true rfl, Nat.zero_le _, Nat.zero_le _⟩ _ rfl (Nat.le_of_ble_eq_true rfl) (fun r115 G8 hq => ?_)
    obtain ⟨rfl, hw⟩ := hq
    refine aw_goto (tgt := 264) C dX2_performEditing_118 (by decide) ?_
    exact aw_msk [false, false, false, false] (h264 _ hw)
  refine sw_if hw (fun ha16_32 hw => ?_) (fun ha16_32 hw => ?_)
  · refine aw_tab C 121 dX2_performEditing_16 ha16_32 (by decide) (by decide) rfl (by decide) ?_
    refine aw_aloadn C dX2_performEditing_121 rfl ?_
    refine aw_aloadn C dX2_performEditing_122 rfl ?_
    refine aw_callV C dX2_performEditing_123 (t_X8_activePlace (text_txo (worldS_19 shOK_B) (G0 19 7)) _ _ hw) mM_X2_316 bX8_activePlace (text_txo (worldS_19 shOK_B) (G0 19 7)).1 rfl rfl ⟨Nat.le_of_ble_eq_true rfl, Nat.le_of_ble_eq_true rfl, Nat.zero_le _, Nat.zero_le _⟩ _ rfl (Nat.le_of_ble_eq_true rfl) (fun r123 G9 hq => ?_)
    obtain ⟨v10, rfl, hw⟩ := hq
    refine aw_putI C dX2_performEditing_126 kcX2 shB_84 16 (by decide) rfl mF_X2_78 rfl rfl rfl hw (fun G11 hw => ?_)
    refine aw_goto (tgt := 264) C dX2_performEditing_129 (by decide) ?_
    exact aw_msk [false, false, false, false] (h264 _ hw)
  refine sw_if hw (fun ha16_33 hw => ?_) (fun ha16_33 hw => ?_)
  · refine aw_tab C 132 dX2_performEditing_16 ha16_33 (by decide) (by decide) rfl (by decide) ?_
    refine aw_aloadn C dX2_performEditing_132 rfl ?_
    refine aw_aloadn C dX2_performEditing_133 rfl ?_
    refine aw_callV C dX2_performEditing_134 (t_X8_activePlace (text_txo (worldS_19 shOK_B) (G0 19 7)) _ _ hw) mM_X2_316 bX8_activePlace (text_txo (worldS_19 shOK_B) (G0 19 7)).1 rfl rfl ⟨Nat.le_of_ble_eq_true rfl, Nat.le_of_ble_eq_true rfl, Nat.zero_le _, Nat.zero_le _⟩ _ rfl (Nat.le_of_ble_eq_true rfl) (fun r134 G12 hq => ?_)
    obtain ⟨v13, rfl, hw⟩ := hq
    refine aw_aloadn C dX2_performEditing_137 rfl ?_
    refine aw_getI C dX2_performEditing_138 kcX8 (text_txo (worldS_19 shOK_B) (G0 19 7)).1 2 (by decide) rfl mF_X2_328 ?_
    refine aw_ic_ge C dX2_performEditing_141 158 (by decide) hw (fun hc141 hw => ?_) (fun hc141 hw => ?_)
    · refine aw_iconst (v := (-1)) C dX2_performEditing_158 (by decide) ?_
      exact aw_msk [false, false, false, false] (h159 (-1) _ hw)
    · refine aw_aloadn C dX2_performEditing_144 rfl ?_
      refine aw_getR (r := ((txo 19 (G0 19 7)) + 1)) C dX2_performEditing_145 kcX8 (text_txo (worldS_19 shOK_B) (G0 19 7)).1 0 (by decide) rfl mF_X2_329 ?_
      refine aw_aloadn C dX2_performEditing_148 rfl ?_
      refine aw_callV C dX2_performEditing_149 (t_X8_activePlace (text_txo (worldS_19 shOK_B) (G0 19 7)) _ _ hw) mM_X2_316 bX8_activePlace (text_txo (worldS_19 shOK_B) (G0 19 7)).1 rfl rfl ⟨Nat.le_of_ble_eq_true rfl, Nat.le_of_ble_eq_true rfl, Nat.zero_le _, Nat.zero_le _⟩ _ rfl (Nat.le_of_ble_eq_true rfl) (fun r149 G15 hq => ?_)
      obtain ⟨v16, rfl, hw⟩ := hq
      refine aw_callV C dX2_performEditing_152 (t_at (text_txo (worldS_19 shOK_B) (G0 19 7)).2.1 (Nat.le_of_ble_eq_true rfl) v16 _) mM_X2_119 bX6_at (text_txo (worldS_19 shOK_B) (G0 19 7)).2.1.1 rfl rfl ⟨Nat.le_of_ble_eq_true rfl, Nat.le_of_ble_eq_true rfl, Nat.zero_le _, Nat.zero_le _⟩ _ rfl (Nat.le_of_ble_eq_true rfl) (fun r152 G152x hq => ?_)
      obtain ⟨rfl, rfl⟩ := hq
      refine aw_goto (tgt := 159) C dX2_performEditing_155 (by decide) ?_
      exact aw_msk [false, false, false, false] (h159 (rat G15 ((txo 19 (G0 19 7)) + 2) 40 v16) _ hw)
  refine sw_if hw (fun ha16_34 hw => ?_) (fun ha16_34 hw => ?_)
  · refine aw_tab C 165 dX2_performEditing_16 ha16_34 (by decide) (by decide) rfl (by decide) ?_
    refine aw_aloadn C dX2_performEditing_165 rfl ?_
    refine aw_aloadn C dX2_performEditing_166 rfl ?_
    refine aw_getI C dX2_performEditing_167 kcX8 (text_txo (worldS_19 shOK_B) (G0 19 7)).1 2 (by decide) rfl mF_X2_328 ?_
    refine aw_putI C dX2_performEditing_170 kcX2 shB_84 16 (by decide) rfl mF_X2_78 rfl rfl rfl hw (fun G17 hw => ?_)
    refine aw_goto (tgt := 264) C dX2_performEditing_173 (by decide) ?_
    exact aw_msk [false, false, false, false] (h264 _ hw)
  refine sw_if hw (fun ha16_35 hw => ?_) (fun ha16_35 hw => ?_)
  · refine aw_tab C 176 dX2_performEditing_16 ha16_35 (by decide) (by decide) rfl (by decide) ?_
    refine aw_aloadn C dX2_performEditing_176 rfl ?_
    refine aw_aloadn C dX2_performEditing_177 rfl ?_
    refine aw_callV C dX2_performEditing_178 (t_X2_addCursor (text_txo (worldS_19 shOK_B) (G0 19 7)) _ _ hw) mM_X2_332 bX2_addCursor shB_84 rfl rfl ⟨Nat.le_of_ble_eq_true rfl, Nat.le_of_ble_eq_true rfl, Nat.zero_le _, Nat.zero_le _⟩ _ rfl (Nat.le_of_ble_eq_true rfl) (fun r178 G18 hq => ?_)
    obtain ⟨rfl, hw⟩ := hq
    refine aw_goto (tgt := 264) C dX2_performEditing_181 (by decide) ?_
    exact aw_msk [false, false, false, false] (h264 _ hw)
  refine sw_if hw (fun ha16_36 hw => ?_) (fun ha16_36 hw => ?_)
  · refine aw_tab C 184 dX2_performEditing_16 ha16_36 (by decide) (by decide) rfl (by decide) ?_
    refine aw_aloadn C dX2_performEditing_184 rfl ?_
    refine aw_getR (r := 106) C dX2_performEditing_185 kcX2 shB_84 3 (by decide) rfl mF_X2_21 ?_
    refine aw_getR (r := 121) C dX2_performEditing_188 kcX1 shB_106 7 (by decide) rfl mF_X2_218 ?_
    refine aw_aloadn C dX2_performEditing_191 rfl ?_
    refine aw_getI C dX2_performEditing_192 kcX2 shB_84 11 (by decide) rfl mF_X2_91 ?_
    refine aw_aloadn C dX2_performEditing_195 rfl ?_
    refine aw_callV C dX2_performEditing_196 (t_X8_packedOrder (text_txo (worldS_19 shOK_B) (G0 19 7)) _ _ hw) mM_X2_335 bX8_packedOrder (text_txo (worldS_19 shOK_B) (G0 19 7)).1 rfl rfl ⟨Nat.le_of_ble_eq_true rfl, Nat.le_of_ble_eq_true rfl, Nat.zero_le _, Nat.zero_le _⟩ _ rfl (Nat.le_of_ble_eq_true rfl) (fun r196 G19 hq => ?_)
    obtain ⟨v20, rfl, hw⟩ := hq
    refine aw_callV C dX2_performEditing_199 (t_put rowB_121 (Nat.le_of_ble_eq_true rfl) (G0 84 11) v20 _) mM_X2_142 bX6_put rowB_121.1 rfl rfl ⟨Nat.le_of_ble_eq_true rfl, Nat.le_of_ble_eq_true rfl, Nat.zero_le _, Nat.zero_le _⟩ _ rfl (Nat.le_of_ble_eq_true rfl) (fun r199 G21 hq => ?_)
    obtain ⟨rfl, hq⟩ := hq
    replace hw := pt_eq hw hq
    refine aw_aloadn C dX2_performEditing_202 rfl ?_
    refine aw_getR (r := 106) C dX2_performEditing_203 kcX2 shB_84 3 (by decide) rfl mF_X2_21 ?_
    refine aw_getR (r := 125) C dX2_performEditing_206 kcX1 shB_106 9 (by decide) rfl mF_X2_249 ?_
    refine aw_aloadn C dX2_performEditing_209 rfl ?_
    refine aw_getI C dX2_performEditing_210 kcX2 shB_84 11 (by decide) rfl mF_X2_91 ?_
    refine aw_aloadn C dX2_performEditing_213 rfl ?_
    refine aw_getI C dX2_performEditing_214 kcX8 (text_txo (worldS_19 shOK_B) (G0 19 7)).1 3 (by decide) rfl mF_X2_338 ?_
    refine aw_iconst (v := 2) C dX2_performEditing_217 (by decide) ?_
    refine aw_imul C dX2_performEditing_218 ?_
    refine aw_aloadn C dX2_performEditing_219 rfl ?_
    refine aw_getR (r := 19) C dX2_performEditing_220 kcX2 shB_84 1 (by decide) rfl mF_X2_43 ?_
    refine aw_getI C dX2_performEditing_223 kcX9 (worldS_19 shOK_B).1 7 (by decide) rfl mF_X2_307 ?_
    refine aw_iadd C dX2_performEditing_226 ?_
    refine aw_callV C dX2_performEditing_227 (t_put rowB_125 (Nat.le_of_ble_eq_true rfl) (G21 84 11) (((G21 (txo 19 (G0 19 7)) 3) * 2) + (G21 19 7)) _) mM_X2_142 bX6_put rowB_125.1 rfl rfl ⟨Nat.le_of_ble_eq_true rfl, Nat.le_of_ble_eq_true rfl, Nat.zero_le _, Nat.zero_le _⟩ _ rfl (Nat.le_of_ble_eq_true rfl) (fun r227 G22 hq => ?_)
    obtain ⟨rfl, hq⟩ := hq
    replace hw := pt_eq hw hq
    refine aw_goto (tgt := 264) C dX2_performEditing_230 (by decide) ?_
    exact aw_msk [false, false, false, false] (h264 _ hw)
  refine sw_if hw (fun ha16_37 hw => ?_) (fun ha16_37 hw => ?_)
  · refine aw_tab C 233 dX2_performEditing_16 ha16_37 (by decide) (by decide) rfl (by decide) ?_
    refine aw_aloadn C dX2_performEditing_233 rfl ?_
    refine aw_callV C dX2_performEditing_234 (t_X2_choose _ _ hw) mM_X2_341 bX2_choose shB_84 rfl rfl ⟨Nat.le_of_ble_eq_true rfl, Nat.le_of_ble_eq_true rfl, Nat.zero_le _, Nat.zero_le _⟩ _ rfl (Nat.le_of_ble_eq_true rfl) (fun r234 G23 hq => ?_)
    obtain ⟨rfl, hw⟩ := hq
    refine aw_goto (tgt := 264) C dX2_performEditing_237 (by decide) ?_
    exact aw_msk [false, false, false, false] (h264 _ hw)
  refine sw_if hw (fun ha16_38 hw => ?_) (fun ha16_38 hw => ?_)
  · refine aw_tab C 240 dX2_performEditing_16 ha16_38 (by decide) (by decide) rfl (by decide) ?_
    refine aw_aloadn C dX2_performEditing_240 rfl ?_
    refine aw_iloadn C dX2_performEditing_241 rfl ?_
    refine aw_callV C dX2_performEditing_242 (t_X2_reload p1 _ _ hw) mM_X2_344 bX2_reload shB_84 rfl rfl ⟨Nat.le_of_ble_eq_true rfl, Nat.le_of_ble_eq_true rfl, Nat.zero_le _, Nat.zero_le _⟩ _ rfl (Nat.le_of_ble_eq_true rfl) (fun r242 G24 hq => ?_)
    obtain ⟨rfl, hw⟩ := hq
    refine aw_goto (tgt := 264) C dX2_performEditing_245 (by decide) ?_
    exact aw_msk [false, false, false, false] (h264 _ hw)
  refine sw_if hw (fun ha16_39 hw => ?_) (fun ha16_39 hw => ?_)
  · refine aw_tab C 248 dX2_performEditing_16 ha16_39 (by decide) (by decide) rfl (by decide) ?_
    refine aw_aloadn C dX2_performEditing_248 rfl ?_
    refine aw_getR (r := 19) C dX2_performEditing_249 kcX2 shB_84 1 (by decide) rfl mF_X2_43 ?_
    refine aw_iloadn C dX2_performEditing_252 rfl ?_
    refine aw_putI C dX2_performEditing_253 kcX9 (worldS_19 shOK_B).1 8 (by decide) rfl mF_X2_347 rfl rfl rfl hw (fun G25 hw => ?_)
    refine aw_aloadn C dX2_performEditing_256 rfl ?_
    refine aw_iconst (v := 0) C dX2_performEditing_257 (by decide) ?_
    refine aw_putI C dX2_performEditing_258 kcX2 shB_84 16 (by decide) rfl mF_X2_78 rfl rfl rfl hw (fun G26 hw => ?_)
    refine aw_goto (tgt := 264) C dX2_performEditing_261 (by decide) ?_
    exact aw_msk [false, false, false, false] (h264 _ hw)
  refine aw_tabDef C 264 dX2_performEditing_16 10 (by decide) (by decide) (by decide) (fun i hi h => ?_) (by decide) ?_
  · exact match i, hi, h with
      | 0, _, h => absurd (h.trans (by decide)) ha16_29
      | 1, _, h => absurd (h.trans (by decide)) ha16_30
      | 2, _, h => absurd (h.trans (by decide)) ha16_31
      | 3, _, h => absurd (h.trans (by decide)) ha16_32
      | 4, _, h => absurd (h.trans (by decide)) ha16_33
      | 5, _, h => absurd (h.trans (by decide)) ha16_34
      | 6, _, h => absurd (h.trans (by decide)) ha16_35
      | 7, _, h => absurd (h.trans (by decide)) ha16_36
      | 8, _, h => absurd (h.trans (by decide)) ha16_37
      | 9, _, h => absurd (h.trans (by decide)) ha16_38
      | 10, _, h => absurd (h.trans (by decide)) ha16_39
      | i + 11, hi, _ => absurd hi (by omega)
  exact aw_msk [false, false, false, false] (h264 _ hw)
def w_X2_performControl_j296 (K : Gt → Prop)  (G0 : Gt) : Prop :=
  K G0
def w_X2_performControl_j174 (K : Gt → Prop) (y1 : Int32) (G0 : Gt) : Prop :=
  w_X2_fail (fun G15 =>
    w_X2_performControl_j296 K G15) y1 G0
def w_X2_performControl (K : Gt → Prop) (p0 : Int32) (p1 : Int32) (G0 : Gt) : Prop :=
  pif (p0 = 14) (
    w_X2_loopWith (fun v2 G1 =>
      w_X2_leaveFor (fun G3 =>
        w_X2_performControl_j296 K G3) v2 2 G1) p1 G0) (
  pif (p0 = 15) (
    w_X2_loopWith (fun v5 G4 =>
      w_X2_leaveFor (fun G6 =>
        w_X2_performControl_j296 K G6) v5 3 G4) p1 G0) (
  pif (p0 = 16) (
    w_X3_makeFunction (fun v8 G7 =>
      pt (gu G7 84 16 v8) fun G9 =>
      w_X2_performControl_j296 K G9) (G0 84 11) G0) (
  pif (p0 = 17) (
    w_X2_apply (fun G10 =>
      w_X2_performControl_j296 K G10) G0) (
  pif (p0 = 18) (
    w_X2_invoke (fun G11 =>
      w_X2_performControl_j296 K G11) (p1 - p1 / 6 * 6) (p1 / 6) G0) (
  pif (p0 = 19) (
    w_X2_bodyToReturn (fun v13 G12 =>
      w_X2_leaveFor (fun G14 =>
        w_X2_performControl_j296 K G14) v13 4 G12) G0) (
  pif (p0 = 22) (
    pif ((inm (G0 84 16)) = 0) (
      w_X2_performControl_j174 K (-3) G0) (
      w_X2_performControl_j174 K (G0 84 16) G0)) (
  pif (p0 = 23) (
    w_X3_makeGenerator (fun v17 G16 =>
      pt (gu G16 84 16 v17) fun G18 =>
      w_X2_performControl_j296 K G18) (G0 84 11) G0) (
  pif (p0 = 24) (
    w_X2_rest (fun G19 =>
      w_X2_performControl_j296 K G19) G0) (
  pif (p0 = 25) (
    w_X2_ask (fun G20 =>
      w_X2_performControl_j296 K G20) G0) (
  pif (p0 = 26) (
    pt (rput G0 122 601 (G0 84 11) (rat G0 31 4 p1)) fun G21 =>
    pt (rput G21 124 601 (G21 84 11) 1) fun G22 =>
    pt (rput G22 31 4 p1 (G22 84 16)) fun G23 =>
    w_X2_performControl_j296 K G23) (
  pif (p0 = 27) (
    pt (gu G0 84 16 (rat G0 31 4 p1)) fun G24 =>
    w_X2_performControl_j296 K G24) (
  pif (p0 = 28) (
    w_X2_stay (fun G25 =>
      w_X2_performControl_j296 K G25) p1 G0) (
    w_X2_performControl_j296 K G0)))))))))))))
set_option maxHeartbeats 4000000 in
set_option maxRecDepth 100000 in
theorem t_X2_performControl {l : Launch}  (p0 : Int32) (p1 : Int32) (G0 : Gt) (K : Gt → Prop) (hw : w_X2_performControl K p0 p1 G0) : CT0 l yX2_performControl cX2_performControl 3 none 4 91 [.ref 84, .int p0, .int p1] shB G0 (fun r G' => r = none ∧ K G') := by
  refine CT0_of (by decide) (Nat.le_of_ble_eq_true rfl) rfl ?_
  intro p e s m args below meth c D tA ad A C hr _
  have h296 : ∀ (G0 : Gt), w_X2_performControl_j296 K  G0 → aw p l e { frames := 4, cells := 0, slots := 0, locals := 91 } s m args below meth c 3 D tA A (MQ below (QC0 D tA ad A shB (fun r G' => r = none ∧ K G')) args s 0 0 A) 0 0 ad 296 [none, none, none] [] shB G0 := by
    intro   G0 hw
    unfold w_X2_performControl_j296 at hw
    exact aw_return C hr dX2_performControl_296 ⟨rfl, hw⟩
  have h174 : ∀ (y1 : Int32) (G0 : Gt), w_X2_performControl_j174 K y1 G0 → aw p l e { frames := 4, cells := 0, slots := 0, locals := 91 } s m args below meth c 3 D tA A (MQ below (QC0 D tA ad A shB (fun r G' => r = none ∧ K G')) args s 0 0 A) 0 0 ad 174 [none, none, none] [.int y1, .ref 84] shB G0 := by
    intro  y1 G0 hw
    unfold w_X2_performControl_j174 at hw
    refine aw_callV C dX2_performControl_174 (t_X2_fail y1 _ _ hw) mM_X2_176 bX2_fail shB_84 rfl rfl ⟨Nat.le_of_ble_eq_true rfl, Nat.le_of_ble_eq_true rfl, Nat.zero_le _, Nat.zero_le _⟩ _ rfl (Nat.le_of_ble_eq_true rfl) (fun r174 G15 hq => ?_)
    obtain ⟨rfl, hw⟩ := hq
    refine aw_goto (tgt := 296) C dX2_performControl_177 (by decide) ?_
    exact aw_msk [false, false, false] (h296 _ hw)
  unfold w_X2_performControl at hw
  show aw p l e { frames := 4, cells := 0, slots := 0, locals := 91 } s m args below meth c 3 D tA A (MQ below (QC0 D tA ad A shB (fun r G' => r = none ∧ K G')) args s 0 0 A) 0 0 ad 0 [some (.ref 84), some (.int p0), some (.int p1)] [] shB G0
  refine aw_iloadn C dX2_performControl_0 rfl ?_
  refine sw_if hw (fun ha1_14 hw => ?_) (fun ha1_14 hw => ?_)
  · refine aw_tab C 76 dX2_performControl_1 ha1_14 (by decide) (by decide) rfl (by decide) ?_
    refine aw_aloadn C dX2_performControl_76 rfl ?_
    refine aw_aloadn C dX2_performControl_77 rfl ?_
    refine aw_iloadn C dX2_performControl_78 rfl ?_
    refine aw_callV C dX2_performControl_79 (t_X2_loopWith p1 _ _ hw) mM_X2_277 bX2_loopWith shB_84 rfl rfl ⟨Nat.le_of_ble_eq_true rfl, Nat.le_of_ble_eq_true rfl, Nat.zero_le _, Nat.zero_le _⟩ _ rfl (Nat.le_of_ble_eq_true rfl) (fun r79 G1 hq => ?_)
    obtain ⟨v2, rfl, hw⟩ := hq
    refine aw_iconst (v := 2) C dX2_performControl_82 (by decide) ?_
    refine aw_callV C dX2_performControl_83 (t_X2_leaveFor v2 2 _ _ hw) mM_X2_280 bX2_leaveFor shB_84 rfl rfl ⟨Nat.le_of_ble_eq_true rfl, Nat.le_of_ble_eq_true rfl, Nat.zero_le _, Nat.zero_le _⟩ _ rfl (Nat.le_of_ble_eq_true rfl) (fun r83 G3 hq => ?_)
    obtain ⟨rfl, hw⟩ := hq
    refine aw_goto (tgt := 296) C dX2_performControl_86 (by decide) ?_
    exact aw_msk [false, false, false] (h296 _ hw)
  refine sw_if hw (fun ha1_15 hw => ?_) (fun ha1_15 hw => ?_)
  · refine aw_tab C 89 dX2_performControl_1 ha1_15 (by decide) (by decide) rfl (by decide) ?_
    refine aw_aloadn C dX2_performControl_89 rfl ?_
    refine aw_aloadn C dX2_performControl_90 rfl ?_
    refine aw_iloadn C dX2_performControl_91 rfl ?_
    refine aw_callV C dX2_performControl_92 (t_X2_loopWith p1 _ _ hw) mM_X2_277 bX2_loopWith shB_84 rfl rfl ⟨Nat.le_of_ble_eq_true rfl, Nat.le_of_ble_eq_true rfl, Nat.zero_le _, Nat.zero_le _⟩ _ rfl (Nat.le_of_ble_eq_true rfl) (fun r92 G4 hq => ?_)
    obtain ⟨v5, rfl, hw⟩ := hq
    refine aw_iconst (v := 3) C dX2_performControl_95 (by decide) ?_
    refine aw_callV C dX2_performControl_96 (t_X2_leaveFor v5 3 _ _ hw) mM_X2_280 bX2_leaveFor shB_84 rfl rfl ⟨Nat.le_of_ble_eq_true rfl, Nat.le_of_ble_eq_true rfl, Nat.zero_le _, Nat.zero_le _⟩ _ rfl (Nat.le_of_ble_eq_true rfl) (fun r96 G6 hq => ?_)
    obtain ⟨rfl, hw⟩ := hq
    refine aw_goto (tgt := 296) C dX2_performControl_99 (by decide) ?_
    exact aw_msk [false, false, false] (h296 _ hw)
  refine sw_if hw (fun ha1_16 hw => ?_) (fun ha1_16 hw => ?_)
  · refine aw_tab C 114 dX2_performControl_1 ha1_16 (by decide) (by decide) rfl (by decide) ?_
    refine aw_aloadn C dX2_performControl_114 rfl ?_
    refine aw_aloadn C dX2_performControl_115 rfl ?_
    refine aw_getR (r := 134) C dX2_performControl_116 kcX2 shB_84 5 (by decide) rfl mF_X2_35 ?_
    refine aw_aloadn C dX2_performControl_119 rfl ?_
    refine aw_getI C dX2_performControl_120 kcX2 shB_84 11 (by decide) rfl mF_X2_91 ?_
    refine aw_callV C dX2_performControl_123 (t_X3_makeFunction (G0 84 11) _ _ hw) mM_X2_286 bX3_makeFunction shB_134 rfl rfl ⟨Nat.le_of_ble_eq_true rfl, Nat.le_of_ble_eq_true rfl, Nat.zero_le _, Nat.zero_le _⟩ _ rfl (Nat.le_of_ble_eq_true rfl) (fun r123 G7 hq => ?_)
    obtain ⟨v8, rfl, hw⟩ := hq
    refine aw_putI C dX2_performControl_126 kcX2 shB_84 16 (by decide) rfl mF_X2_78 rfl rfl rfl hw (fun G9 hw => ?_)
    refine aw_goto (tgt := 296) C dX2_performControl_129 (by decide) ?_
    exact aw_msk [false, false, false] (h296 _ hw)
  refine sw_if hw (fun ha1_17 hw => ?_) (fun ha1_17 hw => ?_)
  · refine aw_tab C 132 dX2_performControl_1 ha1_17 (by decide) (by decide) rfl (by decide) ?_
    refine aw_aloadn C dX2_performControl_132 rfl ?_
    refine aw_callV C dX2_performControl_133 (t_X2_apply _ _ hw) mM_X2_289 bX2_apply shB_84 rfl rfl ⟨Nat.le_of_ble_eq_true rfl, Nat.le_of_ble_eq_true rfl, Nat.zero_le _, Nat.zero_le _⟩ _ rfl (Nat.le_of_ble_eq_true rfl) (fun r133 G10 hq => ?_)
    obtain ⟨rfl, hw⟩ := hq
    refine aw_goto (tgt := 296) C dX2_performControl_136 (by decide) ?_
    exact aw_msk [false, false, false] (h296 _ hw)
  refine sw_if hw (fun ha1_18 hw => ?_) (fun ha1_18 hw => ?_)
  · refine aw_tab C 139 dX2_performControl_1 ha1_18 (by decide) (by decide) rfl (by decide) ?_
    refine aw_aloadn C dX2_performControl_139 rfl ?_
    refine aw_iloadn C dX2_performControl_140 rfl ?_
    refine aw_bipush (v := 6) C dX2_performControl_141 (by decide) ?_
    refine aw_irem C dX2_performControl_143 (by decide) ?_
    refine aw_iloadn C dX2_performControl_144 rfl ?_
    refine aw_bipush (v := 6) C dX2_performControl_145 (by decide) ?_
    refine aw_idiv C dX2_performControl_147 (by decide) ?_
    refine aw_callV C dX2_performControl_148 (t_X2_invoke (p1 - p1 / 6 * 6) (p1 / 6) _ _ hw) mM_X2_292 bX2_invoke shB_84 rfl rfl ⟨Nat.le_of_ble_eq_true rfl, Nat.le_of_ble_eq_true rfl, Nat.zero_le _, Nat.zero_le _⟩ _ rfl (Nat.le_of_ble_eq_true rfl) (fun r148 G11 hq => ?_)
    obtain ⟨rfl, hw⟩ := hq
    refine aw_goto (tgt := 296) C dX2_performControl_151 (by decide) ?_
    exact aw_msk [false, false, false] (h296 _ hw)
  refine sw_if hw (fun ha1_19 hw => ?_) (fun ha1_19 hw => ?_)
  · refine aw_tab C 102 dX2_performControl_1 ha1_19 (by decide) (by decide) rfl (by decide) ?_
    refine aw_aloadn C dX2_performControl_102 rfl ?_
    refine aw_aloadn C dX2_performControl_103 rfl ?_
    refine aw_callV C dX2_performControl_104 (t_X2_bodyToReturn _ _ hw) mM_X2_283 bX2_bodyToReturn shB_84 rfl rfl ⟨Nat.le_of_ble_eq_true rfl, Nat.le_of_ble_eq_true rfl, Nat.zero_le _, Nat.zero_le _⟩ _ rfl (Nat.le_of_ble_eq_true rfl) (fun r104 G12 hq => ?_)
    obtain ⟨v13, rfl, hw⟩ := hq
    refine aw_iconst (v := 4) C dX2_performControl_107 (by decide) ?_
    refine aw_callV C dX2_performControl_108 (t_X2_leaveFor v13 4 _ _ hw) mM_X2_280 bX2_leaveFor shB_84 rfl rfl ⟨Nat.le_of_ble_eq_true rfl, Nat.le_of_ble_eq_true rfl, Nat.zero_le _, Nat.zero_le _⟩ _ rfl (Nat.le_of_ble_eq_true rfl) (fun r108 G14 hq => ?_)
    obtain ⟨rfl, hw⟩ := hq
    refine aw_goto (tgt := 296) C dX2_performControl_111 (by decide) ?_
    exact aw_msk [false, false, false] (h296 _ hw)
  refine sw_if hw (fun ha1_22 hw => ?_) (fun ha1_22 hw => ?_)
  · refine aw_tab C 154 dX2_performControl_1 ha1_22 (by decide) (by decide) rfl (by decide) ?_
    refine aw_aloadn C dX2_performControl_154 rfl ?_
    refine aw_aloadn C dX2_performControl_155 rfl ?_
    refine aw_getI C dX2_performControl_156 kcX2 shB_84 16 (by decide) rfl mF_X2_78 ?_
    refine aw_callSN C dX2_performControl_159 (t_isNumber (G0 84 16) _) mE_X2_265 bX10_isNumber rfl ⟨Nat.le_of_ble_eq_true rfl, Nat.le_of_ble_eq_true rfl, Nat.zero_le _, Nat.zero_le _⟩ _ rfl (Nat.le_of_ble_eq_true rfl) (fun r159 G159x hq => ?_)
    obtain ⟨rfl, rfl⟩ := hq
    refine aw_if_eq C dX2_performControl_162 172 (by decide) hw (fun hc162 hw => ?_) (fun hc162 hw => ?_)
    · refine aw_bipush (v := (-3)) C dX2_performControl_172 (by decide) ?_
      exact aw_msk [false, false, false] (h174 (-3) _ hw)
    · refine aw_aloadn C dX2_performControl_165 rfl ?_
      refine aw_getI C dX2_performControl_166 kcX2 shB_84 16 (by decide) rfl mF_X2_78 ?_
      refine aw_goto (tgt := 174) C dX2_performControl_169 (by decide) ?_
      exact aw_msk [false, false, false] (h174 (G0 84 16) _ hw)
  refine sw_if hw (fun ha1_23 hw => ?_) (fun ha1_23 hw => ?_)
  · refine aw_tab C 180 dX2_performControl_1 ha1_23 (by decide) (by decide) rfl (by decide) ?_
    refine aw_aloadn C dX2_performControl_180 rfl ?_
    refine aw_aloadn C dX2_performControl_181 rfl ?_
    refine aw_getR (r := 134) C dX2_performControl_182 kcX2 shB_84 5 (by decide) rfl mF_X2_35 ?_
    refine aw_aloadn C dX2_performControl_185 rfl ?_
    refine aw_getI C dX2_performControl_186 kcX2 shB_84 11 (by decide) rfl mF_X2_91 ?_
    refine aw_callV C dX2_performControl_189 (t_X3_makeGenerator (G0 84 11) _ _ hw) mM_X2_295 bX3_makeGenerator shB_134 rfl rfl ⟨Nat.le_of_ble_eq_true rfl, Nat.le_of_ble_eq_true rfl, Nat.zero_le _, Nat.zero_le _⟩ _ rfl (Nat.le_of_ble_eq_true rfl) (fun r189 G16 hq => ?_)
    obtain ⟨v17, rfl, hw⟩ := hq
    refine aw_putI C dX2_performControl_192 kcX2 shB_84 16 (by decide) rfl mF_X2_78 rfl rfl rfl hw (fun G18 hw => ?_)
    refine aw_goto (tgt := 296) C dX2_performControl_195 (by decide) ?_
    exact aw_msk [false, false, false] (h296 _ hw)
  refine sw_if hw (fun ha1_24 hw => ?_) (fun ha1_24 hw => ?_)
  · refine aw_tab C 198 dX2_performControl_1 ha1_24 (by decide) (by decide) rfl (by decide) ?_
    refine aw_aloadn C dX2_performControl_198 rfl ?_
    refine aw_callV C dX2_performControl_199 (t_X2_rest _ _ hw) mM_X2_298 bX2_rest shB_84 rfl rfl ⟨Nat.le_of_ble_eq_true rfl, Nat.le_of_ble_eq_true rfl, Nat.zero_le _, Nat.zero_le _⟩ _ rfl (Nat.le_of_ble_eq_true rfl) (fun r199 G19 hq => ?_)
    obtain ⟨rfl, hw⟩ := hq
    refine aw_goto (tgt := 296) C dX2_performControl_202 (by decide) ?_
    exact aw_msk [false, false, false] (h296 _ hw)
  refine sw_if hw (fun ha1_25 hw => ?_) (fun ha1_25 hw => ?_)
  · refine aw_tab C 205 dX2_performControl_1 ha1_25 (by decide) (by decide) rfl (by decide) ?_
    refine aw_aloadn C dX2_performControl_205 rfl ?_
    refine aw_callV C dX2_performControl_206 (t_X2_ask _ _ hw) mM_X2_301 bX2_ask shB_84 rfl rfl ⟨Nat.le_of_ble_eq_true rfl, Nat.le_of_ble_eq_true rfl, Nat.zero_le _, Nat.zero_le _⟩ _ rfl (Nat.le_of_ble_eq_true rfl) (fun r206 G20 hq => ?_)
    obtain ⟨rfl, hw⟩ := hq
    refine aw_goto (tgt := 296) C dX2_performControl_209 (by decide) ?_
    exact aw_msk [false, false, false] (h296 _ hw)
  refine sw_if hw (fun ha1_26 hw => ?_) (fun ha1_26 hw => ?_)
  · refine aw_tab C 212 dX2_performControl_1 ha1_26 (by decide) (by decide) rfl (by decide) ?_
    refine aw_aloadn C dX2_performControl_212 rfl ?_
    refine aw_getR (r := 106) C dX2_performControl_213 kcX2 shB_84 3 (by decide) rfl mF_X2_21 ?_
    refine aw_getR (r := 121) C dX2_performControl_216 kcX1 shB_106 7 (by decide) rfl mF_X2_218 ?_
    refine aw_aloadn C dX2_performControl_219 rfl ?_
    refine aw_getI C dX2_performControl_220 kcX2 shB_84 11 (by decide) rfl mF_X2_91 ?_
    refine aw_aloadn C dX2_performControl_223 rfl ?_
    refine aw_getR (r := 19) C dX2_performControl_224 kcX2 shB_84 1 (by decide) rfl mF_X2_43 ?_
    refine aw_getR (r := 30) C dX2_performControl_227 kcX9 (worldS_19 shOK_B).1 2 (by decide) rfl mF_X2_236 ?_
    refine aw_iloadn C dX2_performControl_230 rfl ?_
    refine aw_callV C dX2_performControl_231 (t_at (rowS_30 shOK_B) (Nat.le_of_ble_eq_true rfl) p1 _) mM_X2_119 bX6_at (rowS_30 shOK_B).1 rfl rfl ⟨Nat.le_of_ble_eq_true rfl, Nat.le_of_ble_eq_true rfl, Nat.zero_le _, Nat.zero_le _⟩ _ rfl (Nat.le_of_ble_eq_true rfl) (fun r231 G231x hq => ?_)
    obtain ⟨rfl, rfl⟩ := hq
    refine aw_callV C dX2_performControl_234 (t_put rowB_121 (Nat.le_of_ble_eq_true rfl) (G0 84 11) (rat G0 31 4 p1) _) mM_X2_142 bX6_put rowB_121.1 rfl rfl ⟨Nat.le_of_ble_eq_true rfl, Nat.le_of_ble_eq_true rfl, Nat.zero_le _, Nat.zero_le _⟩ _ rfl (Nat.le_of_ble_eq_true rfl) (fun r234 G21 hq => ?_)
    obtain ⟨rfl, hq⟩ := hq
    replace hw := pt_eq hw hq
    refine aw_aloadn C dX2_performControl_237 rfl ?_
    refine aw_getR (r := 106) C dX2_performControl_238 kcX2 shB_84 3 (by decide) rfl mF_X2_21 ?_
    refine aw_getR (r := 123) C dX2_performControl_241 kcX1 shB_106 8 (by decide) rfl mF_X2_212 ?_
    refine aw_aloadn C dX2_performControl_244 rfl ?_
    refine aw_getI C dX2_performControl_245 kcX2 shB_84 11 (by decide) rfl mF_X2_91 ?_
    refine aw_iconst (v := 1) C dX2_performControl_248 (by decide) ?_
    refine aw_callV C dX2_performControl_249 (t_put rowB_123 (Nat.le_of_ble_eq_true rfl) (G21 84 11) 1 _) mM_X2_142 bX6_put rowB_123.1 rfl rfl ⟨Nat.le_of_ble_eq_true rfl, Nat.le_of_ble_eq_true rfl, Nat.zero_le _, Nat.zero_le _⟩ _ rfl (Nat.le_of_ble_eq_true rfl) (fun r249 G22 hq => ?_)
    obtain ⟨rfl, hq⟩ := hq
    replace hw := pt_eq hw hq
    refine aw_aloadn C dX2_performControl_252 rfl ?_
    refine aw_getR (r := 19) C dX2_performControl_253 kcX2 shB_84 1 (by decide) rfl mF_X2_43 ?_
    refine aw_getR (r := 30) C dX2_performControl_256 kcX9 (worldS_19 shOK_B).1 2 (by decide) rfl mF_X2_236 ?_
    refine aw_iloadn C dX2_performControl_259 rfl ?_
    refine aw_aloadn C dX2_performControl_260 rfl ?_
    refine aw_getI C dX2_performControl_261 kcX2 shB_84 16 (by decide) rfl mF_X2_78 ?_
    refine aw_callV C dX2_performControl_264 (t_put (rowS_30 shOK_B) (Nat.le_of_ble_eq_true rfl) p1 (G22 84 16) _) mM_X2_142 bX6_put (rowS_30 shOK_B).1 rfl rfl ⟨Nat.le_of_ble_eq_true rfl, Nat.le_of_ble_eq_true rfl, Nat.zero_le _, Nat.zero_le _⟩ _ rfl (Nat.le_of_ble_eq_true rfl) (fun r264 G23 hq => ?_)
    obtain ⟨rfl, hq⟩ := hq
    replace hw := pt_eq hw hq
    refine aw_goto (tgt := 296) C dX2_performControl_267 (by decide) ?_
    exact aw_msk [false, false, false] (h296 _ hw)
  refine sw_if hw (fun ha1_27 hw => ?_) (fun ha1_27 hw => ?_)
  · refine aw_tab C 270 dX2_performControl_1 ha1_27 (by decide) (by decide) rfl (by decide) ?_
    refine aw_aloadn C dX2_performControl_270 rfl ?_
    refine aw_aloadn C dX2_performControl_271 rfl ?_
    refine aw_getR (r := 19) C dX2_performControl_272 kcX2 shB_84 1 (by decide) rfl mF_X2_43 ?_
    refine aw_getR (r := 30) C dX2_performControl_275 kcX9 (worldS_19 shOK_B).1 2 (by decide) rfl mF_X2_236 ?_
    refine aw_iloadn C dX2_performControl_278 rfl ?_
    refine aw_callV C dX2_performControl_279 (t_at (rowS_30 shOK_B) (Nat.le_of_ble_eq_true rfl) p1 _) mM_X2_119 bX6_at (rowS_30 shOK_B).1 rfl rfl ⟨Nat.le_of_ble_eq_true rfl, Nat.le_of_ble_eq_true rfl, Nat.zero_le _, Nat.zero_le _⟩ _ rfl (Nat.le_of_ble_eq_true rfl) (fun r279 G279x hq => ?_)
    obtain ⟨rfl, rfl⟩ := hq
    refine aw_putI C dX2_performControl_282 kcX2 shB_84 16 (by decide) rfl mF_X2_78 rfl rfl rfl hw (fun G24 hw => ?_)
    refine aw_goto (tgt := 296) C dX2_performControl_285 (by decide) ?_
    exact aw_msk [false, false, false] (h296 _ hw)
  refine sw_if hw (fun ha1_28 hw => ?_) (fun ha1_28 hw => ?_)
  · refine aw_tab C 288 dX2_performControl_1 ha1_28 (by decide) (by decide) rfl (by decide) ?_
    refine aw_aloadn C dX2_performControl_288 rfl ?_
    refine aw_iloadn C dX2_performControl_289 rfl ?_
    refine aw_callV C dX2_performControl_290 (t_X2_stay p1 _ _ hw) mM_X2_304 bX2_stay shB_84 rfl rfl ⟨Nat.le_of_ble_eq_true rfl, Nat.le_of_ble_eq_true rfl, Nat.zero_le _, Nat.zero_le _⟩ _ rfl (Nat.le_of_ble_eq_true rfl) (fun r290 G25 hq => ?_)
    obtain ⟨rfl, hw⟩ := hq
    refine aw_goto (tgt := 296) C dX2_performControl_293 (by decide) ?_
    exact aw_msk [false, false, false] (h296 _ hw)
  refine aw_tabDef C 296 dX2_performControl_1 14 (by decide) (by decide) (by decide) (fun i hi h => ?_) (by decide) ?_
  · exact match i, hi, h with
      | 0, _, h => absurd (h.trans (by decide)) ha1_14
      | 1, _, h => absurd (h.trans (by decide)) ha1_15
      | 2, _, h => absurd (h.trans (by decide)) ha1_16
      | 3, _, h => absurd (h.trans (by decide)) ha1_17
      | 4, _, h => absurd (h.trans (by decide)) ha1_18
      | 5, _, h => absurd (h.trans (by decide)) ha1_19
      | 6, _, h => rfl
      | 7, _, h => rfl
      | 8, _, h => absurd (h.trans (by decide)) ha1_22
      | 9, _, h => absurd (h.trans (by decide)) ha1_23
      | 10, _, h => absurd (h.trans (by decide)) ha1_24
      | 11, _, h => absurd (h.trans (by decide)) ha1_25
      | 12, _, h => absurd (h.trans (by decide)) ha1_26
      | 13, _, h => absurd (h.trans (by decide)) ha1_27
      | 14, _, h => absurd (h.trans (by decide)) ha1_28
      | i + 15, hi, _ => absurd hi (by omega)
  exact aw_msk [false, false, false] (h296 _ hw)
def w_X2_open (q2 : Nat) (K : Gt → Prop) (p0 : Int32) (p1 : Int32) (G0 : Gt) : Prop :=
  w_X9_become 85 19 (fun G1 =>
    w_X7_clear (fun G2 =>
      w_X3_clear (fun G3 =>
        pt (gu G3 84 6 (if q2 = 40 then 0 else 1)) fun G4 =>
        pt (gu G4 84 9 p1) fun G5 =>
        pt (gu G5 84 10 0) fun G6 =>
        pt (gu G6 84 8 0) fun G7 =>
        pt (gu G7 84 13 (-1)) fun G8 =>
        pt (gu G8 84 14 0) fun G9 =>
        pt (gu G9 84 15 0) fun G10 =>
        pt (gu G10 84 16 0) fun G11 =>
        pt (gu G11 84 17 50000) fun G12 =>
        pt (gu G12 84 18 (-1)) fun G13 =>
        pt (gu G13 84 19 0) fun G14 =>
        pt (gu G14 84 11 (-1)) fun G15 =>
        pt (gu G15 84 7 1) fun G16 =>
        w_X7_open (fun v18 G17 =>
          w_X2_begin (fun G19 =>
            K G19) p0 v18 1 G17) (-1) G16) G2) G1) G0
set_option maxHeartbeats 4000000 in
set_option maxRecDepth 100000 in
theorem t_X2_open {l : Launch} {q2 : Nat} (hq2 : q2 = 40 ∨ q2 = 43) (p0 : Int32) (p1 : Int32) (G0 : Gt) (K : Gt → Prop) (hw : w_X2_open q2 K p0 p1 G0) : CT0 l yX2_open cX2_open 4 none 5 124 [.ref 84, .int p0, .int p1, .ref q2] shB G0 (fun r G' => r = none ∧ K G') := by
  refine CT0_of (by decide) (Nat.le_of_ble_eq_true rfl) rfl ?_
  intro p e s m args below meth c D tA ad A C hr _
  unfold w_X2_open at hw
  show aw p l e { frames := 5, cells := 0, slots := 0, locals := 124 } s m args below meth c 4 D tA A (MQ below (QC0 D tA ad A shB (fun r G' => r = none ∧ K G')) args s 0 0 A) 0 0 ad 0 [some (.ref 84), some (.int p0), some (.int p1), some (.ref q2)] [] shB G0
  refine aw_aloadn C dX2_open_0 rfl ?_
  refine aw_getR (r := 85) C dX2_open_1 kcX2 shB_84 2 (by decide) rfl mF_X2_12 ?_
  refine aw_aloadn C dX2_open_4 rfl ?_
  refine aw_getR (r := 19) C dX2_open_5 kcX2 shB_84 1 (by decide) rfl mF_X2_43 ?_
  refine aw_callV C dX2_open_8 (t_X9_become worldB_85 (worldS_19 shOK_B) _ _ hw) mM_X2_50 bX9_become worldB_85.1 rfl rfl ⟨Nat.le_of_ble_eq_true rfl, Nat.le_of_ble_eq_true rfl, Nat.zero_le _, Nat.zero_le _⟩ _ rfl (Nat.le_of_ble_eq_true rfl) (fun r8 G1 hq => ?_)
  obtain ⟨rfl, hw⟩ := hq
  refine aw_aloadn C dX2_open_11 rfl ?_
  refine aw_getR (r := 129) C dX2_open_12 kcX2 shB_84 4 (by decide) rfl mF_X2_28 ?_
  refine aw_callV C dX2_open_15 (t_X7_clear _ _ hw) mM_X2_54 bX7_clear shB_129 rfl rfl ⟨Nat.le_of_ble_eq_true rfl, Nat.le_of_ble_eq_true rfl, Nat.zero_le _, Nat.zero_le _⟩ _ rfl (Nat.le_of_ble_eq_true rfl) (fun r15 G2 hq => ?_)
  obtain ⟨rfl, hw⟩ := hq
  refine aw_aloadn C dX2_open_18 rfl ?_
  refine aw_getR (r := 134) C dX2_open_19 kcX2 shB_84 5 (by decide) rfl mF_X2_35 ?_
  refine aw_callV C dX2_open_22 (t_X3_clear _ _ hw) mM_X2_57 bX3_clear shB_134 rfl rfl ⟨Nat.le_of_ble_eq_true rfl, Nat.le_of_ble_eq_true rfl, Nat.zero_le _, Nat.zero_le _⟩ _ rfl (Nat.le_of_ble_eq_true rfl) (fun r22 G3 hq => ?_)
  obtain ⟨rfl, hw⟩ := hq
  refine aw_aloadn C dX2_open_25 rfl ?_
  refine aw_aloadn C dX2_open_26 rfl ?_
  refine aw_putC C dX2_open_27 kcX2 shB_84 6 (by decide) rfl hq2 mF_X2_46 rfl (on := RX5) rfl hw (fun G4 hw => ?_)
  refine aw_aloadn C dX2_open_30 rfl ?_
  refine aw_iloadn C dX2_open_31 rfl ?_
  refine aw_putI C dX2_open_32 kcX2 shB_84 9 (by decide) rfl mF_X2_58 rfl rfl rfl hw (fun G5 hw => ?_)
  refine aw_aloadn C dX2_open_35 rfl ?_
  refine aw_iconst (v := 0) C dX2_open_36 (by decide) ?_
  refine aw_putI C dX2_open_37 kcX2 shB_84 10 (by decide) rfl mF_X2_62 rfl rfl rfl hw (fun G6 hw => ?_)
  refine aw_aloadn C dX2_open_40 rfl ?_
  refine aw_iconst (v := 0) C dX2_open_41 (by decide) ?_
  refine aw_putI C dX2_open_42 kcX2 shB_84 8 (by decide) rfl mF_X2_65 rfl rfl rfl hw (fun G7 hw => ?_)
  refine aw_aloadn C dX2_open_45 rfl ?_
  refine aw_iconst (v := (-1)) C dX2_open_46 (by decide) ?_
  refine aw_putI C dX2_open_47 kcX2 shB_84 13 (by decide) rfl mF_X2_68 rfl rfl rfl hw (fun G8 hw => ?_)
  refine aw_aloadn C dX2_open_50 rfl ?_
  refine aw_iconst (v := 0) C dX2_open_51 (by decide) ?_
  refine aw_putI C dX2_open_52 kcX2 shB_84 14 (by decide) rfl mF_X2_71 rfl rfl rfl hw (fun G9 hw => ?_)
  refine aw_aloadn C dX2_open_55 rfl ?_
  refine aw_iconst (v := 0) C dX2_open_56 (by decide) ?_
  refine aw_putI C dX2_open_57 kcX2 shB_84 15 (by decide) rfl mF_X2_75 rfl rfl rfl hw (fun G10 hw => ?_)
  refine aw_aloadn C dX2_open_60 rfl ?_
  refine aw_iconst (v := 0) C dX2_open_61 (by decide) ?_
  refine aw_putI C dX2_open_62 kcX2 shB_84 16 (by decide) rfl mF_X2_78 rfl rfl rfl hw (fun G11 hw => ?_)
  refine aw_aloadn C dX2_open_65 rfl ?_
  refine aw_ldc (v := 50000) C dX2_open_66 mK_X2_81 ?_
  refine aw_putI C dX2_open_68 kcX2 shB_84 17 (by decide) rfl mF_X2_82 rfl rfl rfl hw (fun G12 hw => ?_)
  refine aw_aloadn C dX2_open_71 rfl ?_
  refine aw_iconst (v := (-1)) C dX2_open_72 (by decide) ?_
  refine aw_putI C dX2_open_73 kcX2 shB_84 18 (by decide) rfl mF_X2_85 rfl rfl rfl hw (fun G13 hw => ?_)
  refine aw_aloadn C dX2_open_76 rfl ?_
  refine aw_iconst (v := 0) C dX2_open_77 (by decide) ?_
  refine aw_putI C dX2_open_78 kcX2 shB_84 19 (by decide) rfl mF_X2_88 rfl rfl rfl hw (fun G14 hw => ?_)
  refine aw_aloadn C dX2_open_81 rfl ?_
  refine aw_iconst (v := (-1)) C dX2_open_82 (by decide) ?_
  refine aw_putI C dX2_open_83 kcX2 shB_84 11 (by decide) rfl mF_X2_91 rfl rfl rfl hw (fun G15 hw => ?_)
  refine aw_aloadn C dX2_open_86 rfl ?_
  refine aw_iconst (v := 1) C dX2_open_87 (by decide) ?_
  refine aw_putI C dX2_open_88 kcX2 shB_84 7 (by decide) rfl mF_X2_94 rfl rfl rfl hw (fun G16 hw => ?_)
  refine aw_aloadn C dX2_open_91 rfl ?_
  refine aw_iloadn C dX2_open_92 rfl ?_
  refine aw_aloadn C dX2_open_93 rfl ?_
  refine aw_getR (r := 129) C dX2_open_94 kcX2 shB_84 4 (by decide) rfl mF_X2_28 ?_
  refine aw_iconst (v := (-1)) C dX2_open_97 (by decide) ?_
  refine aw_callV C dX2_open_98 (t_X7_open (-1) _ _ hw) mM_X2_97 bX7_open shB_129 rfl rfl ⟨Nat.le_of_ble_eq_true rfl, Nat.le_of_ble_eq_true rfl, Nat.zero_le _, Nat.zero_le _⟩ _ rfl (Nat.le_of_ble_eq_true rfl) (fun r98 G17 hq => ?_)
  obtain ⟨v18, rfl, hw⟩ := hq
  refine aw_iconst (v := 1) C dX2_open_101 (by decide) ?_
  refine aw_callV C dX2_open_102 (t_X2_begin p0 v18 1 _ _ hw) mM_X2_101 bX2_begin shB_84 rfl rfl ⟨Nat.le_of_ble_eq_true rfl, Nat.le_of_ble_eq_true rfl, Nat.zero_le _, Nat.zero_le _⟩ _ rfl (Nat.le_of_ble_eq_true rfl) (fun r102 G19 hq => ?_)
  obtain ⟨rfl, hw⟩ := hq
  exact aw_return C hr dX2_open_105 ⟨rfl, hw⟩
