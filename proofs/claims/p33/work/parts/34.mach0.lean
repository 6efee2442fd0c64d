def w_X2_waitingNode (K : Int32 → Gt → Prop) (G0 : Gt) : Prop :=
  K (rat G0 108 601 (G0 84 11)) G0
set_option maxHeartbeats 4000000 in
set_option maxRecDepth 100000 in
theorem t_X2_waitingNode {l : Launch}  (G0 : Gt) (K : Int32 → Gt → Prop) (hw : w_X2_waitingNode K G0) : CT0 l yX2_waitingNode cX2_waitingNode 1 (some .int) 1 21 [.ref 84] shB G0 (fun r G' => ∃ v, r = some (.int v) ∧ K v G') := by
  refine CT0_of (by decide) (Nat.le_of_ble_eq_true rfl) rfl ?_
  intro p e s m args below meth c D tA ad A C hr _
  unfold w_X2_waitingNode at hw
  show aw p l e { frames := 1, cells := 0, slots := 0, locals := 21 } s m args below meth c 1 D tA A (MQ below (QC0 D tA ad A shB (fun r G' => ∃ v, r = some (.int v) ∧ K v G')) args s 0 0 A) 0 0 ad 0 [some (.ref 84)] [] shB G0
  refine aw_aloadn C dX2_waitingNode_0 rfl ?_
  refine aw_getR (r := 106) C dX2_waitingNode_1 kcX2 shB_84 3 (by decide) rfl mF_X2_21 ?_
  refine aw_getR (r := 107) C dX2_waitingNode_4 kcX1 shB_106 0 (by decide) rfl mF_X2_167 ?_
  refine aw_aloadn C dX2_waitingNode_7 rfl ?_
  refine aw_getI C dX2_waitingNode_8 kcX2 shB_84 11 (by decide) rfl mF_X2_91 ?_
  refine aw_callV C dX2_waitingNode_11 (t_at rowB_107 (Nat.le_of_ble_eq_true rfl) (G0 84 11) _) mM_X2_119 bX6_at rowB_107.1 rfl rfl ⟨Nat.le_of_ble_eq_true rfl, Nat.le_of_ble_eq_true rfl, Nat.zero_le _, Nat.zero_le _⟩ _ rfl (Nat.le_of_ble_eq_true rfl) (fun r11 G11x hq => ?_)
  obtain ⟨rfl, rfl⟩ := hq
  exact aw_ireturn C hr dX2_waitingNode_14 ⟨_, rfl, hw⟩
def w_X2_begin (K : Gt → Prop) (p0 : Int32) (p1 : Int32) (p2 : Int32) (G0 : Gt) : Prop :=
  pt (rput G0 108 601 (G0 84 10) p0) fun G1 =>
  pt (rput G1 110 601 (G0 84 10) (G1 84 11)) fun G2 =>
  pt (rput G2 112 601 (G0 84 10) p1) fun G3 =>
  pt (rput G3 114 601 (G0 84 10) p2) fun G4 =>
  pt (rput G4 116 601 (G0 84 10) (rat G4 13 120 p0)) fun G5 =>
  pt (rput G5 118 601 (G0 84 10) 0) fun G6 =>
  pt (rput G6 120 601 (G0 84 10) (-1)) fun G7 =>
  pt (rput G7 124 601 (G0 84 10) 0) fun G8 =>
  pt (gu G8 84 11 (G0 84 10)) fun G9 =>
  pt (gu G9 84 12 1) fun G10 =>
  K G10
set_option maxHeartbeats 4000000 in
set_option maxRecDepth 100000 in
theorem t_X2_begin {l : Launch}  (p0 : Int32) (p1 : Int32) (p2 : Int32) (G0 : Gt) (K : Gt → Prop) (hw : w_X2_begin K p0 p1 p2 G0) : CT0 l yX2_begin cX2_begin 5 none 1 22 [.ref 84, .int p0, .int p1, .int p2] shB G0 (fun r G' => r = none ∧ K G') := by
  refine CT0_of (by decide) (Nat.le_of_ble_eq_true rfl) rfl ?_
  intro p e s m args below meth c D tA ad A C hr _
  unfold w_X2_begin at hw
  show aw p l e { frames := 1, cells := 0, slots := 0, locals := 22 } s m args below meth c 5 D tA A (MQ below (QC0 D tA ad A shB (fun r G' => r = none ∧ K G')) args s 0 0 A) 0 0 ad 0 [some (.ref 84), some (.int p0), some (.int p1), some (.int p2), none] [] shB G0
  refine aw_aloadn C dX2_begin_0 rfl ?_
  refine aw_getI C dX2_begin_1 kcX2 shB_84 10 (by decide) rfl mF_X2_62 ?_
  refine aw_istore C dX2_begin_4 (by decide) rfl ?_
  refine aw_aloadn C dX2_begin_6 rfl ?_
  refine aw_getR (r := 106) C dX2_begin_7 kcX2 shB_84 3 (by decide) rfl mF_X2_21 ?_
  refine aw_getR (r := 107) C dX2_begin_10 kcX1 shB_106 0 (by decide) rfl mF_X2_167 ?_
  refine aw_iload C dX2_begin_13 rfl ?_
  refine aw_iloadn C dX2_begin_15 rfl ?_
  refine aw_callV C dX2_begin_16 (t_put rowB_107 (Nat.le_of_ble_eq_true rfl) (G0 84 10) p0 _) mM_X2_142 bX6_put rowB_107.1 rfl rfl ⟨Nat.le_of_ble_eq_true rfl, Nat.le_of_ble_eq_true rfl, Nat.zero_le _, Nat.zero_le _⟩ _ rfl (Nat.le_of_ble_eq_true rfl) (fun r16 G1 hq => ?_)
  obtain ⟨rfl, hq⟩ := hq
  replace hw := pt_eq hw hq
  refine aw_aloadn C dX2_begin_19 rfl ?_
  refine aw_getR (r := 106) C dX2_begin_20 kcX2 shB_84 3 (by decide) rfl mF_X2_21 ?_
  refine aw_getR (r := 109) C dX2_begin_23 kcX1 shB_106 1 (by decide) rfl mF_X2_200 ?_
  refine aw_iload C dX2_begin_26 rfl ?_
  refine aw_aloadn C dX2_begin_28 rfl ?_
  refine aw_getI C dX2_begin_29 kcX2 shB_84 11 (by decide) rfl mF_X2_91 ?_
  refine aw_callV C dX2_begin_32 (t_put rowB_109 (Nat.le_of_ble_eq_true rfl) (G0 84 10) (G1 84 11) _) mM_X2_142 bX6_put rowB_109.1 rfl rfl ⟨Nat.le_of_ble_eq_true rfl, Nat.le_of_ble_eq_true rfl, Nat.zero_le _, Nat.zero_le _⟩ _ rfl (Nat.le_of_ble_eq_true rfl) (fun r32 G2 hq => ?_)
  obtain ⟨rfl, hq⟩ := hq
  replace hw := pt_eq hw hq
  refine aw_aloadn C dX2_begin_35 rfl ?_
  refine aw_getR (r := 106) C dX2_begin_36 kcX2 shB_84 3 (by decide) rfl mF_X2_21 ?_
  refine aw_getR (r := 111) C dX2_begin_39 kcX1 shB_106 2 (by decide) rfl mF_X2_170 ?_
  refine aw_iload C dX2_begin_42 rfl ?_
  refine aw_iloadn C dX2_begin_44 rfl ?_
  refine aw_callV C dX2_begin_45 (t_put rowB_111 (Nat.le_of_ble_eq_true rfl) (G0 84 10) p1 _) mM_X2_142 bX6_put rowB_111.1 rfl rfl ⟨Nat.le_of_ble_eq_true rfl, Nat.le_of_ble_eq_true rfl, Nat.zero_le _, Nat.zero_le _⟩ _ rfl (Nat.le_of_ble_eq_true rfl) (fun r45 G3 hq => ?_)
  obtain ⟨rfl, hq⟩ := hq
  replace hw := pt_eq hw hq
  refine aw_aloadn C dX2_begin_48 rfl ?_
  refine aw_getR (r := 106) C dX2_begin_49 kcX2 shB_84 3 (by decide) rfl mF_X2_21 ?_
  refine aw_getR (r := 113) C dX2_begin_52 kcX1 shB_106 3 (by decide) rfl mF_X2_203 ?_
  refine aw_iload C dX2_begin_55 rfl ?_
  refine aw_iloadn C dX2_begin_57 rfl ?_
  refine aw_callV C dX2_begin_58 (t_put rowB_113 (Nat.le_of_ble_eq_true rfl) (G0 84 10) p2 _) mM_X2_142 bX6_put rowB_113.1 rfl rfl ⟨Nat.le_of_ble_eq_true rfl, Nat.le_of_ble_eq_true rfl, Nat.zero_le _, Nat.zero_le _⟩ _ rfl (Nat.le_of_ble_eq_true rfl) (fun r58 G4 hq => ?_)
  obtain ⟨rfl, hq⟩ := hq
  replace hw := pt_eq hw hq
  refine aw_aloadn C dX2_begin_61 rfl ?_
  refine aw_getR (r := 106) C dX2_begin_62 kcX2 shB_84 3 (by decide) rfl mF_X2_21 ?_
  refine aw_getR (r := 115) C dX2_begin_65 kcX1 shB_106 4 (by decide) rfl mF_X2_127 ?_
  refine aw_iload C dX2_begin_68 rfl ?_
  refine aw_aloadn C dX2_begin_70 rfl ?_
  refine aw_getR (r := 1) C dX2_begin_71 kcX2 shB_84 0 (by decide) rfl mF_X2_39 ?_
  refine aw_getR (r := 12) C dX2_begin_74 kcX4 shB_1 5 (by decide) rfl mF_X2_206 ?_
  refine aw_iloadn C dX2_begin_77 rfl ?_
  refine aw_callV C dX2_begin_78 (t_at (rowS_12 shOK_B) (Nat.le_of_ble_eq_true rfl) p0 _) mM_X2_119 bX6_at (rowS_12 shOK_B).1 rfl rfl ⟨Nat.le_of_ble_eq_true rfl, Nat.le_of_ble_eq_true rfl, Nat.zero_le _, Nat.zero_le _⟩ _ rfl (Nat.le_of_ble_eq_true rfl) (fun r78 G78x hq => ?_)
  obtain ⟨rfl, rfl⟩ := hq
  refine aw_callV C dX2_begin_81 (t_put rowB_115 (Nat.le_of_ble_eq_true rfl) (G0 84 10) (rat G4 13 120 p0) _) mM_X2_142 bX6_put rowB_115.1 rfl rfl ⟨Nat.le_of_ble_eq_true rfl, Nat.le_of_ble_eq_true rfl, Nat.zero_le _, Nat.zero_le _⟩ _ rfl (Nat.le_of_ble_eq_true rfl) (fun r81 G5 hq => ?_)
  obtain ⟨rfl, hq⟩ := hq
  replace hw := pt_eq hw hq
  refine aw_aloadn C dX2_begin_84 rfl ?_
  refine aw_getR (r := 106) C dX2_begin_85 kcX2 shB_84 3 (by decide) rfl mF_X2_21 ?_
  refine aw_getR (r := 117) C dX2_begin_88 kcX1 shB_106 5 (by decide) rfl mF_X2_209 ?_
  refine aw_iload C dX2_begin_91 rfl ?_
  refine aw_iconst (v := 0) C dX2_begin_93 (by decide) ?_
  refine aw_callV C dX2_begin_94 (t_put rowB_117 (Nat.le_of_ble_eq_true rfl) (G0 84 10) 0 _) mM_X2_142 bX6_put rowB_117.1 rfl rfl ⟨Nat.le_of_ble_eq_true rfl, Nat.le_of_ble_eq_true rfl, Nat.zero_le _, Nat.zero_le _⟩ _ rfl (Nat.le_of_ble_eq_true rfl) (fun r94 G6 hq => ?_)
  obtain ⟨rfl, hq⟩ := hq
  replace hw := pt_eq hw hq
  refine aw_aloadn C dX2_begin_97 rfl ?_
  refine aw_getR (r := 106) C dX2_begin_98 kcX2 shB_84 3 (by decide) rfl mF_X2_21 ?_
  refine aw_getR (r := 119) C dX2_begin_101 kcX1 shB_106 6 (by decide) rfl mF_X2_197 ?_
  refine aw_iload C dX2_begin_104 rfl ?_
  refine aw_iconst (v := (-1)) C dX2_begin_106 (by decide) ?_
  refine aw_callV C dX2_begin_107 (t_put rowB_119 (Nat.le_of_ble_eq_true rfl) (G0 84 10) (-1) _) mM_X2_142 bX6_put rowB_119.1 rfl rfl ⟨Nat.le_of_ble_eq_true rfl, Nat.le_of_ble_eq_true rfl, Nat.zero_le _, Nat.zero_le _⟩ _ rfl (Nat.le_of_ble_eq_true rfl) (fun r107 G7 hq => ?_)
  obtain ⟨rfl, hq⟩ := hq
  replace hw := pt_eq hw hq
  refine aw_aloadn C dX2_begin_110 rfl ?_
  refine aw_getR (r := 106) C dX2_begin_111 kcX2 shB_84 3 (by decide) rfl mF_X2_21 ?_
  refine aw_getR (r := 123) C dX2_begin_114 kcX1 shB_106 8 (by decide) rfl mF_X2_212 ?_
  refine aw_iload C dX2_begin_117 rfl ?_
  refine aw_iconst (v := 0) C dX2_begin_119 (by decide) ?_
  refine aw_callV C dX2_begin_120 (t_put rowB_123 (Nat.le_of_ble_eq_true rfl) (G0 84 10) 0 _) mM_X2_142 bX6_put rowB_123.1 rfl rfl ⟨Nat.le_of_ble_eq_true rfl, Nat.le_of_ble_eq_true rfl, Nat.zero_le _, Nat.zero_le _⟩ _ rfl (Nat.le_of_ble_eq_true rfl) (fun r120 G8 hq => ?_)
  obtain ⟨rfl, hq⟩ := hq
  replace hw := pt_eq hw hq
  refine aw_aloadn C dX2_begin_123 rfl ?_
  refine aw_iload C dX2_begin_124 rfl ?_
  refine aw_putI C dX2_begin_126 kcX2 shB_84 11 (by decide) rfl mF_X2_91 rfl rfl rfl hw (fun G9 hw => ?_)
  refine aw_aloadn C dX2_begin_129 rfl ?_
  refine aw_iconst (v := 1) C dX2_begin_130 (by decide) ?_
  refine aw_putI C dX2_begin_131 kcX2 shB_84 12 (by decide) rfl mF_X2_106 rfl rfl rfl hw (fun G10 hw => ?_)
  exact aw_return C hr dX2_begin_134 ⟨rfl, hw⟩
def w_X2_fail (K : Gt → Prop) (p0 : Int32) (G0 : Gt) : Prop :=
  pt (gu G0 84 15 1) fun G1 =>
  pt (gu G1 84 16 p0) fun G2 =>
  pt (gu G2 84 17 50000) fun G3 =>
  pt (gu G3 84 18 (G3 84 11)) fun G4 =>
  pt (rput G4 120 601 (G4 84 11) (G4 84 13)) fun G5 =>
  pt (rput G5 116 601 (G5 84 11) (rat G5 118 601 (G5 84 11))) fun G6 =>
  pt (rput G6 118 601 (G6 84 11) 0) fun G7 =>
  K G7
set_option maxHeartbeats 4000000 in
set_option maxRecDepth 100000 in
theorem t_X2_fail {l : Launch}  (p0 : Int32) (G0 : Gt) (K : Gt → Prop) (hw : w_X2_fail K p0 G0) : CT0 l yX2_fail cX2_fail 2 none 1 22 [.ref 84, .int p0] shB G0 (fun r G' => r = none ∧ K G') := by
  refine CT0_of (by decide) (Nat.le_of_ble_eq_true rfl) rfl ?_
  intro p e s m args below meth c D tA ad A C hr _
  unfold w_X2_fail at hw
  show aw p l e { frames := 1, cells := 0, slots := 0, locals := 22 } s m args below meth c 2 D tA A (MQ below (QC0 D tA ad A shB (fun r G' => r = none ∧ K G')) args s 0 0 A) 0 0 ad 0 [some (.ref 84), some (.int p0)] [] shB G0
  refine aw_aloadn C dX2_fail_0 rfl ?_
  refine aw_iconst (v := 1) C dX2_fail_1 (by decide) ?_
  refine aw_putI C dX2_fail_2 kcX2 shB_84 15 (by decide) rfl mF_X2_75 rfl rfl rfl hw (fun G1 hw => ?_)
  refine aw_aloadn C dX2_fail_5 rfl ?_
  refine aw_iloadn C dX2_fail_6 rfl ?_
  refine aw_putI C dX2_fail_7 kcX2 shB_84 16 (by decide) rfl mF_X2_78 rfl rfl rfl hw (fun G2 hw => ?_)
  refine aw_aloadn C dX2_fail_10 rfl ?_
  refine aw_ldc (v := 50000) C dX2_fail_11 mK_X2_81 ?_
  refine aw_putI C dX2_fail_13 kcX2 shB_84 17 (by decide) rfl mF_X2_82 rfl rfl rfl hw (fun G3 hw => ?_)
  refine aw_aloadn C dX2_fail_16 rfl ?_
  refine aw_aloadn C dX2_fail_17 rfl ?_
  refine aw_getI C dX2_fail_18 kcX2 shB_84 11 (by decide) rfl mF_X2_91 ?_
  refine aw_putI C dX2_fail_21 kcX2 shB_84 18 (by decide) rfl mF_X2_85 rfl rfl rfl hw (fun G4 hw => ?_)
  refine aw_aloadn C dX2_fail_24 rfl ?_
  refine aw_getR (r := 106) C dX2_fail_25 kcX2 shB_84 3 (by decide) rfl mF_X2_21 ?_
  refine aw_getR (r := 119) C dX2_fail_28 kcX1 shB_106 6 (by decide) rfl mF_X2_197 ?_
  refine aw_aloadn C dX2_fail_31 rfl ?_
  refine aw_getI C dX2_fail_32 kcX2 shB_84 11 (by decide) rfl mF_X2_91 ?_
  refine aw_aloadn C dX2_fail_35 rfl ?_
  refine aw_getI C dX2_fail_36 kcX2 shB_84 13 (by decide) rfl mF_X2_68 ?_
  refine aw_callV C dX2_fail_39 (t_put rowB_119 (Nat.le_of_ble_eq_true rfl) (G4 84 11) (G4 84 13) _) mM_X2_142 bX6_put rowB_119.1 rfl rfl ⟨Nat.le_of_ble_eq_true rfl, Nat.le_of_ble_eq_true rfl, Nat.zero_le _, Nat.zero_le _⟩ _ rfl (Nat.le_of_ble_eq_true rfl) (fun r39 G5 hq => ?_)
  obtain ⟨rfl, hq⟩ := hq
  replace hw := pt_eq hw hq
  refine aw_aloadn C dX2_fail_42 rfl ?_
  refine aw_getR (r := 106) C dX2_fail_43 kcX2 shB_84 3 (by decide) rfl mF_X2_21 ?_
  refine aw_getR (r := 115) C dX2_fail_46 kcX1 shB_106 4 (by decide) rfl mF_X2_127 ?_
  refine aw_aloadn C dX2_fail_49 rfl ?_
  refine aw_getI C dX2_fail_50 kcX2 shB_84 11 (by decide) rfl mF_X2_91 ?_
  refine aw_aloadn C dX2_fail_53 rfl ?_
  refine aw_getR (r := 106) C dX2_fail_54 kcX2 shB_84 3 (by decide) rfl mF_X2_21 ?_
  refine aw_getR (r := 117) C dX2_fail_57 kcX1 shB_106 5 (by decide) rfl mF_X2_209 ?_
  refine aw_aloadn C dX2_fail_60 rfl ?_
  refine aw_getI C dX2_fail_61 kcX2 shB_84 11 (by decide) rfl mF_X2_91 ?_
  refine aw_callV C dX2_fail_64 (t_at rowB_117 (Nat.le_of_ble_eq_true rfl) (G5 84 11) _) mM_X2_119 bX6_at rowB_117.1 rfl rfl ⟨Nat.le_of_ble_eq_true rfl, Nat.le_of_ble_eq_true rfl, Nat.zero_le _, Nat.zero_le _⟩ _ rfl (Nat.le_of_ble_eq_true rfl) (fun r64 G64x hq => ?_)
  obtain ⟨rfl, rfl⟩ := hq
  refine aw_callV C dX2_fail_67 (t_put rowB_115 (Nat.le_of_ble_eq_true rfl) (G5 84 11) (rat G5 118 601 (G5 84 11)) _) mM_X2_142 bX6_put rowB_115.1 rfl rfl ⟨Nat.le_of_ble_eq_true rfl, Nat.le_of_ble_eq_true rfl, Nat.zero_le _, Nat.zero_le _⟩ _ rfl (Nat.le_of_ble_eq_true rfl) (fun r67 G6 hq => ?_)
  obtain ⟨rfl, hq⟩ := hq
  replace hw := pt_eq hw hq
  refine aw_aloadn C dX2_fail_70 rfl ?_
  refine aw_getR (r := 106) C dX2_fail_71 kcX2 shB_84 3 (by decide) rfl mF_X2_21 ?_
  refine aw_getR (r := 117) C dX2_fail_74 kcX1 shB_106 5 (by decide) rfl mF_X2_209 ?_
  refine aw_aloadn C dX2_fail_77 rfl ?_
  refine aw_getI C dX2_fail_78 kcX2 shB_84 11 (by decide) rfl mF_X2_91 ?_
  refine aw_iconst (v := 0) C dX2_fail_81 (by decide) ?_
  refine aw_callV C dX2_fail_82 (t_put rowB_117 (Nat.le_of_ble_eq_true rfl) (G6 84 11) 0 _) mM_X2_142 bX6_put rowB_117.1 rfl rfl ⟨Nat.le_of_ble_eq_true rfl, Nat.le_of_ble_eq_true rfl, Nat.zero_le _, Nat.zero_le _⟩ _ rfl (Nat.le_of_ble_eq_true rfl) (fun r82 G7 hq => ?_)
  obtain ⟨rfl, hq⟩ := hq
  replace hw := pt_eq hw hq
  exact aw_return C hr dX2_fail_85 ⟨rfl, hw⟩
def w_X2_jump (K : Gt → Prop) (p0 : Int32) (G0 : Gt) : Prop :=
  pt (rput G0 116 601 (G0 84 11) p0) fun G1 =>
  K G1
set_option maxHeartbeats 4000000 in
set_option maxRecDepth 100000 in
theorem t_X2_jump {l : Launch}  (p0 : Int32) (G0 : Gt) (K : Gt → Prop) (hw : w_X2_jump K p0 G0) : CT0 l yX2_jump cX2_jump 2 none 1 22 [.ref 84, .int p0] shB G0 (fun r G' => r = none ∧ K G') := by
  refine CT0_of (by decide) (Nat.le_of_ble_eq_true rfl) rfl ?_
  intro p e s m args below meth c D tA ad A C hr _
  unfold w_X2_jump at hw
  show aw p l e { frames := 1, cells := 0, slots := 0, locals := 22 } s m args below meth c 2 D tA A (MQ below (QC0 D tA ad A shB (fun r G' => r = none ∧ K G')) args s 0 0 A) 0 0 ad 0 [some (.ref 84), some (.int p0)] [] shB G0
  refine aw_aloadn C dX2_jump_0 rfl ?_
  refine aw_getR (r := 106) C dX2_jump_1 kcX2 shB_84 3 (by decide) rfl mF_X2_21 ?_
  refine aw_getR (r := 115) C dX2_jump_4 kcX1 shB_106 4 (by decide) rfl mF_X2_127 ?_
  refine aw_aloadn C dX2_jump_7 rfl ?_
  refine aw_getI C dX2_jump_8 kcX2 shB_84 11 (by decide) rfl mF_X2_91 ?_
  refine aw_iloadn C dX2_jump_11 rfl ?_
  refine aw_callV C dX2_jump_12 (t_put rowB_115 (Nat.le_of_ble_eq_true rfl) (G0 84 11) p0 _) mM_X2_142 bX6_put rowB_115.1 rfl rfl ⟨Nat.le_of_ble_eq_true rfl, Nat.le_of_ble_eq_true rfl, Nat.zero_le _, Nat.zero_le _⟩ _ rfl (Nat.le_of_ble_eq_true rfl) (fun r12 G1 hq => ?_)
  obtain ⟨rfl, hq⟩ := hq
  replace hw := pt_eq hw hq
  exact aw_return C hr dX2_jump_15 ⟨rfl, hw⟩
def w_X2_catchLeaving_j59 (K : Gt → Prop)  (G0 : Gt) : Prop :=
  K G0
def w_X2_catchLeaving_j37 (K : Gt → Prop) (x1 : Int32) (x2 : Int32) (G0 : Gt) : Prop :=
  pif (x2 = 0) (
    w_X2_catchLeaving_j59 K G0) (
    pif ((G0 84 15) = 3) (
      pt (gu G0 84 15 0) fun G1 =>
      w_X2_jump (fun G2 =>
        w_X2_catchLeaving_j59 K G2) x1 G1) (
      w_X2_catchLeaving_j59 K G0))
def w_X2_catchLeaving_j16 (K : Gt → Prop) (x1 : Int32) (y0 : Int32) (G0 : Gt) : Prop :=
  pif (y0 = 0) (
    w_X2_catchLeaving_j37 K x1 y0 G0) (
    pif ((G0 84 15) = 2) (
      pt (gu G0 84 15 0) fun G3 =>
      w_X2_catchLeaving_j59 K G3) (
      w_X2_catchLeaving_j37 K x1 y0 G0))
def w_X2_catchLeaving (K : Gt → Prop) (p0 : Int32) (G0 : Gt) : Prop :=
  pif ((G0 84 18) = (G0 84 11)) (
    w_X2_catchLeaving_j16 K p0 1 G0) (
    w_X2_catchLeaving_j16 K p0 0 G0)
set_option maxHeartbeats 4000000 in
set_option maxRecDepth 100000 in
theorem t_X2_catchLeaving {l : Launch}  (p0 : Int32) (G0 : Gt) (K : Gt → Prop) (hw : w_X2_catchLeaving K p0 G0) : CT0 l yX2_catchLeaving cX2_catchLeaving 3 none 2 43 [.ref 84, .int p0] shB G0 (fun r G' => r = none ∧ K G') := by
  refine CT0_of (by decide) (Nat.le_of_ble_eq_true rfl) rfl ?_
  intro p e s m args below meth c D tA ad A C hr _
  have h59 : ∀ (G0 : Gt), w_X2_catchLeaving_j59 K  G0 → aw p l e { frames := 2, cells := 0, slots := 0, locals := 43 } s m args below meth c 3 D tA A (MQ below (QC0 D tA ad A shB (fun r G' => r = none ∧ K G')) args s 0 0 A) 0 0 ad 59 [none, none, none] [] shB G0 := by
    intro   G0 hw
    unfold w_X2_catchLeaving_j59 at hw
    exact aw_return C hr dX2_catchLeaving_59 ⟨rfl, hw⟩
  have h37 : ∀ (x1 : Int32) (x2 : Int32) (G0 : Gt), w_X2_catchLeaving_j37 K x1 x2 G0 → aw p l e { frames := 2, cells := 0, slots := 0, locals := 43 } s m args below meth c 3 D tA A (MQ below (QC0 D tA ad A shB (fun r G' => r = none ∧ K G')) args s 0 0 A) 0 0 ad 37 [some (.ref 84), some (.int x1), some (.int x2)] [] shB G0 := by
    intro  x1 x2 G0 hw
    unfold w_X2_catchLeaving_j37 at hw
    refine aw_iloadn C dX2_catchLeaving_37 rfl ?_
    refine aw_if_eq C dX2_catchLeaving_38 59 (by decide) hw (fun hc38 hw => ?_) (fun hc38 hw => ?_)
    · exact aw_msk [false, false, false] (h59 _ hw)
    · refine aw_aloadn C dX2_catchLeaving_41 rfl ?_
      refine aw_getI C dX2_catchLeaving_42 kcX2 shB_84 15 (by decide) rfl mF_X2_75 ?_
      refine aw_iconst (v := 3) C dX2_catchLeaving_45 (by decide) ?_
      refine aw_ic_ne C dX2_catchLeaving_46 59 (by decide) hw (fun hc46 hw => ?_) (fun hc46 hw => ?_)
      · exact aw_msk [false, false, false] (h59 _ hw)
      · refine aw_aloadn C dX2_catchLeaving_49 rfl ?_
        refine aw_iconst (v := 0) C dX2_catchLeaving_50 (by decide) ?_
        refine aw_putI C dX2_catchLeaving_51 kcX2 shB_84 15 (by decide) rfl mF_X2_75 rfl rfl rfl hw (fun G1 hw => ?_)
        refine aw_aloadn C dX2_catchLeaving_54 rfl ?_
        refine aw_iloadn C dX2_catchLeaving_55 rfl ?_
        refine aw_callV C dX2_catchLeaving_56 (t_X2_jump x1 _ _ hw) mM_X2_221 bX2_jump shB_84 rfl rfl ⟨Nat.le_of_ble_eq_true rfl, Nat.le_of_ble_eq_true rfl, Nat.zero_le _, Nat.zero_le _⟩ _ rfl (Nat.le_of_ble_eq_true rfl) (fun r56 G2 hq => ?_)
        obtain ⟨rfl, hw⟩ := hq
        exact aw_msk [false, false, false] (h59 _ hw)
  have h16 : ∀ (x1 : Int32) (y0 : Int32) (G0 : Gt), w_X2_catchLeaving_j16 K x1 y0 G0 → aw p l e { frames := 2, cells := 0, slots := 0, locals := 43 } s m args below meth c 3 D tA A (MQ below (QC0 D tA ad A shB (fun r G' => r = none ∧ K G')) args s 0 0 A) 0 0 ad 16 [some (.ref 84), some (.int x1), none] [.int y0] shB G0 := by
    intro  x1 y0 G0 hw
    unfold w_X2_catchLeaving_j16 at hw
    refine aw_istoren C dX2_catchLeaving_16 (by decide) rfl ?_
    refine aw_iloadn C dX2_catchLeaving_17 rfl ?_
    refine aw_if_eq C dX2_catchLeaving_18 37 (by decide) hw (fun hc18 hw => ?_) (fun hc18 hw => ?_)
    · exact aw_msk [true, true, true] (h37 x1 y0 _ hw)
    · refine aw_aloadn C dX2_catchLeaving_21 rfl ?_
      refine aw_getI C dX2_catchLeaving_22 kcX2 shB_84 15 (by decide) rfl mF_X2_75 ?_
      refine aw_iconst (v := 2) C dX2_catchLeaving_25 (by decide) ?_
      refine aw_ic_ne C dX2_catchLeaving_26 37 (by decide) hw (fun hc26 hw => ?_) (fun hc26 hw => ?_)
      · exact aw_msk [true, true, true] (h37 x1 y0 _ hw)
      · refine aw_aloadn C dX2_catchLeaving_29 rfl ?_
        refine aw_iconst (v := 0) C dX2_catchLeaving_30 (by decide) ?_
        refine aw_putI C dX2_catchLeaving_31 kcX2 shB_84 15 (by decide) rfl mF_X2_75 rfl rfl rfl hw (fun G3 hw => ?_)
        refine aw_goto (tgt := 59) C dX2_catchLeaving_34 (by decide) ?_
        exact aw_msk [false, false, false] (h59 _ hw)
  unfold w_X2_catchLeaving at hw
  show aw p l e { frames := 2, cells := 0, slots := 0, locals := 43 } s m args below meth c 3 D tA A (MQ below (QC0 D tA ad A shB (fun r G' => r = none ∧ K G')) args s 0 0 A) 0 0 ad 0 [some (.ref 84), some (.int p0), none] [] shB G0
  refine aw_aloadn C dX2_catchLeaving_0 rfl ?_
  refine aw_getI C dX2_catchLeaving_1 kcX2 shB_84 18 (by decide) rfl mF_X2_85 ?_
  refine aw_aloadn C dX2_catchLeaving_4 rfl ?_
  refine aw_getI C dX2_catchLeaving_5 kcX2 shB_84 11 (by decide) rfl mF_X2_91 ?_
  refine aw_ic_ne C dX2_catchLeaving_8 15 (by decide) hw (fun hc8 hw => ?_) (fun hc8 hw => ?_)
  · refine aw_iconst (v := 0) C dX2_catchLeaving_15 (by decide) ?_
    exact aw_msk [true, true, false] (h16 p0 0 _ hw)
  · refine aw_iconst (v := 1) C dX2_catchLeaving_11 (by decide) ?_
    refine aw_goto (tgt := 16) C dX2_catchLeaving_12 (by decide) ?_
    exact aw_msk [true, true, false] (h16 p0 1 _ hw)
def w_X2_hold (K : Gt → Prop) (G0 : Gt) : Prop :=
  pt (rput G0 124 601 (G0 84 11) (G0 84 15)) fun G1 =>
  pt (rput G1 122 601 (G1 84 11) (G1 84 16)) fun G2 =>
  pt (rput G2 126 601 (G2 84 11) (G2 84 18)) fun G3 =>
  pt (rput G3 128 601 (G3 84 11) (G3 84 17)) fun G4 =>
  pt (gu G4 84 15 0) fun G5 =>
  K G5
set_option maxHeartbeats 4000000 in
set_option maxRecDepth 100000 in
theorem t_X2_hold {l : Launch}  (G0 : Gt) (K : Gt → Prop) (hw : w_X2_hold K G0) : CT0 l yX2_hold cX2_hold 1 none 1 22 [.ref 84] shB G0 (fun r G' => r = none ∧ K G') := by
  refine CT0_of (by decide) (Nat.le_of_ble_eq_true rfl) rfl ?_
  intro p e s m args below meth c D tA ad A C hr _
  unfold w_X2_hold at hw
  show aw p l e { frames := 1, cells := 0, slots := 0, locals := 22 } s m args below meth c 1 D tA A (MQ below (QC0 D tA ad A shB (fun r G' => r = none ∧ K G')) args s 0 0 A) 0 0 ad 0 [some (.ref 84)] [] shB G0
  refine aw_aloadn C dX2_hold_0 rfl ?_
  refine aw_getR (r := 106) C dX2_hold_1 kcX2 shB_84 3 (by decide) rfl mF_X2_21 ?_
  refine aw_getR (r := 123) C dX2_hold_4 kcX1 shB_106 8 (by decide) rfl mF_X2_212 ?_
  refine aw_aloadn C dX2_hold_7 rfl ?_
  refine aw_getI C dX2_hold_8 kcX2 shB_84 11 (by decide) rfl mF_X2_91 ?_
  refine aw_aloadn C dX2_hold_11 rfl ?_
  refine aw_getI C dX2_hold_12 kcX2 shB_84 15 (by decide) rfl mF_X2_75 ?_
  refine aw_callV C dX2_hold_15 (t_put rowB_123 (Nat.le_of_ble_eq_true rfl) (G0 84 11) (G0 84 15) _) mM_X2_142 bX6_put rowB_123.1 rfl rfl ⟨Nat.le_of_ble_eq_true rfl, Nat.le_of_ble_eq_true rfl, Nat.zero_le _, Nat.zero_le _⟩ _ rfl (Nat.le_of_ble_eq_true rfl) (fun r15 G1 hq => ?_)
  obtain ⟨rfl, hq⟩ := hq
  replace hw := pt_eq hw hq
  refine aw_aloadn C dX2_hold_18 rfl ?_
  refine aw_getR (r := 106) C dX2_hold_19 kcX2 shB_84 3 (by decide) rfl mF_X2_21 ?_
  refine aw_getR (r := 121) C dX2_hold_22 kcX1 shB_106 7 (by decide) rfl mF_X2_218 ?_
  refine aw_aloadn C dX2_hold_25 rfl ?_
  refine aw_getI C dX2_hold_26 kcX2 shB_84 11 (by decide) rfl mF_X2_91 ?_
  refine aw_aloadn C dX2_hold_29 rfl ?_
  refine aw_getI C dX2_hold_30 kcX2 shB_84 16 (by decide) rfl mF_X2_78 ?_
  refine aw_callV C dX2_hold_33 (t_put rowB_121 (Nat.le_of_ble_eq_true rfl) (G1 84 11) (G1 84 16) _) mM_X2_142 bX6_put rowB_121.1 rfl rfl ⟨Nat.le_of_ble_eq_true rfl, Nat.le_of_ble_eq_true rfl, Nat.zero_le _, Nat.zero_le _⟩ _ rfl (Nat.le_of_ble_eq_true rfl) (fun r33 G2 hq => ?_)
  obtain ⟨rfl, hq⟩ := hq
  replace hw := pt_eq hw hq
  refine aw_aloadn C dX2_hold_36 rfl ?_
  refine aw_getR (r := 106) C dX2_hold_37 kcX2 shB_84 3 (by decide) rfl mF_X2_21 ?_
  refine aw_getR (r := 125) C dX2_hold_40 kcX1 shB_106 9 (by decide) rfl mF_X2_249 ?_
  refine aw_aloadn C dX2_hold_43 rfl ?_
  refine aw_getI C dX2_hold_44 kcX2 shB_84 11 (by decide) rfl mF_X2_91 ?_
  refine aw_aloadn C dX2_hold_47 rfl ?_
  refine aw_getI C dX2_hold_48 kcX2 shB_84 18 (by decide) rfl mF_X2_85 ?_
  refine aw_callV C dX2_hold_51 (t_put rowB_125 (Nat.le_of_ble_eq_true rfl) (G2 84 11) (G2 84 18) _) mM_X2_142 bX6_put rowB_125.1 rfl rfl ⟨Nat.le_of_ble_eq_true rfl, Nat.le_of_ble_eq_true rfl, Nat.zero_le _, Nat.zero_le _⟩ _ rfl (Nat.le_of_ble_eq_true rfl) (fun r51 G3 hq => ?_)
  obtain ⟨rfl, hq⟩ := hq
  replace hw := pt_eq hw hq
  refine aw_aloadn C dX2_hold_54 rfl ?_
  refine aw_getR (r := 106) C dX2_hold_55 kcX2 shB_84 3 (by decide) rfl mF_X2_21 ?_
  refine aw_getR (r := 127) C dX2_hold_58 kcX1 shB_106 10 (by decide) rfl mF_X2_374 ?_
  refine aw_aloadn C dX2_hold_61 rfl ?_
  refine aw_getI C dX2_hold_62 kcX2 shB_84 11 (by decide) rfl mF_X2_91 ?_
  refine aw_aloadn C dX2_hold_65 rfl ?_
  refine aw_getI C dX2_hold_66 kcX2 shB_84 17 (by decide) rfl mF_X2_82 ?_
  refine aw_callV C dX2_hold_69 (t_put rowB_127 (Nat.le_of_ble_eq_true rfl) (G3 84 11) (G3 84 17) _) mM_X2_142 bX6_put rowB_127.1 rfl rfl ⟨Nat.le_of_ble_eq_true rfl, Nat.le_of_ble_eq_true rfl, Nat.zero_le _, Nat.zero_le _⟩ _ rfl (Nat.le_of_ble_eq_true rfl) (fun r69 G4 hq => ?_)
  obtain ⟨rfl, hq⟩ := hq
  replace hw := pt_eq hw hq
  refine aw_aloadn C dX2_hold_72 rfl ?_
  refine aw_iconst (v := 0) C dX2_hold_73 (by decide) ?_
  refine aw_putI C dX2_hold_74 kcX2 shB_84 15 (by decide) rfl mF_X2_75 rfl rfl rfl hw (fun G5 hw => ?_)
  exact aw_return C hr dX2_hold_77 ⟨rfl, hw⟩
def w_X2_revive (K : Gt → Prop) (G0 : Gt) : Prop :=
  pt (gu G0 84 15 (rat G0 124 601 (G0 84 11))) fun G1 =>
  pt (gu G1 84 16 (rat G1 122 601 (G1 84 11))) fun G2 =>
  pt (gu G2 84 18 (rat G2 126 601 (G2 84 11))) fun G3 =>
  pt (gu G3 84 17 (rat G3 128 601 (G3 84 11))) fun G4 =>
  K G4
set_option maxHeartbeats 4000000 in
set_option maxRecDepth 100000 in
theorem t_X2_revive {l : Launch}  (G0 : Gt) (K : Gt → Prop) (hw : w_X2_revive K G0) : CT0 l yX2_revive cX2_revive 1 none 1 21 [.ref 84] shB G0 (fun r G' => r = none ∧ K G') := by
  refine CT0_of (by decide) (Nat.le_of_ble_eq_true rfl) rfl ?_
  intro p e s m args below meth c D tA ad A C hr _
  unfold w_X2_revive at hw
  show aw p l e { frames := 1, cells := 0, slots := 0, locals := 21 } s m args below meth c 1 D tA A (MQ below (QC0 D tA ad A shB (fun r G' => r = none ∧ K G')) args s 0 0 A) 0 0 ad 0 [some (.ref 84)] [] shB G0
  refine aw_aloadn C dX2_revive_0 rfl ?_
  refine aw_aloadn C dX2_revive_1 rfl ?_
  refine aw_getR (r := 106) C dX2_revive_2 kcX2 shB_84 3 (by decide) rfl mF_X2_21 ?_
  refine aw_getR (r := 123) C dX2_revive_5 kcX1 shB_106 8 (by decide) rfl mF_X2_212 ?_
  refine aw_aloadn C dX2_revive_8 rfl ?_
  refine aw_getI C dX2_revive_9 kcX2 shB_84 11 (by decide) rfl mF_X2_91 ?_
  refine aw_callV C dX2_revive_12 (t_at rowB_123 (Nat.le_of_ble_eq_true rfl) (G0 84 11) _) mM_X2_119 bX6_at rowB_123.1 rfl rfl ⟨Nat.le_of_ble_eq_true rfl, Nat.le_of_ble_eq_true rfl, Nat.zero_le _, Nat.zero_le _⟩ _ rfl (Nat.le_of_ble_eq_true rfl) (fun r12 G12x hq => ?_)
  obtain ⟨rfl, rfl⟩ := hq
  refine aw_putI C dX2_revive_15 kcX2 shB_84 15 (by decide) rfl mF_X2_75 rfl rfl rfl hw (fun G1 hw => ?_)
  refine aw_aloadn C dX2_revive_18 rfl ?_
  refine aw_aloadn C dX2_revive_19 rfl ?_
  refine aw_getR (r := 106) C dX2_revive_20 kcX2 shB_84 3 (by decide) rfl mF_X2_21 ?_
  refine aw_getR (r := 121) C dX2_revive_23 kcX1 shB_106 7 (by decide) rfl mF_X2_218 ?_
  refine aw_aloadn C dX2_revive_26 rfl ?_
  refine aw_getI C dX2_revive_27 kcX2 shB_84 11 (by decide) rfl mF_X2_91 ?_
  refine aw_callV C dX2_revive_30 (t_at rowB_121 (Nat.le_of_ble_eq_true rfl) (G1 84 11) _) mM_X2_119 bX6_at rowB_121.1 rfl rfl ⟨Nat.le_of_ble_eq_true rfl, Nat.le_of_ble_eq_true rfl, Nat.zero_le _, Nat.zero_le _⟩ _ rfl (Nat.le_of_ble_eq_true rfl) (fun r30 G30x hq => ?_)
  obtain ⟨rfl, rfl⟩ := hq
  refine aw_putI C dX2_revive_33 kcX2 shB_84 16 (by decide) rfl mF_X2_78 rfl rfl rfl hw (fun G2 hw => ?_)
  refine aw_aloadn C dX2_revive_36 rfl ?_
  refine aw_aloadn C dX2_revive_37 rfl ?_
  refine aw_getR (r := 106) C dX2_revive_38 kcX2 shB_84 3 (by decide) rfl mF_X2_21 ?_
  refine aw_getR (r := 125) C dX2_revive_41 kcX1 shB_106 9 (by decide) rfl mF_X2_249 ?_
  refine aw_aloadn C dX2_revive_44 rfl ?_
  refine aw_getI C dX2_revive_45 kcX2 shB_84 11 (by decide) rfl mF_X2_91 ?_
  refine aw_callV C dX2_revive_48 (t_at rowB_125 (Nat.le_of_ble_eq_true rfl) (G2 84 11) _) mM_X2_119 bX6_at rowB_125.1 rfl rfl ⟨Nat.le_of_ble_eq_true rfl, Nat.le_of_ble_eq_true rfl, Nat.zero_le _, Nat.zero_le _⟩ _ rfl (Nat.le_of_ble_eq_true rfl) (fun r48 G48x hq => ?_)
  obtain ⟨rfl, rfl⟩ := hq
  refine aw_putI C dX2_revive_51 kcX2 shB_84 18 (by decide) rfl mF_X2_85 rfl rfl rfl hw (fun G3 hw => ?_)
  refine aw_aloadn C dX2_revive_54 rfl ?_
  refine aw_aloadn C dX2_revive_55 rfl ?_
  refine aw_getR (r := 106) C dX2_revive_56 kcX2 shB_84 3 (by decide) rfl mF_X2_21 ?_
  refine aw_getR (r := 127) C dX2_revive_59 kcX1 shB_106 10 (by decide) rfl mF_X2_374 ?_
  refine aw_aloadn C dX2_revive_62 rfl ?_
  refine aw_getI C dX2_revive_63 kcX2 shB_84 11 (by decide) rfl mF_X2_91 ?_
  refine aw_callV C dX2_revive_66 (t_at rowB_127 (Nat.le_of_ble_eq_true rfl) (G3 84 11) _) mM_X2_119 bX6_at rowB_127.1 rfl rfl ⟨Nat.le_of_ble_eq_true rfl, Nat.le_of_ble_eq_true rfl, Nat.zero_le _, Nat.zero_le _⟩ _ rfl (Nat.le_of_ble_eq_true rfl) (fun r66 G66x hq => ?_)
  obtain ⟨rfl, rfl⟩ := hq
  refine aw_putI C dX2_revive_69 kcX2 shB_84 17 (by decide) rfl mF_X2_82 rfl rfl rfl hw (fun G4 hw => ?_)
  exact aw_return C hr dX2_revive_72 ⟨rfl, hw⟩
def w_X2_chooseNextCursor_j143 (K : Gt → Prop) (x1 : Int32) (G0 : Gt) : Prop :=
  w_X2_jump (fun G1 =>
    K G1) x1 G0
def w_X2_chooseNextCursor_h45 (K : Gt → Prop) : Nat → Int32 → Int32 → Int32 → Gt → Prop
  | 0, _, _, _, _ => False
  | n + 1, x1, x4, x5, G0 =>
    pif (4 ≤ x5) (
      w_X2_chooseNextCursor_j143 K x1 G0) (
      pif (x4 ≤ 0) (
        w_X2_chooseNextCursor_j143 K x1 G0) (
        pif ((rat G0 ((txo 19 ((rat G0 126 601 (G0 84 11)) - (rat G0 126 601 (G0 84 11)) / 2 * 2)) + 4) 4 ((x4 &&& 7) - 1)) = (-1)) (
          (w_X2_chooseNextCursor_h45 K n) x1 (x4 >>> (3 &&& 31)) (x5 + 1) G0) (
          pt (rput G0 122 601 (G0 84 11) (x4 >>> (3 &&& 31))) fun G2 =>
          pt (rput G2 124 601 (G2 84 11) ((rat G2 124 601 (G2 84 11)) + 1)) fun G3 =>
          pt (gu G3 (txo 19 ((rat G0 126 601 (G0 84 11)) - (rat G0 126 601 (G0 84 11)) / 2 * 2)) 3 ((x4 &&& 7) - 1)) fun G4 =>
          K G4)))
def w_X2_chooseNextCursor (K : Gt → Prop) (p0 : Int32) (G0 : Gt) : Prop :=
  ∃ i, w_X2_chooseNextCursor_h45 K i p0 (rat G0 122 601 (G0 84 11)) 0 G0
set_option maxHeartbeats 4000000 in
set_option maxRecDepth 100000 in
theorem t_X2_chooseNextCursor {l : Launch}  (p0 : Int32) (G0 : Gt) (K : Gt → Prop) (hw : w_X2_chooseNextCursor K p0 G0) : CT0 l yX2_chooseNextCursor cX2_chooseNextCursor 7 none 2 43 [.ref 84, .int p0] shB G0 (fun r G' => r = none ∧ K G') := by
  refine CT0_of (by decide) (Nat.le_of_ble_eq_true rfl) rfl ?_
  intro p e s m args below meth c D tA ad A C hr _
  have h143 : ∀ (x1 : Int32) (G0 : Gt), w_X2_chooseNextCursor_j143 K x1 G0 → aw p l e { frames := 2, cells := 0, slots := 0, locals := 43 } s m args below meth c 7 D tA A (MQ below (QC0 D tA ad A shB (fun r G' => r = none ∧ K G')) args s 0 0 A) 0 0 ad 143 [some (.ref 84), some (.int x1), none, none, none, none, none] [] shB G0 := by
    intro  x1 G0 hw
    unfold w_X2_chooseNextCursor_j143 at hw
    refine aw_aloadn C dX2_chooseNextCursor_143 rfl ?_
    refine aw_iloadn C dX2_chooseNextCursor_144 rfl ?_
    refine aw_callV C dX2_chooseNextCursor_145 (t_X2_jump x1 _ _ hw) mM_X2_221 bX2_jump shB_84 rfl rfl ⟨Nat.le_of_ble_eq_true rfl, Nat.le_of_ble_eq_true rfl, Nat.zero_le _, Nat.zero_le _⟩ _ rfl (Nat.le_of_ble_eq_true rfl) (fun r145 G1 hq => ?_)
    obtain ⟨rfl, hw⟩ := hq
    exact aw_return C hr dX2_chooseNextCursor_148 ⟨rfl, hw⟩
  have h45 : ∀ (n : Nat) (x1 : Int32) (x4 : Int32) (x5 : Int32) (G0 : Gt), w_X2_chooseNextCursor_h45 K n x1 x4 x5 G0 → aw p l e { frames := 2, cells := 0, slots := 0, locals := 43 } s m args below meth c 7 D tA A (MQ below (QC0 D tA ad A shB (fun r G' => r = none ∧ K G')) args s 0 0 A) 0 0 ad 45 [some (.ref 84), some (.int x1), none, some (.ref (txo 19 ((rat G0 126 601 (G0 84 11)) - (rat G0 126 601 (G0 84 11)) / 2 * 2))), some (.int x4), some (.int x5), none] [] shB G0 := by
    intro  n
    induction n with
    | zero => intro x1 x4 x5 G0 hw; exact hw.elim
    | succ n ih =>
      intro x1 x4 x5 G0 hw
      rw [w_X2_chooseNextCursor_h45] at hw
      refine aw_iload C dX2_chooseNextCursor_45 rfl ?_
      refine aw_iconst (v := 4) C dX2_chooseNextCursor_47 (by decide) ?_
      refine aw_ic_ge C dX2_chooseNextCursor_48 143 (by decide) hw (fun hc48 hw => ?_) (fun hc48 hw => ?_)
      · exact aw_msk [true, true, false, false, false, false, false] (h143 x1 _ hw)
      · refine aw_iload C dX2_chooseNextCursor_51 rfl ?_
        refine aw_if_le C dX2_chooseNextCursor_53 143 (by decide) hw (fun hc53 hw => ?_) (fun hc53 hw => ?_)
        · exact aw_msk [true, true, false, false, false, false, false] (h143 x1 _ hw)
        · refine aw_iload C dX2_chooseNextCursor_56 rfl ?_
          refine aw_bipush (v := 7) C dX2_chooseNextCursor_58 (by decide) ?_
          refine aw_iand C dX2_chooseNextCursor_60 ?_
          refine aw_iconst (v := 1) C dX2_chooseNextCursor_61 (by decide) ?_
          refine aw_isub C dX2_chooseNextCursor_62 ?_
          refine aw_istore C dX2_chooseNextCursor_63 (by decide) rfl ?_
          refine aw_iload C dX2_chooseNextCursor_65 rfl ?_
          refine aw_iconst (v := 3) C dX2_chooseNextCursor_67 (by decide) ?_
          refine aw_ishr C dX2_chooseNextCursor_68 ?_
          refine aw_istore C dX2_chooseNextCursor_69 (by decide) rfl ?_
          refine aw_aloadn C dX2_chooseNextCursor_71 rfl ?_
          refine aw_getR (r := ((txo 19 ((rat G0 126 601 (G0 84 11)) - (rat G0 126 601 (G0 84 11)) / 2 * 2)) + 3)) C dX2_chooseNextCursor_72 kcX8 (text_txo (worldS_19 shOK_B) ((rat G0 126 601 (G0 84 11)) - (rat G0 126 601 (G0 84 11)) / 2 * 2)).1 1 (by decide) rfl mF_X2_433 ?_
          refine aw_iload C dX2_chooseNextCursor_75 rfl ?_
          refine aw_callV C dX2_chooseNextCursor_77 (t_at (text_txo (worldS_19 shOK_B) ((rat G0 126 601 (G0 84 11)) - (rat G0 126 601 (G0 84 11)) / 2 * 2)).2.2 (Nat.le_of_ble_eq_true rfl) ((x4 &&& 7) - 1) _) mM_X2_119 bX6_at (text_txo (worldS_19 shOK_B) ((rat G0 126 601 (G0 84 11)) - (rat G0 126 601 (G0 84 11)) / 2 * 2)).2.2.1 rfl rfl ⟨Nat.le_of_ble_eq_true rfl, Nat.le_of_ble_eq_true rfl, Nat.zero_le _, Nat.zero_le _⟩ _ rfl (Nat.le_of_ble_eq_true rfl) (fun r77 G77x hq => ?_)
          obtain ⟨rfl, rfl⟩ := hq
          refine aw_iconst (v := (-1)) C dX2_chooseNextCursor_80 (by decide) ?_
          refine aw_ic_eq C dX2_chooseNextCursor_81 137 (by decide) hw (fun hc81 hw => ?_) (fun hc81 hw => ?_)
          · refine aw_iinc (w := (x5 + 1)) C dX2_chooseNextCursor_137 rfl rfl (by decide) rfl ?_
            refine aw_goto (tgt := 45) C dX2_chooseNextCursor_140 (by decide) ?_
            exact aw_msk [true, true, false, true, true, true, false] (ih x1 (x4 >>> (3 &&& 31)) (x5 + 1) _ hw)
          · refine aw_aloadn C dX2_chooseNextCursor_84 rfl ?_
            refine aw_getR (r := 106) C dX2_chooseNextCursor_85 kcX2 shB_84 3 (by decide) rfl mF_X2_21 ?_
            refine aw_getR (r := 121) C dX2_chooseNextCursor_88 kcX1 shB_106 7 (by decide) rfl mF_X2_218 ?_
            refine aw_aloadn C dX2_chooseNextCursor_91 rfl ?_
            refine aw_getI C dX2_chooseNextCursor_92 kcX2 shB_84 11 (by decide) rfl mF_X2_91 ?_
            refine aw_iload C dX2_chooseNextCursor_95 rfl ?_
            refine aw_callV C dX2_chooseNextCursor_97 (t_put rowB_121 (Nat.le_of_ble_eq_true rfl) (G0 84 11) (x4 >>> (3 &&& 31)) _) mM_X2_142 bX6_put rowB_121.1 rfl rfl ⟨Nat.le_of_ble_eq_true rfl, Nat.le_of_ble_eq_true rfl, Nat.zero_le _, Nat.zero_le _⟩ _ rfl (Nat.le_of_ble_eq_true rfl) (fun r97 G2 hq => ?_)
            obtain ⟨rfl, hq⟩ := hq
            replace hw := pt_eq hw hq
            refine aw_aloadn C dX2_chooseNextCursor_100 rfl ?_
            refine aw_getR (r := 106) C dX2_chooseNextCursor_101 kcX2 shB_84 3 (by decide) rfl mF_X2_21 ?_
            refine aw_getR (r := 123) C dX2_chooseNextCursor_104 kcX1 shB_106 8 (by decide) rfl mF_X2_212 ?_
            refine aw_aloadn C dX2_chooseNextCursor_107 rfl ?_
            refine aw_getI C dX2_chooseNextCursor_108 kcX2 shB_84 11 (by decide) rfl mF_X2_91 ?_
            refine aw_aloadn C dX2_chooseNextCursor_111 rfl ?_
            refine aw_getR (r := 106) C dX2_chooseNextCursor_112 kcX2 shB_84 3 (by decide) rfl mF_X2_21 ?_
            refine aw_getR (r := 123) C dX2_chooseNextCursor_115 kcX1 shB_106 8 (by decide) rfl mF_X2_212 ?_
            refine aw_aloadn C dX2_chooseNextCursor_118 rfl ?_
            refine aw_getI C dX2_chooseNextCursor_119 kcX2 shB_84 11 (by decide) rfl mF_X2_91 ?_
            refine aw_callV C dX2_chooseNextCursor_122 (t_at rowB_123 (Nat.le_of_ble_eq_true rfl) (G2 84 11) _) mM_X2_119 bX6_at rowB_123.1 rfl rfl ⟨Nat.le_of_ble_eq_true rfl, Nat.le_of_ble_eq_true rfl, Nat.zero_le _, Nat.zero_le _⟩ _ rfl (Nat.le_of_ble_eq_true rfl) (fun r122 G122x hq => ?_)
            obtain ⟨rfl, rfl⟩ := hq
            refine aw_iconst (v := 1) C dX2_chooseNextCursor_125 (by decide) ?_
            refine aw_iadd C dX2_chooseNextCursor_126 ?_
            refine aw_callV C dX2_chooseNextCursor_127 (t_put rowB_123 (Nat.le_of_ble_eq_true rfl) (G2 84 11) ((rat G2 124 601 (G2 84 11)) + 1) _) mM_X2_142 bX6_put rowB_123.1 rfl rfl ⟨Nat.le_of_ble_eq_true rfl, Nat.le_of_ble_eq_true rfl, Nat.zero_le _, Nat.zero_le _⟩ _ rfl (Nat.le_of_ble_eq_true rfl) (fun r127 G3 hq => ?_)
            obtain ⟨rfl, hq⟩ := hq
            replace hw := pt_eq hw hq
            refine aw_aloadn C dX2_chooseNextCursor_130 rfl ?_
            refine aw_iload C dX2_chooseNextCursor_131 rfl ?_
            refine aw_putI C dX2_chooseNextCursor_133 kcX8 (text_txo (worldS_19 shOK_B) ((rat G0 126 601 (G0 84 11)) - (rat G0 126 601 (G0 84 11)) / 2 * 2)).1 3 (by decide) rfl mF_X2_338 rfl rfl rfl hw (fun G4 hw => ?_)
            exact aw_return C hr dX2_chooseNextCursor_136 ⟨rfl, hw⟩
  unfold w_X2_chooseNextCursor at hw
  show aw p l e { frames := 2, cells := 0, slots := 0, locals := 43 } s m args below meth c 7 D tA A (MQ below (QC0 D tA ad A shB (fun r G' => r = none ∧ K G')) args s 0 0 A) 0 0 ad 0 [some (.ref 84), some (.int p0), none, none, none, none, none] [] shB G0
  refine aw_aloadn C dX2_chooseNextCursor_0 rfl ?_
  refine aw_getR (r := 106) C dX2_chooseNextCursor_1 kcX2 shB_84 3 (by decide) rfl mF_X2_21 ?_
  refine aw_getR (r := 125) C dX2_chooseNextCursor_4 kcX1 shB_106 9 (by decide) rfl mF_X2_249 ?_
  refine aw_aloadn C dX2_chooseNextCursor_7 rfl ?_
  refine aw_getI C dX2_chooseNextCursor_8 kcX2 shB_84 11 (by decide) rfl mF_X2_91 ?_
  refine aw_callV C dX2_chooseNextCursor_11 (t_at rowB_125 (Nat.le_of_ble_eq_true rfl) (G0 84 11) _) mM_X2_119 bX6_at rowB_125.1 rfl rfl ⟨Nat.le_of_ble_eq_true rfl, Nat.le_of_ble_eq_true rfl, Nat.zero_le _, Nat.zero_le _⟩ _ rfl (Nat.le_of_ble_eq_true rfl) (fun r11 G11x hq => ?_)
  obtain ⟨rfl, rfl⟩ := hq
  refine aw_istoren C dX2_chooseNextCursor_14 (by decide) rfl ?_
  refine aw_aloadn C dX2_chooseNextCursor_15 rfl ?_
  refine aw_getR (r := 19) C dX2_chooseNextCursor_16 kcX2 shB_84 1 (by decide) rfl mF_X2_43 ?_
  refine aw_iloadn C dX2_chooseNextCursor_19 rfl ?_
  refine aw_iconst (v := 2) C dX2_chooseNextCursor_20 (by decide) ?_
  refine aw_irem C dX2_chooseNextCursor_21 (by decide) ?_
  refine aw_callV C dX2_chooseNextCursor_22 (t_textOf (worldS_19 shOK_B) ((rat G0 126 601 (G0 84 11)) - (rat G0 126 601 (G0 84 11)) / 2 * 2) _) mM_X2_308 bX9_textOf (worldS_19 shOK_B).1 rfl rfl ⟨Nat.le_of_ble_eq_true rfl, Nat.le_of_ble_eq_true rfl, Nat.zero_le _, Nat.zero_le _⟩ _ rfl (Nat.le_of_ble_eq_true rfl) (fun r22 G22x hq => ?_)
  obtain ⟨rfl, rfl⟩ := hq
  refine aw_astoren C dX2_chooseNextCursor_25 (by decide) rfl ?_
  refine aw_aloadn C dX2_chooseNextCursor_26 rfl ?_
  refine aw_getR (r := 106) C dX2_chooseNextCursor_27 kcX2 shB_84 3 (by decide) rfl mF_X2_21 ?_
  refine aw_getR (r := 121) C dX2_chooseNextCursor_30 kcX1 shB_106 7 (by decide) rfl mF_X2_218 ?_
  refine aw_aloadn C dX2_chooseNextCursor_33 rfl ?_
  refine aw_getI C dX2_chooseNextCursor_34 kcX2 shB_84 11 (by decide) rfl mF_X2_91 ?_
  refine aw_callV C dX2_chooseNextCursor_37 (t_at rowB_121 (Nat.le_of_ble_eq_true rfl) (G0 84 11) _) mM_X2_119 bX6_at rowB_121.1 rfl rfl ⟨Nat.le_of_ble_eq_true rfl, Nat.le_of_ble_eq_true rfl, Nat.zero_le _, Nat.zero_le _⟩ _ rfl (Nat.le_of_ble_eq_true rfl) (fun r37 G37x hq => ?_)
  obtain ⟨rfl, rfl⟩ := hq
  refine aw_istore C dX2_chooseNextCursor_40 (by decide) rfl ?_
  refine aw_iconst (v := 0) C dX2_chooseNextCursor_42 (by decide) ?_
  refine aw_istore C dX2_chooseNextCursor_43 (by decide) rfl ?_
  obtain ⟨n0, hw⟩ := hw
  exact aw_msk [true, true, false, true, true, true, false] (h45 n0 p0 (rat G0 122 601 (G0 84 11)) 0 _ hw)
def w_X2_leaveEach (K : Gt → Prop) (G0 : Gt) : Prop :=
  w_X8_chooseAgain (txo 19 ((rat G0 126 601 (G0 84 11)) - (rat G0 126 601 (G0 84 11)) / 2 * 2)) (fun G1 =>
    K G1) ((rat G0 126 601 (G0 84 11)) / 2) G0
set_option maxHeartbeats 4000000 in
set_option maxRecDepth 100000 in
theorem t_X2_leaveEach {l : Launch}  (G0 : Gt) (K : Gt → Prop) (hw : w_X2_leaveEach K G0) : CT0 l yX2_leaveEach cX2_leaveEach 2 none 2 43 [.ref 84] shB G0 (fun r G' => r = none ∧ K G') := by
  refine CT0_of (by decide) (Nat.le_of_ble_eq_true rfl) rfl ?_
  intro p e s m args below meth c D tA ad A C hr _
  unfold w_X2_leaveEach at hw
  show aw p l e { frames := 2, cells := 0, slots := 0, locals := 43 } s m args below meth c 2 D tA A (MQ below (QC0 D tA ad A shB (fun r G' => r = none ∧ K G')) args s 0 0 A) 0 0 ad 0 [some (.ref 84), none] [] shB G0
  refine aw_aloadn C dX2_leaveEach_0 rfl ?_
  refine aw_getR (r := 106) C dX2_leaveEach_1 kcX2 shB_84 3 (by decide) rfl mF_X2_21 ?_
  refine aw_getR (r := 125) C dX2_leaveEach_4 kcX1 shB_106 9 (by decide) rfl mF_X2_249 ?_
  refine aw_aloadn C dX2_leaveEach_7 rfl ?_
  refine aw_getI C dX2_leaveEach_8 kcX2 shB_84 11 (by decide) rfl mF_X2_91 ?_
  refine aw_callV C dX2_leaveEach_11 (t_at rowB_125 (Nat.le_of_ble_eq_true rfl) (G0 84 11) _) mM_X2_119 bX6_at rowB_125.1 rfl rfl ⟨Nat.le_of_ble_eq_true rfl, Nat.le_of_ble_eq_true rfl, Nat.zero_le _, Nat.zero_le _⟩ _ rfl (Nat.le_of_ble_eq_true rfl) (fun r11 G11x hq => ?_)
  obtain ⟨rfl, rfl⟩ := hq
  refine aw_istoren C dX2_leaveEach_14 (by decide) rfl ?_
  refine aw_aloadn C dX2_leaveEach_15 rfl ?_
  refine aw_getR (r := 19) C dX2_leaveEach_16 kcX2 shB_84 1 (by decide) rfl mF_X2_43 ?_
  refine aw_iloadn C dX2_leaveEach_19 rfl ?_
  refine aw_iconst (v := 2) C dX2_leaveEach_20 (by decide) ?_
  refine aw_irem C dX2_leaveEach_21 (by decide) ?_
  refine aw_callV C dX2_leaveEach_22 (t_textOf (worldS_19 shOK_B) ((rat G0 126 601 (G0 84 11)) - (rat G0 126 601 (G0 84 11)) / 2 * 2) _) mM_X2_308 bX9_textOf (worldS_19 shOK_B).1 rfl rfl ⟨Nat.le_of_ble_eq_true rfl, Nat.le_of_ble_eq_true rfl, Nat.zero_le _, Nat.zero_le _⟩ _ rfl (Nat.le_of_ble_eq_true rfl) (fun r22 G22x hq => ?_)
  obtain ⟨rfl, rfl⟩ := hq
  refine aw_iloadn C dX2_leaveEach_25 rfl ?_
  refine aw_iconst (v := 2) C dX2_leaveEach_26 (by decide) ?_
  refine aw_idiv C dX2_leaveEach_27 (by decide) ?_
  refine aw_callV C dX2_leaveEach_28 (t_X8_chooseAgain (text_txo (worldS_19 shOK_B) ((rat G0 126 601 (G0 84 11)) - (rat G0 126 601 (G0 84 11)) / 2 * 2)) ((rat G0 126 601 (G0 84 11)) / 2) _ _ hw) mM_X2_437 bX8_chooseAgain (text_txo (worldS_19 shOK_B) ((rat G0 126 601 (G0 84 11)) - (rat G0 126 601 (G0 84 11)) / 2 * 2)).1 rfl rfl ⟨Nat.le_of_ble_eq_true rfl, Nat.le_of_ble_eq_true rfl, Nat.zero_le _, Nat.zero_le _⟩ _ rfl (Nat.le_of_ble_eq_true rfl) (fun r28 G1 hq => ?_)
  obtain ⟨rfl, hw⟩ := hq
  exact aw_return C hr dX2_leaveEach_31 ⟨rfl, hw⟩
def w_X2_noteCall (K : Gt → Prop) (G0 : Gt) : Prop :=
  pt (rput G0 120 601 (G0 84 11) (G0 84 13)) fun G1 =>
  pt (gu G1 84 13 (G1 84 11)) fun G2 =>
  pt (gu G2 84 8 ((G2 84 8) + 1)) fun G3 =>
  K G3
set_option maxHeartbeats 4000000 in
set_option maxRecDepth 100000 in
theorem t_X2_noteCall {l : Launch}  (G0 : Gt) (K : Gt → Prop) (hw : w_X2_noteCall K G0) : CT0 l yX2_noteCall cX2_noteCall 1 none 1 22 [.ref 84] shB G0 (fun r G' => r = none ∧ K G') := by
  refine CT0_of (by decide) (Nat.le_of_ble_eq_true rfl) rfl ?_
  intro p e s m args below meth c D tA ad A C hr _
  unfold w_X2_noteCall at hw
  show aw p l e { frames := 1, cells := 0, slots := 0, locals := 22 } s m args below meth c 1 D tA A (MQ below (QC0 D tA ad A shB (fun r G' => r = none ∧ K G')) args s 0 0 A) 0 0 ad 0 [some (.ref 84)] [] shB G0
  refine aw_aloadn C dX2_noteCall_0 rfl ?_
  refine aw_getR (r := 106) C dX2_noteCall_1 kcX2 shB_84 3 (by decide) rfl mF_X2_21 ?_
  refine aw_getR (r := 119) C dX2_noteCall_4 kcX1 shB_106 6 (by decide) rfl mF_X2_197 ?_
  refine aw_aloadn C dX2_noteCall_7 rfl ?_
  refine aw_getI C dX2_noteCall_8 kcX2 shB_84 11 (by decide) rfl mF_X2_91 ?_
  refine aw_aloadn C dX2_noteCall_11 rfl ?_
  refine aw_getI C dX2_noteCall_12 kcX2 shB_84 13 (by decide) rfl mF_X2_68 ?_
  refine aw_callV C dX2_noteCall_15 (t_put rowB_119 (Nat.le_of_ble_eq_true rfl) (G0 84 11) (G0 84 13) _) mM_X2_142 bX6_put rowB_119.1 rfl rfl ⟨Nat.le_of_ble_eq_true rfl, Nat.le_of_ble_eq_true rfl, Nat.zero_le _, Nat.zero_le _⟩ _ rfl (Nat.le_of_ble_eq_true rfl) (fun r15 G1 hq => ?_)
  obtain ⟨rfl, hq⟩ := hq
  replace hw := pt_eq hw hq
  refine aw_aloadn C dX2_noteCall_18 rfl ?_
  refine aw_aloadn C dX2_noteCall_19 rfl ?_
  refine aw_getI C dX2_noteCall_20 kcX2 shB_84 11 (by decide) rfl mF_X2_91 ?_
  refine aw_putI C dX2_noteCall_23 kcX2 shB_84 13 (by decide) rfl mF_X2_68 rfl rfl rfl hw (fun G2 hw => ?_)
  refine aw_aloadn C dX2_noteCall_26 rfl ?_
  refine aw_dup C dX2_noteCall_27 rfl ?_
  refine aw_getI C dX2_noteCall_28 kcX2 shB_84 8 (by decide) rfl mF_X2_65 ?_
  refine aw_iconst (v := 1) C dX2_noteCall_31 (by decide) ?_
  refine aw_iadd C dX2_noteCall_32 ?_
  refine aw_putI C dX2_noteCall_33 kcX2 shB_84 8 (by decide) rfl mF_X2_65 rfl rfl rfl hw (fun G3 hw => ?_)
  exact aw_return C hr dX2_noteCall_36 ⟨rfl, hw⟩
def w_X2_endCall (K : Gt → Prop) (p0 : Int32) (G0 : Gt) : Prop :=
  pt (gu G0 84 13 (rat G0 120 601 p0)) fun G1 =>
  pt (gu G1 84 8 ((G1 84 8) - 1)) fun G2 =>
  K G2
set_option maxHeartbeats 4000000 in
set_option maxRecDepth 100000 in
theorem t_X2_endCall {l : Launch}  (p0 : Int32) (G0 : Gt) (K : Gt → Prop) (hw : w_X2_endCall K p0 G0) : CT0 l yX2_endCall cX2_endCall 2 none 1 21 [.ref 84, .int p0] shB G0 (fun r G' => r = none ∧ K G') := by
  refine CT0_of (by decide) (Nat.le_of_ble_eq_true rfl) rfl ?_
  intro p e s m args below meth c D tA ad A C hr _
  unfold w_X2_endCall at hw
  show aw p l e { frames := 1, cells := 0, slots := 0, locals := 21 } s m args below meth c 2 D tA A (MQ below (QC0 D tA ad A shB (fun r G' => r = none ∧ K G')) args s 0 0 A) 0 0 ad 0 [some (.ref 84), some (.int p0)] [] shB G0
  refine aw_aloadn C dX2_endCall_0 rfl ?_
  refine aw_aloadn C dX2_endCall_1 rfl ?_
  refine aw_getR (r := 106) C dX2_endCall_2 kcX2 shB_84 3 (by decide) rfl mF_X2_21 ?_
  refine aw_getR (r := 119) C dX2_endCall_5 kcX1 shB_106 6 (by decide) rfl mF_X2_197 ?_
  refine aw_iloadn C dX2_endCall_8 rfl ?_
  refine aw_callV C dX2_endCall_9 (t_at rowB_119 (Nat.le_of_ble_eq_true rfl) p0 _) mM_X2_119 bX6_at rowB_119.1 rfl rfl ⟨Nat.le_of_ble_eq_true rfl, Nat.le_of_ble_eq_true rfl, Nat.zero_le _, Nat.zero_le _⟩ _ rfl (Nat.le_of_ble_eq_true rfl) (fun r9 G9x hq => ?_)
  obtain ⟨rfl, rfl⟩ := hq
  refine aw_putI C dX2_endCall_12 kcX2 shB_84 13 (by decide) rfl mF_X2_68 rfl rfl rfl hw (fun G1 hw => ?_)
  refine aw_aloadn C dX2_endCall_15 rfl ?_
  refine aw_dup C dX2_endCall_16 rfl ?_
  refine aw_getI C dX2_endCall_17 kcX2 shB_84 8 (by decide) rfl mF_X2_65 ?_
  refine aw_iconst (v := 1) C dX2_endCall_20 (by decide) ?_
  refine aw_isub C dX2_endCall_21 ?_
  refine aw_putI C dX2_endCall_22 kcX2 shB_84 8 (by decide) rfl mF_X2_65 rfl rfl rfl hw (fun G2 hw => ?_)
  exact aw_return C hr dX2_endCall_25 ⟨rfl, hw⟩
def w_X2_endGenerator_j40 (K : Gt → Prop)  (G0 : Gt) : Prop :=
  K G0
def w_X2_endGenerator_j22 (K : Gt → Prop)  (G0 : Gt) : Prop :=
  pif ((G0 84 15) = 1) (
    w_X2_endGenerator_j40 K G0) (
    pt (gu G0 84 15 0) fun G2 =>
    pt (gu G2 84 16 (-1)) fun G3 =>
    w_X2_endGenerator_j40 K G3)
def w_X2_endGenerator (K : Gt → Prop) (p0 : Int32) (p1 : Int32) (G0 : Gt) : Prop :=
  pt (rput G0 140 601 p0 4) fun G1 =>
  pif (p1 = (-1)) (
    w_X2_endGenerator_j22 K G1) (
    w_X2_endCall (fun G4 =>
      w_X2_endGenerator_j22 K G4) p1 G1)
set_option maxHeartbeats 4000000 in
set_option maxRecDepth 100000 in
theorem t_X2_endGenerator {l : Launch}  (p0 : Int32) (p1 : Int32) (G0 : Gt) (K : Gt → Prop) (hw : w_X2_endGenerator K p0 p1 G0) : CT0 l yX2_endGenerator cX2_endGenerator 3 none 2 42 [.ref 84, .int p0, .int p1] shB G0 (fun r G' => r = none ∧ K G') := by
  refine CT0_of (by decide) (Nat.le_of_ble_eq_true rfl) rfl ?_
  intro p e s m args below meth c D tA ad A C hr _
  have h40 : ∀ (G0 : Gt), w_X2_endGenerator_j40 K  G0 → aw p l e { frames := 2, cells := 0, slots := 0, locals := 42 } s m args below meth c 3 D tA A (MQ below (QC0 D tA ad A shB (fun r G' => r = none ∧ K G')) args s 0 0 A) 0 0 ad 40 [none, none, none] [] shB G0 := by
    intro   G0 hw
    unfold w_X2_endGenerator_j40 at hw
    exact aw_return C hr dX2_endGenerator_40 ⟨rfl, hw⟩
  have h22 : ∀ (G0 : Gt), w_X2_endGenerator_j22 K  G0 → aw p l e { frames := 2, cells := 0, slots := 0, locals := 42 } s m args below meth c 3 D tA A (MQ below (QC0 D tA ad A shB (fun r G' => r = none ∧ K G')) args s 0 0 A) 0 0 ad 22 [some (.ref 84), none, none] [] shB G0 := by
    intro   G0 hw
    unfold w_X2_endGenerator_j22 at hw
    refine aw_aloadn C dX2_endGenerator_22 rfl ?_
    refine aw_getI C dX2_endGenerator_23 kcX2 shB_84 15 (by decide) rfl mF_X2_75 ?_
    refine aw_iconst (v := 1) C dX2_endGenerator_26 (by decide) ?_
    refine aw_ic_eq C dX2_endGenerator_27 40 (by decide) hw (fun hc27 hw => ?_) (fun hc27 hw => ?_)
    · exact aw_msk [false, false, false] (h40 _ hw)
    · refine aw_aloadn C dX2_endGenerator_30 rfl ?_
      refine aw_iconst (v := 0) C dX2_endGenerator_31 (by decide) ?_
      refine aw_putI C dX2_endGenerator_32 kcX2 shB_84 15 (by decide) rfl mF_X2_75 rfl rfl rfl hw (fun G2 hw => ?_)
      refine aw_aloadn C dX2_endGenerator_35 rfl ?_
      refine aw_iconst (v := (-1)) C dX2_endGenerator_36 (by decide) ?_
      refine aw_putI C dX2_endGenerator_37 kcX2 shB_84 16 (by decide) rfl mF_X2_78 rfl rfl rfl hw (fun G3 hw => ?_)
      exact aw_msk [false, false, false] (h40 _ hw)
  unfold w_X2_endGenerator at hw
  show aw p l e { frames := 2, cells := 0, slots := 0, locals := 42 } s m args below meth c 3 D tA A (MQ below (QC0 D tA ad A shB (fun r G' => r = none ∧ K G')) args s 0 0 A) 0 0 ad 0 [some (.ref 84), some (.int p0), some (.int p1)] [] shB G0
  refine aw_aloadn C dX2_endGenerator_0 rfl ?_
  refine aw_getR (r := 134) C dX2_endGenerator_1 kcX2 shB_84 5 (by decide) rfl mF_X2_35 ?_
  refine aw_getR (r := 139) C dX2_endGenerator_4 kcX3 shB_134 2 (by decide) rfl mF_X2_362 ?_
  refine aw_iloadn C dX2_endGenerator_7 rfl ?_
  refine aw_iconst (v := 4) C dX2_endGenerator_8 (by decide) ?_
  refine aw_callV C dX2_endGenerator_9 (t_put rowB_139 (Nat.le_of_ble_eq_true rfl) p0 4 _) mM_X2_142 bX6_put rowB_139.1 rfl rfl ⟨Nat.le_of_ble_eq_true rfl, Nat.le_of_ble_eq_true rfl, Nat.zero_le _, Nat.zero_le _⟩ _ rfl (Nat.le_of_ble_eq_true rfl) (fun r9 G1 hq => ?_)
  obtain ⟨rfl, hq⟩ := hq
  replace hw := pt_eq hw hq
  refine aw_iloadn C dX2_endGenerator_12 rfl ?_
  refine aw_iconst (v := (-1)) C dX2_endGenerator_13 (by decide) ?_
  refine aw_ic_eq C dX2_endGenerator_14 22 (by decide) hw (fun hc14 hw => ?_) (fun hc14 hw => ?_)
  · exact aw_msk [true, false, false] (h22 _ hw)
  · refine aw_aloadn C dX2_endGenerator_17 rfl ?_
    refine aw_iloadn C dX2_endGenerator_18 rfl ?_
    refine aw_callV C dX2_endGenerator_19 (t_X2_endCall p1 _ _ hw) mM_X2_350 bX2_endCall shB_84 rfl rfl ⟨Nat.le_of_ble_eq_true rfl, Nat.le_of_ble_eq_true rfl, Nat.zero_le _, Nat.zero_le _⟩ _ rfl (Nat.le_of_ble_eq_true rfl) (fun r19 G4 hq => ?_)
    obtain ⟨rfl, hw⟩ := hq
    exact aw_msk [true, false, false] (h22 _ hw)
def w_X2_closeNext_j19 (K : Gt → Prop) (y0 : Int32) (G0 : Gt) : Prop :=
  pif (y0 = (-1)) (
    pt (gu G0 84 7 0) fun G8 =>
    K G8) (
    pt (rput G0 140 601 y0 3) fun G3 =>
    pt (rput G3 110 601 (rat G3 142 601 y0) (-1)) fun G4 =>
    pt (gu G4 84 11 (rat G4 144 601 y0)) fun G5 =>
    pt (gu G5 84 15 4) fun G6 =>
    w_X1_land (fun G7 =>
      K G7) (G6 84 11) G6)
def w_X2_closeNext (K : Gt → Prop) (G0 : Gt) : Prop :=
  pif ((G0 84 15) = 1) (
    w_X2_closeNext_j19 K (-1) G0) (
    w_X3_lowestResting (fun v2 G1 =>
      w_X2_closeNext_j19 K v2 G1) G0)
set_option maxHeartbeats 4000000 in
set_option maxRecDepth 100000 in
theorem t_X2_closeNext {l : Launch}  (G0 : Gt) (K : Gt → Prop) (hw : w_X2_closeNext K G0) : CT0 l yX2_closeNext cX2_closeNext 2 none 2 43 [.ref 84] shB G0 (fun r G' => r = none ∧ K G') := by
  refine CT0_of (by decide) (Nat.le_of_ble_eq_true rfl) rfl ?_
  intro p e s m args below meth c D tA ad A C hr _
  have h19 : ∀ (y0 : Int32) (G0 : Gt), w_X2_closeNext_j19 K y0 G0 → aw p l e { frames := 2, cells := 0, slots := 0, locals := 43 } s m args below meth c 2 D tA A (MQ below (QC0 D tA ad A shB (fun r G' => r = none ∧ K G')) args s 0 0 A) 0 0 ad 19 [some (.ref 84), none] [.int y0] shB G0 := by
    intro  y0 G0 hw
    unfold w_X2_closeNext_j19 at hw
    refine aw_istoren C dX2_closeNext_19 (by decide) rfl ?_
    refine aw_iloadn C dX2_closeNext_20 rfl ?_
    refine aw_iconst (v := (-1)) C dX2_closeNext_21 (by decide) ?_
    refine aw_ic_ne C dX2_closeNext_22 31 (by decide) hw (fun hc22 hw => ?_) (fun hc22 hw => ?_)
    · refine aw_aloadn C dX2_closeNext_31 rfl ?_
      refine aw_getR (r := 134) C dX2_closeNext_32 kcX2 shB_84 5 (by decide) rfl mF_X2_35 ?_
      refine aw_getR (r := 139) C dX2_closeNext_35 kcX3 shB_134 2 (by decide) rfl mF_X2_362 ?_
      refine aw_iloadn C dX2_closeNext_38 rfl ?_
      refine aw_iconst (v := 3) C dX2_closeNext_39 (by decide) ?_
      refine aw_callV C dX2_closeNext_40 (t_put rowB_139 (Nat.le_of_ble_eq_true rfl) y0 3 _) mM_X2_142 bX6_put rowB_139.1 rfl rfl ⟨Nat.le_of_ble_eq_true rfl, Nat.le_of_ble_eq_true rfl, Nat.zero_le _, Nat.zero_le _⟩ _ rfl (Nat.le_of_ble_eq_true rfl) (fun r40 G3 hq => ?_)
      obtain ⟨rfl, hq⟩ := hq
      replace hw := pt_eq hw hq
      refine aw_aloadn C dX2_closeNext_43 rfl ?_
      refine aw_getR (r := 106) C dX2_closeNext_44 kcX2 shB_84 3 (by decide) rfl mF_X2_21 ?_
      refine aw_getR (r := 109) C dX2_closeNext_47 kcX1 shB_106 1 (by decide) rfl mF_X2_200 ?_
      refine aw_aloadn C dX2_closeNext_50 rfl ?_
      refine aw_getR (r := 134) C dX2_closeNext_51 kcX2 shB_84 5 (by decide) rfl mF_X2_35 ?_
      refine aw_getR (r := 141) C dX2_closeNext_54 kcX3 shB_134 3 (by decide) rfl mF_X2_368 ?_
      refine aw_iloadn C dX2_closeNext_57 rfl ?_
      refine aw_callV C dX2_closeNext_58 (t_at rowB_141 (Nat.le_of_ble_eq_true rfl) y0 _) mM_X2_119 bX6_at rowB_141.1 rfl rfl ⟨Nat.le_of_ble_eq_true rfl, Nat.le_of_ble_eq_true rfl, Nat.zero_le _, Nat.zero_le _⟩ _ rfl (Nat.le_of_ble_eq_true rfl) (fun r58 G58x hq => ?_)
      obtain ⟨rfl, rfl⟩ := hq
      refine aw_iconst (v := (-1)) C dX2_closeNext_61 (by decide) ?_
      refine aw_callV C dX2_closeNext_62 (t_put rowB_109 (Nat.le_of_ble_eq_true rfl) (rat G3 142 601 y0) (-1) _) mM_X2_142 bX6_put rowB_109.1 rfl rfl ⟨Nat.le_of_ble_eq_true rfl, Nat.le_of_ble_eq_true rfl, Nat.zero_le _, Nat.zero_le _⟩ _ rfl (Nat.le_of_ble_eq_true rfl) (fun r62 G4 hq => ?_)
      obtain ⟨rfl, hq⟩ := hq
      replace hw := pt_eq hw hq
      refine aw_aloadn C dX2_closeNext_65 rfl ?_
      refine aw_aloadn C dX2_closeNext_66 rfl ?_
      refine aw_getR (r := 134) C dX2_closeNext_67 kcX2 shB_84 5 (by decide) rfl mF_X2_35 ?_
      refine aw_getR (r := 143) C dX2_closeNext_70 kcX3 shB_134 4 (by decide) rfl mF_X2_371 ?_
      refine aw_iloadn C dX2_closeNext_73 rfl ?_
      refine aw_callV C dX2_closeNext_74 (t_at rowB_143 (Nat.le_of_ble_eq_true rfl) y0 _) mM_X2_119 bX6_at rowB_143.1 rfl rfl ⟨Nat.le_of_ble_eq_true rfl, Nat.le_of_ble_eq_true rfl, Nat.zero_le _, Nat.zero_le _⟩ _ rfl (Nat.le_of_ble_eq_true rfl) (fun r74 G74x hq => ?_)
      obtain ⟨rfl, rfl⟩ := hq
      refine aw_putI C dX2_closeNext_77 kcX2 shB_84 11 (by decide) rfl mF_X2_91 rfl rfl rfl hw (fun G5 hw => ?_)
      refine aw_aloadn C dX2_closeNext_80 rfl ?_
      refine aw_iconst (v := 4) C dX2_closeNext_81 (by decide) ?_
      refine aw_putI C dX2_closeNext_82 kcX2 shB_84 15 (by decide) rfl mF_X2_75 rfl rfl rfl hw (fun G6 hw => ?_)
      refine aw_aloadn C dX2_closeNext_85 rfl ?_
      refine aw_getR (r := 106) C dX2_closeNext_86 kcX2 shB_84 3 (by decide) rfl mF_X2_21 ?_
      refine aw_aloadn C dX2_closeNext_89 rfl ?_
      refine aw_getI C dX2_closeNext_90 kcX2 shB_84 11 (by decide) rfl mF_X2_91 ?_
      refine aw_callV C dX2_closeNext_93 (t_X1_land (G6 84 11) _ _ hw) mM_X2_359 bX1_land shB_106 rfl rfl ⟨Nat.le_of_ble_eq_true rfl, Nat.le_of_ble_eq_true rfl, Nat.zero_le _, Nat.zero_le _⟩ _ rfl (Nat.le_of_ble_eq_true rfl) (fun r93 G7 hq => ?_)
      obtain ⟨rfl, hw⟩ := hq
      exact aw_return C hr dX2_closeNext_96 ⟨rfl, hw⟩
    · refine aw_aloadn C dX2_closeNext_25 rfl ?_
      refine aw_iconst (v := 0) C dX2_closeNext_26 (by decide) ?_
      refine aw_putI C dX2_closeNext_27 kcX2 shB_84 7 (by decide) rfl mF_X2_94 rfl rfl rfl hw (fun G8 hw => ?_)
      exact aw_return C hr dX2_closeNext_30 ⟨rfl, hw⟩
  unfold w_X2_closeNext at hw
  show aw p l e { frames := 2, cells := 0, slots := 0, locals := 43 } s m args below meth c 2 D tA A (MQ below (QC0 D tA ad A shB (fun r G' => r = none ∧ K G')) args s 0 0 A) 0 0 ad 0 [some (.ref 84), none] [] shB G0
  refine aw_aloadn C dX2_closeNext_0 rfl ?_
  refine aw_getI C dX2_closeNext_1 kcX2 shB_84 15 (by decide) rfl mF_X2_75 ?_
  refine aw_iconst (v := 1) C dX2_closeNext_4 (by decide) ?_
  refine aw_ic_ne C dX2_closeNext_5 12 (by decide) hw (fun hc5 hw => ?_) (fun hc5 hw => ?_)
  · refine aw_aloadn C dX2_closeNext_12 rfl ?_
    refine aw_getR (r := 134) C dX2_closeNext_13 kcX2 shB_84 5 (by decide) rfl mF_X2_35 ?_
    refine aw_callV C dX2_closeNext_16 (t_X3_lowestResting _ _ hw) mM_X2_365 bX3_lowestResting shB_134 rfl rfl ⟨Nat.le_of_ble_eq_true rfl, Nat.le_of_ble_eq_true rfl, Nat.zero_le _, Nat.zero_le _⟩ _ rfl (Nat.le_of_ble_eq_true rfl) (fun r16 G1 hq => ?_)
    obtain ⟨v2, rfl, hw⟩ := hq
    exact aw_msk [true, false] (h19 v2 _ hw)
  · refine aw_iconst (v := (-1)) C dX2_closeNext_8 (by decide) ?_
    refine aw_goto (tgt := 19) C dX2_closeNext_9 (by decide) ?_
    exact aw_msk [true, false] (h19 (-1) _ hw)
def w_X2_invoke_j220 (K : Gt → Prop)  (G0 : Gt) : Prop :=
  K G0
def w_X2_invoke_j192 (K : Gt → Prop) (x3 : Int32) (y1 : Int32) (G0 : Gt) : Prop :=
  pt (gu G0 84 16 y1) fun G5 =>
  pif (2 ≤ x3) (
    w_X2_invoke_j220 K G5) (
    w_X2_jump (fun G6 =>
      w_X2_invoke_j220 K G6) ((rat G5 116 601 (G5 84 11)) + 1) G5)
def w_X2_invoke_j178 (K : Gt → Prop) (x2 : Int32) (x3 : Int32) (G0 : Gt) : Prop :=
  pif (x2 = 2) (
    w_X2_invoke_j192 K x3 (G0 84 16) G0) (
    w_X2_invoke_j192 K x3 0 G0)
def w_X2_invoke_j139 (K : Gt → Prop) (x1 : Int32) (x2 : Int32) (x3 : Int32) (x4 : Int32) (G0 : Gt) : Prop :=
  pif (x3 = 2) (
    pif (2 ≤ x2) (
      w_X2_invoke_j178 K x2 x3 G0) (
      pif ((rat G0 39 6 x1) = (-1)) (
        w_X2_invoke_j178 K x2 x3 G0) (
        w_X2_begin (fun G7 =>
          K G7) (rat G0 39 6 x1) x4 2 G0))) (
    w_X2_invoke_j178 K x2 x3 G0)
def w_X2_invoke_j136 (K : Gt → Prop) (x1 : Int32) (x2 : Int32) (x3 : Int32) (x4 : Int32) (y1 : Int32) (y2 : Int32) (y3 : Int32) (G0 : Gt) : Prop :=
  w_X7_bind (fun G8 =>
    w_X2_invoke_j139 K x1 x2 x3 x4 G8) y1 y2 y3 G0
def w_X2_invoke_j103 (K : Gt → Prop) (x1 : Int32) (x2 : Int32) (x3 : Int32) (x4 : Int32) (y0 : Int32) (G0 : Gt) : Prop :=
  pif (x2 = 2) (
    w_X2_invoke_j136 K x1 x2 x3 x4 x4 0 (rat G0 122 601 (G0 84 11)) G0) (
    w_X2_invoke_j136 K x1 x2 x3 x4 x4 0 y0 G0)
def w_X2_invoke (K : Gt → Prop) (p0 : Int32) (p1 : Int32) (G0 : Gt) : Prop :=
  pif ((rat G0 35 6 p0) = (-1)) (
    w_X2_fail (fun G10 =>
      K G10) (-1) G0) (
    pif (p1 ≤ (rat G0 37 6 p0)) (
      w_X7_open (fun v2 G1 =>
        pt (rput G1 124 601 (G1 84 11) v2) fun G3 =>
        pt (rput G3 126 601 (G3 84 11) p0) fun G4 =>
        pif ((rat G0 37 6 p0) ≤ 0) (
          w_X2_invoke_j139 K p0 p1 (rat G0 37 6 p0) v2 G4) (
          pif (p1 = 1) (
            w_X2_invoke_j103 K p0 p1 (rat G0 37 6 p0) v2 (G4 84 16) G4) (
            w_X2_invoke_j103 K p0 p1 (rat G0 37 6 p0) v2 0 G4))) (-1) G0) (
      w_X2_fail (fun G9 =>
        K G9) (-3) G0))
set_option maxHeartbeats 4000000 in
set_option maxRecDepth 100000 in
theorem t_X2_invoke {l : Launch}  (p0 : Int32) (p1 : Int32) (G0 : Gt) (K : Gt → Prop) (hw : w_X2_invoke K p0 p1 G0) : CT0 l yX2_invoke cX2_invoke 6 none 2 46 [.ref 84, .int p0, .int p1] shB G0 (fun r G' => r = none ∧ K G') := by
  refine CT0_of (by decide) (Nat.le_of_ble_eq_true rfl) rfl ?_
  intro p e s m args below meth c D tA ad A C hr _
  have h220 : ∀ (G0 : Gt), w_X2_invoke_j220 K  G0 → aw p l e { frames := 2, cells := 0, slots := 0, locals := 46 } s m args below meth c 6 D tA A (MQ below (QC0 D tA ad A shB (fun r G' => r = none ∧ K G')) args s 0 0 A) 0 0 ad 220 [none, none, none, none, none, none] [] shB G0 := by
    intro   G0 hw
    unfold w_X2_invoke_j220 at hw
    exact aw_return C hr dX2_invoke_220 ⟨rfl, hw⟩
  have h192 : ∀ (x3 : Int32) (y1 : Int32) (G0 : Gt), w_X2_invoke_j192 K x3 y1 G0 → aw p l e { frames := 2, cells := 0, slots := 0, locals := 46 } s m args below meth c 6 D tA A (MQ below (QC0 D tA ad A shB (fun r G' => r = none ∧ K G')) args s 0 0 A) 0 0 ad 192 [some (.ref 84), none, none, some (.int x3), none, none] [.int y1, .ref 84] shB G0 := by
    intro  x3 y1 G0 hw
    unfold w_X2_invoke_j192 at hw
    refine aw_putI C dX2_invoke_192 kcX2 shB_84 16 (by decide) rfl mF_X2_78 rfl rfl rfl hw (fun G5 hw => ?_)
    refine aw_iloadn C dX2_invoke_195 rfl ?_
    refine aw_iconst (v := 2) C dX2_invoke_196 (by decide) ?_
    refine aw_ic_ge C dX2_invoke_197 220 (by decide) hw (fun hc197 hw => ?_) (fun hc197 hw => ?_)
    · exact aw_msk [false, false, false, false, false, false] (h220 _ hw)
    · refine aw_aloadn C dX2_invoke_200 rfl ?_
      refine aw_aloadn C dX2_invoke_201 rfl ?_
      refine aw_getR (r := 106) C dX2_invoke_202 kcX2 shB_84 3 (by decide) rfl mF_X2_21 ?_
      refine aw_getR (r := 115) C dX2_invoke_205 kcX1 shB_106 4 (by decide) rfl mF_X2_127 ?_
      refine aw_aloadn C dX2_invoke_208 rfl ?_
      refine aw_getI C dX2_invoke_209 kcX2 shB_84 11 (by decide) rfl mF_X2_91 ?_
      refine aw_callV C dX2_invoke_212 (t_at rowB_115 (Nat.le_of_ble_eq_true rfl) (G5 84 11) _) mM_X2_119 bX6_at rowB_115.1 rfl rfl ⟨Nat.le_of_ble_eq_true rfl, Nat.le_of_ble_eq_true rfl, Nat.zero_le _, Nat.zero_le _⟩ _ rfl (Nat.le_of_ble_eq_true rfl) (fun r212 G212x hq => ?_)
      obtain ⟨rfl, rfl⟩ := hq
      refine aw_iconst (v := 1) C dX2_invoke_215 (by decide) ?_
      refine aw_iadd C dX2_invoke_216 ?_
      refine aw_callV C dX2_invoke_217 (t_X2_jump ((rat G5 116 601 (G5 84 11)) + 1) _ _ hw) mM_X2_221 bX2_jump shB_84 rfl rfl ⟨Nat.le_of_ble_eq_true rfl, Nat.le_of_ble_eq_true rfl, Nat.zero_le _, Nat.zero_le _⟩ _ rfl (Nat.le_of_ble_eq_true rfl) (fun r217 G6 hq => ?_)
      obtain ⟨rfl, hw⟩ := hq
      exact aw_msk [false, false, false, false, false, false] (h220 _ hw)
  have h178 : ∀ (x2 : Int32) (x3 : Int32) (G0 : Gt), w_X2_invoke_j178 K x2 x3 G0 → aw p l e { frames := 2, cells := 0, slots := 0, locals := 46 } s m args below meth c 6 D tA A (MQ below (QC0 D tA ad A shB (fun r G' => r = none ∧ K G')) args s 0 0 A) 0 0 ad 178 [some (.ref 84), none, some (.int x2), some (.int x3), none, none] [] shB G0 := by
    intro  x2 x3 G0 hw
    unfold w_X2_invoke_j178 at hw
    refine aw_aloadn C dX2_invoke_178 rfl ?_
    refine aw_iloadn C dX2_invoke_179 rfl ?_
    refine aw_iconst (v := 2) C dX2_invoke_180 (by decide) ?_
    refine aw_ic_ne C dX2_invoke_181 191 (by decide) hw (fun hc181 hw => ?_) (fun hc181 hw => ?_)
    · refine aw_iconst (v := 0) C dX2_invoke_191 (by decide) ?_
      exact aw_msk [true, false, false, true, false, false] (h192 x3 0 _ hw)
    · refine aw_aloadn C dX2_invoke_184 rfl ?_
      refine aw_getI C dX2_invoke_185 kcX2 shB_84 16 (by decide) rfl mF_X2_78 ?_
      refine aw_goto (tgt := 192) C dX2_invoke_188 (by decide) ?_
      exact aw_msk [true, false, false, true, false, false] (h192 x3 (G0 84 16) _ hw)
  have h139 : ∀ (x1 : Int32) (x2 : Int32) (x3 : Int32) (x4 : Int32) (G0 : Gt), w_X2_invoke_j139 K x1 x2 x3 x4 G0 → aw p l e { frames := 2, cells := 0, slots := 0, locals := 46 } s m args below meth c 6 D tA A (MQ below (QC0 D tA ad A shB (fun r G' => r = none ∧ K G')) args s 0 0 A) 0 0 ad 139 [some (.ref 84), some (.int x1), some (.int x2), some (.int x3), some (.int x4), none] [] shB G0 := by
    intro  x1 x2 x3 x4 G0 hw
    unfold w_X2_invoke_j139 at hw
    refine aw_aloadn C dX2_invoke_139 rfl ?_
    refine aw_getR (r := 19) C dX2_invoke_140 kcX2 shB_84 1 (by decide) rfl mF_X2_43 ?_
    refine aw_getR (r := 38) C dX2_invoke_143 kcX9 (worldS_19 shOK_B).1 6 (by decide) rfl mF_X2_398 ?_
    refine aw_iloadn C dX2_invoke_146 rfl ?_
    refine aw_callV C dX2_invoke_147 (t_at (rowS_38 shOK_B) (Nat.le_of_ble_eq_true rfl) x1 _) mM_X2_119 bX6_at (rowS_38 shOK_B).1 rfl rfl ⟨Nat.le_of_ble_eq_true rfl, Nat.le_of_ble_eq_true rfl, Nat.zero_le _, Nat.zero_le _⟩ _ rfl (Nat.le_of_ble_eq_true rfl) (fun r147 G147x hq => ?_)
    obtain ⟨rfl, rfl⟩ := hq
    refine aw_istore C dX2_invoke_150 (by decide) rfl ?_
    refine aw_iloadn C dX2_invoke_152 rfl ?_
    refine aw_iconst (v := 2) C dX2_invoke_153 (by decide) ?_
    refine aw_ic_ne C dX2_invoke_154 178 (by decide) hw (fun hc154 hw => ?_) (fun hc154 hw => ?_)
    · exact aw_msk [true, false, true, true, false, false] (h178 x2 x3 _ hw)
    · refine aw_iloadn C dX2_invoke_157 rfl ?_
      refine aw_iconst (v := 2) C dX2_invoke_158 (by decide) ?_
      refine aw_ic_ge C dX2_invoke_159 178 (by decide) hw (fun hc159 hw => ?_) (fun hc159 hw => ?_)
      · exact aw_msk [true, false, true, true, false, false] (h178 x2 x3 _ hw)
      · refine aw_iload C dX2_invoke_162 rfl ?_
        refine aw_iconst (v := (-1)) C dX2_invoke_164 (by decide) ?_
        refine aw_ic_eq C dX2_invoke_165 178 (by decide) hw (fun hc165 hw => ?_) (fun hc165 hw => ?_)
        · exact aw_msk [true, false, true, true, false, false] (h178 x2 x3 _ hw)
        · refine aw_aloadn C dX2_invoke_168 rfl ?_
          refine aw_iload C dX2_invoke_169 rfl ?_
          refine aw_iload C dX2_invoke_171 rfl ?_
          refine aw_iconst (v := 2) C dX2_invoke_173 (by decide) ?_
          refine aw_callV C dX2_invoke_174 (t_X2_begin (rat G0 39 6 x1) x4 2 _ _ hw) mM_X2_101 bX2_begin shB_84 rfl rfl ⟨Nat.le_of_ble_eq_true rfl, Nat.le_of_ble_eq_true rfl, Nat.zero_le _, Nat.zero_le _⟩ _ rfl (Nat.le_of_ble_eq_true rfl) (fun r174 G7 hq => ?_)
          obtain ⟨rfl, hw⟩ := hq
          exact aw_return C hr dX2_invoke_177 ⟨rfl, hw⟩
  have h136 : ∀ (x1 : Int32) (x2 : Int32) (x3 : Int32) (x4 : Int32) (y1 : Int32) (y2 : Int32) (y3 : Int32) (G0 : Gt), w_X2_invoke_j136 K x1 x2 x3 x4 y1 y2 y3 G0 → aw p l e { frames := 2, cells := 0, slots := 0, locals := 46 } s m args below meth c 6 D tA A (MQ below (QC0 D tA ad A shB (fun r G' => r = none ∧ K G')) args s 0 0 A) 0 0 ad 136 [some (.ref 84), some (.int x1), some (.int x2), some (.int x3), some (.int x4), none] [.int y3, .int y2, .int y1, .ref 129] shB G0 := by
    intro  x1 x2 x3 x4 y1 y2 y3 G0 hw
    unfold w_X2_invoke_j136 at hw
    refine aw_callV C dX2_invoke_136 (t_X7_bind y1 y2 y3 _ _ hw) mM_X2_245 bX7_bind shB_129 rfl rfl ⟨Nat.le_of_ble_eq_true rfl, Nat.le_of_ble_eq_true rfl, Nat.zero_le _, Nat.zero_le _⟩ _ rfl (Nat.le_of_ble_eq_true rfl) (fun r136 G8 hq => ?_)
    obtain ⟨rfl, hw⟩ := hq
    exact aw_msk [true, true, true, true, true, false] (h139 x1 x2 x3 x4 _ hw)
  have h103 : ∀ (x1 : Int32) (x2 : Int32) (x3 : Int32) (x4 : Int32) (y0 : Int32) (G0 : Gt), w_X2_invoke_j103 K x1 x2 x3 x4 y0 G0 → aw p l e { frames := 2, cells := 0, slots := 0, locals := 46 } s m args below meth c 6 D tA A (MQ below (QC0 D tA ad A shB (fun r G' => r = none ∧ K G')) args s 0 0 A) 0 0 ad 103 [some (.ref 84), some (.int x1), some (.int x2), some (.int x3), some (.int x4), none] [.int y0] shB G0 := by
    intro  x1 x2 x3 x4 y0 G0 hw
    unfold w_X2_invoke_j103 at hw
    refine aw_istore C dX2_invoke_103 (by decide) rfl ?_
    refine aw_aloadn C dX2_invoke_105 rfl ?_
    refine aw_getR (r := 129) C dX2_invoke_106 kcX2 shB_84 4 (by decide) rfl mF_X2_28 ?_
    refine aw_iload C dX2_invoke_109 rfl ?_
    refine aw_iconst (v := 0) C dX2_invoke_111 (by decide) ?_
    refine aw_iloadn C dX2_invoke_112 rfl ?_
    refine aw_iconst (v := 2) C dX2_invoke_113 (by decide) ?_
    refine aw_ic_ne C dX2_invoke_114 134 (by decide) hw (fun hc114 hw => ?_) (fun hc114 hw => ?_)
    · refine aw_iload C dX2_invoke_134 rfl ?_
      exact aw_msk [true, true, true, true, true, false] (h136 x1 x2 x3 x4 x4 0 y0 _ hw)
    · refine aw_aloadn C dX2_invoke_117 rfl ?_
      refine aw_getR (r := 106) C dX2_invoke_118 kcX2 shB_84 3 (by decide) rfl mF_X2_21 ?_
      refine aw_getR (r := 121) C dX2_invoke_121 kcX1 shB_106 7 (by decide) rfl mF_X2_218 ?_
      refine aw_aloadn C dX2_invoke_124 rfl ?_
      refine aw_getI C dX2_invoke_125 kcX2 shB_84 11 (by decide) rfl mF_X2_91 ?_
      refine aw_callV C dX2_invoke_128 (t_at rowB_121 (Nat.le_of_ble_eq_true rfl) (G0 84 11) _) mM_X2_119 bX6_at rowB_121.1 rfl rfl ⟨Nat.le_of_ble_eq_true rfl, Nat.le_of_ble_eq_true rfl, Nat.zero_le _, Nat.zero_le _⟩ _ rfl (Nat.le_of_ble_eq_true rfl) (fun r128 G128x hq => ?_)
      obtain ⟨rfl, rfl⟩ := hq
      refine aw_goto (tgt := 136) C dX2_invoke_131 (by decide) ?_
      exact aw_msk [true, true, true, true, true, false] (h136 x1 x2 x3 x4 x4 0 (rat G0 122 601 (G0 84 11)) _ hw)
  unfold w_X2_invoke at hw
  show aw p l e { frames := 2, cells := 0, slots := 0, locals := 46 } s m args below meth c 6 D tA A (MQ below (QC0 D tA ad A shB (fun r G' => r = none ∧ K G')) args s 0 0 A) 0 0 ad 0 [some (.ref 84), some (.int p0), some (.int p1), none, none, none] [] shB G0
  refine aw_aloadn C dX2_invoke_0 rfl ?_
  refine aw_getR (r := 19) C dX2_invoke_1 kcX2 shB_84 1 (by decide) rfl mF_X2_43 ?_
  refine aw_getR (r := 36) C dX2_invoke_4 kcX9 (worldS_19 shOK_B).1 5 (by decide) rfl mF_X2_395 ?_
  refine aw_iloadn C dX2_invoke_7 rfl ?_
  refine aw_callV C dX2_invoke_8 (t_at (rowS_36 shOK_B) (Nat.le_of_ble_eq_true rfl) p0 _) mM_X2_119 bX6_at (rowS_36 shOK_B).1 rfl rfl ⟨Nat.le_of_ble_eq_true rfl, Nat.le_of_ble_eq_true rfl, Nat.zero_le _, Nat.zero_le _⟩ _ rfl (Nat.le_of_ble_eq_true rfl) (fun r8 G8x hq => ?_)
  obtain ⟨rfl, rfl⟩ := hq
  refine aw_istoren C dX2_invoke_11 (by decide) rfl ?_
  refine aw_aloadn C dX2_invoke_12 rfl ?_
  refine aw_getR (r := 19) C dX2_invoke_13 kcX2 shB_84 1 (by decide) rfl mF_X2_43 ?_
  refine aw_getR (r := 34) C dX2_invoke_16 kcX9 (worldS_19 shOK_B).1 4 (by decide) rfl mF_X2_248 ?_
  refine aw_iloadn C dX2_invoke_19 rfl ?_
  refine aw_callV C dX2_invoke_20 (t_at (rowS_34 shOK_B) (Nat.le_of_ble_eq_true rfl) p0 _) mM_X2_119 bX6_at (rowS_34 shOK_B).1 rfl rfl ⟨Nat.le_of_ble_eq_true rfl, Nat.le_of_ble_eq_true rfl, Nat.zero_le _, Nat.zero_le _⟩ _ rfl (Nat.le_of_ble_eq_true rfl) (fun r20 G20x hq => ?_)
  obtain ⟨rfl, rfl⟩ := hq
  refine aw_iconst (v := (-1)) C dX2_invoke_23 (by decide) ?_
  refine aw_ic_ne C dX2_invoke_24 33 (by decide) hw (fun hc24 hw => ?_) (fun hc24 hw => ?_)
  · refine aw_iloadn C dX2_invoke_33 rfl ?_
    refine aw_iloadn C dX2_invoke_34 rfl ?_
    refine aw_ic_le C dX2_invoke_35 45 (by decide) hw (fun hc35 hw => ?_) (fun hc35 hw => ?_)
    · refine aw_aloadn C dX2_invoke_45 rfl ?_
      refine aw_getR (r := 129) C dX2_invoke_46 kcX2 shB_84 4 (by decide) rfl mF_X2_28 ?_
      refine aw_iconst (v := (-1)) C dX2_invoke_49 (by decide) ?_
      refine aw_callV C dX2_invoke_50 (t_X7_open (-1) _ _ hw) mM_X2_97 bX7_open shB_129 rfl rfl ⟨Nat.le_of_ble_eq_true rfl, Nat.le_of_ble_eq_true rfl, Nat.zero_le _, Nat.zero_le _⟩ _ rfl (Nat.le_of_ble_eq_true rfl) (fun r50 G1 hq => ?_)
      obtain ⟨v2, rfl, hw⟩ := hq
      refine aw_istore C dX2_invoke_53 (by decide) rfl ?_
      refine aw_aloadn C dX2_invoke_55 rfl ?_
      refine aw_getR (r := 106) C dX2_invoke_56 kcX2 shB_84 3 (by decide) rfl mF_X2_21 ?_
      refine aw_getR (r := 123) C dX2_invoke_59 kcX1 shB_106 8 (by decide) rfl mF_X2_212 ?_
      refine aw_aloadn C dX2_invoke_62 rfl ?_
      refine aw_getI C dX2_invoke_63 kcX2 shB_84 11 (by decide) rfl mF_X2_91 ?_
      refine aw_iload C dX2_invoke_66 rfl ?_
      refine aw_callV C dX2_invoke_68 (t_put rowB_123 (Nat.le_of_ble_eq_true rfl) (G1 84 11) v2 _) mM_X2_142 bX6_put rowB_123.1 rfl rfl ⟨Nat.le_of_ble_eq_true rfl, Nat.le_of_ble_eq_true rfl, Nat.zero_le _, Nat.zero_le _⟩ _ rfl (Nat.le_of_ble_eq_true rfl) (fun r68 G3 hq => ?_)
      obtain ⟨rfl, hq⟩ := hq
      replace hw := pt_eq hw hq
      refine aw_aloadn C dX2_invoke_71 rfl ?_
      refine aw_getR (r := 106) C dX2_invoke_72 kcX2 shB_84 3 (by decide) rfl mF_X2_21 ?_
      refine aw_getR (r := 125) C dX2_invoke_75 kcX1 shB_106 9 (by decide) rfl mF_X2_249 ?_
      refine aw_aloadn C dX2_invoke_78 rfl ?_
      refine aw_getI C dX2_invoke_79 kcX2 shB_84 11 (by decide) rfl mF_X2_91 ?_
      refine aw_iloadn C dX2_invoke_82 rfl ?_
      refine aw_callV C dX2_invoke_83 (t_put rowB_125 (Nat.le_of_ble_eq_true rfl) (G3 84 11) p0 _) mM_X2_142 bX6_put rowB_125.1 rfl rfl ⟨Nat.le_of_ble_eq_true rfl, Nat.le_of_ble_eq_true rfl, Nat.zero_le _, Nat.zero_le _⟩ _ rfl (Nat.le_of_ble_eq_true rfl) (fun r83 G4 hq => ?_)
      obtain ⟨rfl, hq⟩ := hq
      replace hw := pt_eq hw hq
      refine aw_iloadn C dX2_invoke_86 rfl ?_
      refine aw_if_le C dX2_invoke_87 139 (by decide) hw (fun hc87 hw => ?_) (fun hc87 hw => ?_)
      · exact aw_msk [true, true, true, true, true, false] (h139 p0 p1 (rat G0 37 6 p0) v2 _ hw)
      · refine aw_iloadn C dX2_invoke_90 rfl ?_
        refine aw_iconst (v := 1) C dX2_invoke_91 (by decide) ?_
        refine aw_ic_ne C dX2_invoke_92 102 (by decide) hw (fun hc92 hw => ?_) (fun hc92 hw => ?_)
        · refine aw_iconst (v := 0) C dX2_invoke_102 (by decide) ?_
          exact aw_msk [true, true, true, true, true, false] (h103 p0 p1 (rat G0 37 6 p0) v2 0 _ hw)
        · refine aw_aloadn C dX2_invoke_95 rfl ?_
          refine aw_getI C dX2_invoke_96 kcX2 shB_84 16 (by decide) rfl mF_X2_78 ?_
          refine aw_goto (tgt := 103) C dX2_invoke_99 (by decide) ?_
          exact aw_msk [true, true, true, true, true, false] (h103 p0 p1 (rat G0 37 6 p0) v2 (G4 84 16) _ hw)
    · refine aw_aloadn C dX2_invoke_38 rfl ?_
      refine aw_bipush (v := (-3)) C dX2_invoke_39 (by decide) ?_
      refine aw_callV C dX2_invoke_41 (t_X2_fail (-3) _ _ hw) mM_X2_176 bX2_fail shB_84 rfl rfl ⟨Nat.le_of_ble_eq_true rfl, Nat.le_of_ble_eq_true rfl, Nat.zero_le _, Nat.zero_le _⟩ _ rfl (Nat.le_of_ble_eq_true rfl) (fun r41 G9 hq => ?_)
      obtain ⟨rfl, hw⟩ := hq
      exact aw_return C hr dX2_invoke_44 ⟨rfl, hw⟩
  · refine aw_aloadn C dX2_invoke_27 rfl ?_
    refine aw_iconst (v := (-1)) C dX2_invoke_28 (by decide) ?_
    refine aw_callV C dX2_invoke_29 (t_X2_fail (-1) _ _ hw) mM_X2_176 bX2_fail shB_84 rfl rfl ⟨Nat.le_of_ble_eq_true rfl, Nat.le_of_ble_eq_true rfl, Nat.zero_le _, Nat.zero_le _⟩ _ rfl (Nat.le_of_ble_eq_true rfl) (fun r29 G10 hq => ?_)
    obtain ⟨rfl, hw⟩ := hq
    exact aw_return C hr dX2_invoke_32 ⟨rfl, hw⟩
def w_X2_move_j54 (t0 : Nat) (K : Gt → Prop)  (G0 : Gt) : Prop :=
  K G0
def w_X2_move (t0 : Nat) (K : Gt → Prop) (G0 : Gt) : Prop :=
  pif ((inm (G0 84 16)) = 0) (
    w_X2_fail (fun G5 =>
      w_X2_move_j54 t0 K G5) (-3) G0) (
    w_X8_hasPlace t0 (fun v2 G1 =>
      pif (v2 = 0) (
        w_X2_fail (fun G4 =>
          w_X2_move_j54 t0 K G4) (-4) G1) (
        pt (rput G1 (t0 + 4) 4 (G1 t0 3) (G1 84 16)) fun G3 =>
        w_X2_move_j54 t0 K G3)) (G0 84 16) G0)
set_option maxHeartbeats 4000000 in
set_option maxRecDepth 100000 in
theorem t_X2_move {l : Launch} {t0 : Nat} (hT0 : isText shB t0) (G0 : Gt) (K : Gt → Prop) (hw : w_X2_move t0 K G0) : CT0 l yX2_move cX2_move 2 none 2 43 [.ref 84, .ref t0] shB G0 (fun r G' => r = none ∧ K G') := by
  refine CT0_of (by decide) (Nat.le_of_ble_eq_true rfl) rfl ?_
  intro p e s m args below meth c D tA ad A C hr _
  have h54 : ∀ (G0 : Gt), w_X2_move_j54 t0 K  G0 → aw p l e { frames := 2, cells := 0, slots := 0, locals := 43 } s m args below meth c 2 D tA A (MQ below (QC0 D tA ad A shB (fun r G' => r = none ∧ K G')) args s 0 0 A) 0 0 ad 54 [none, none] [] shB G0 := by
    intro   G0 hw
    unfold w_X2_move_j54 at hw
    exact aw_return C hr dX2_move_54 ⟨rfl, hw⟩
  unfold w_X2_move at hw
  show aw p l e { frames := 2, cells := 0, slots := 0, locals := 43 } s m args below meth c 2 D tA A (MQ below (QC0 D tA ad A shB (fun r G' => r = none ∧ K G')) args s 0 0 A) 0 0 ad 0 [some (.ref 84), some (.ref t0)] [] shB G0
  refine aw_aloadn C dX2_move_0 rfl ?_
  refine aw_getI C dX2_move_1 kcX2 shB_84 16 (by decide) rfl mF_X2_78 ?_
  refine aw_callSN C dX2_move_4 (t_isNumber (G0 84 16) _) mE_X2_265 bX10_isNumber rfl ⟨Nat.le_of_ble_eq_true rfl, Nat.le_of_ble_eq_true rfl, Nat.zero_le _, Nat.zero_le _⟩ _ rfl (Nat.le_of_ble_eq_true rfl) (fun r4 G4x hq => ?_)
  obtain ⟨rfl, rfl⟩ := hq
  refine aw_if_ne C dX2_move_7 19 (by decide) hw (fun hc7 hw => ?_) (fun hc7 hw => ?_)
  · refine aw_aloadn C dX2_move_19 rfl ?_
    refine aw_aloadn C dX2_move_20 rfl ?_
    refine aw_getI C dX2_move_21 kcX2 shB_84 16 (by decide) rfl mF_X2_78 ?_
    refine aw_callV C dX2_move_24 (t_X8_hasPlace hT0 (G0 84 16) _ _ hw) mM_X2_430 bX8_hasPlace hT0.1 rfl rfl ⟨Nat.le_of_ble_eq_true rfl, Nat.le_of_ble_eq_true rfl, Nat.zero_le _, Nat.zero_le _⟩ _ rfl (Nat.le_of_ble_eq_true rfl) (fun r24 G1 hq => ?_)
    obtain ⟨v2, rfl, hw⟩ := hq
    refine aw_if_ne C dX2_move_27 39 (by decide) hw (fun hc27 hw => ?_) (fun hc27 hw => ?_)
    · refine aw_aloadn C dX2_move_39 rfl ?_
      refine aw_getR (r := (t0 + 3)) C dX2_move_40 kcX8 hT0.1 1 (by decide) rfl mF_X2_433 ?_
      refine aw_aloadn C dX2_move_43 rfl ?_
      refine aw_getI C dX2_move_44 kcX8 hT0.1 3 (by decide) rfl mF_X2_338 ?_
      refine aw_aloadn C dX2_move_47 rfl ?_
      refine aw_getI C dX2_move_48 kcX2 shB_84 16 (by decide) rfl mF_X2_78 ?_
      refine aw_callV C dX2_move_51 (t_put hT0.2.2 (Nat.le_of_ble_eq_true rfl) (G1 t0 3) (G1 84 16) _) mM_X2_142 bX6_put hT0.2.2.1 rfl rfl ⟨Nat.le_of_ble_eq_true rfl, Nat.le_of_ble_eq_true rfl, Nat.zero_le _, Nat.zero_le _⟩ _ rfl (Nat.le_of_ble_eq_true rfl) (fun r51 G3 hq => ?_)
      obtain ⟨rfl, hq⟩ := hq
      replace hw := pt_eq hw hq
      exact aw_msk [false, false] (h54 _ hw)
    · refine aw_aloadn C dX2_move_30 rfl ?_
      refine aw_bipush (v := (-4)) C dX2_move_31 (by decide) ?_
      refine aw_callV C dX2_move_33 (t_X2_fail (-4) _ _ hw) mM_X2_176 bX2_fail shB_84 rfl rfl ⟨Nat.le_of_ble_eq_true rfl, Nat.le_of_ble_eq_true rfl, Nat.zero_le _, Nat.zero_le _⟩ _ rfl (Nat.le_of_ble_eq_true rfl) (fun r33 G4 hq => ?_)
      obtain ⟨rfl, hw⟩ := hq
      refine aw_goto (tgt := 54) C dX2_move_36 (by decide) ?_
      exact aw_msk [false, false] (h54 _ hw)
  · refine aw_aloadn C dX2_move_10 rfl ?_
    refine aw_bipush (v := (-3)) C dX2_move_11 (by decide) ?_
    refine aw_callV C dX2_move_13 (t_X2_fail (-3) _ _ hw) mM_X2_176 bX2_fail shB_84 rfl rfl ⟨Nat.le_of_ble_eq_true rfl, Nat.le_of_ble_eq_true rfl, Nat.zero_le _, Nat.zero_le _⟩ _ rfl (Nat.le_of_ble_eq_true rfl) (fun r13 G5 hq => ?_)
    obtain ⟨rfl, hw⟩ := hq
    refine aw_goto (tgt := 54) C dX2_move_16 (by decide) ?_
    exact aw_msk [false, false] (h54 _ hw)
def w_X2_addCursor_j66 (t0 : Nat) (K : Gt → Prop)  (G0 : Gt) : Prop :=
  K G0
def w_X2_addCursor_j40 (t0 : Nat) (K : Gt → Prop)  (G0 : Gt) : Prop :=
  w_X2_fail (fun G5 =>
    w_X2_addCursor_j66 t0 K G5) (-4) G0
def w_X2_addCursor (t0 : Nat) (K : Gt → Prop) (G0 : Gt) : Prop :=
  w_X8_freeCursor t0 (fun v2 G1 =>
    pif ((inm (G1 84 16)) = 0) (
      w_X2_fail (fun G8 =>
        w_X2_addCursor_j66 t0 K G8) (-3) G1) (
      w_X8_hasPlace t0 (fun v4 G3 =>
        pif (v4 = 0) (
          w_X2_addCursor_j40 t0 K G3) (
          pif (v2 = (-1)) (
            w_X2_addCursor_j40 t0 K G3) (
            pt (rput G3 (t0 + 4) 4 v2 (G3 84 16)) fun G6 =>
            pt (gu G6 84 16 v2) fun G7 =>
            w_X2_addCursor_j66 t0 K G7))) (G1 84 16) G1)) G0
set_option maxHeartbeats 4000000 in
set_option maxRecDepth 100000 in
theorem t_X2_addCursor {l : Launch} {t0 : Nat} (hT0 : isText shB t0) (G0 : Gt) (K : Gt → Prop) (hw : w_X2_addCursor t0 K G0) : CT0 l yX2_addCursor cX2_addCursor 3 none 2 43 [.ref 84, .ref t0] shB G0 (fun r G' => r = none ∧ K G') := by
  refine CT0_of (by decide) (Nat.le_of_ble_eq_true rfl) rfl ?_
  intro p e s m args below meth c D tA ad A C hr _
  have h66 : ∀ (G0 : Gt), w_X2_addCursor_j66 t0 K  G0 → aw p l e { frames := 2, cells := 0, slots := 0, locals := 43 } s m args below meth c 3 D tA A (MQ below (QC0 D tA ad A shB (fun r G' => r = none ∧ K G')) args s 0 0 A) 0 0 ad 66 [none, none, none] [] shB G0 := by
    intro   G0 hw
    unfold w_X2_addCursor_j66 at hw
    exact aw_return C hr dX2_addCursor_66 ⟨rfl, hw⟩
  have h40 : ∀ (G0 : Gt), w_X2_addCursor_j40 t0 K  G0 → aw p l e { frames := 2, cells := 0, slots := 0, locals := 43 } s m args below meth c 3 D tA A (MQ below (QC0 D tA ad A shB (fun r G' => r = none ∧ K G')) args s 0 0 A) 0 0 ad 40 [some (.ref 84), none, none] [] shB G0 := by
    intro   G0 hw
    unfold w_X2_addCursor_j40 at hw
    refine aw_aloadn C dX2_addCursor_40 rfl ?_
    refine aw_bipush (v := (-4)) C dX2_addCursor_41 (by decide) ?_
    refine aw_callV C dX2_addCursor_43 (t_X2_fail (-4) _ _ hw) mM_X2_176 bX2_fail shB_84 rfl rfl ⟨Nat.le_of_ble_eq_true rfl, Nat.le_of_ble_eq_true rfl, Nat.zero_le _, Nat.zero_le _⟩ _ rfl (Nat.le_of_ble_eq_true rfl) (fun r43 G5 hq => ?_)
    obtain ⟨rfl, hw⟩ := hq
    refine aw_goto (tgt := 66) C dX2_addCursor_46 (by decide) ?_
    exact aw_msk [false, false, false] (h66 _ hw)
  unfold w_X2_addCursor at hw
  show aw p l e { frames := 2, cells := 0, slots := 0, locals := 43 } s m args below meth c 3 D tA A (MQ below (QC0 D tA ad A shB (fun r G' => r = none ∧ K G')) args s 0 0 A) 0 0 ad 0 [some (.ref 84), some (.ref t0), none] [] shB G0
  refine aw_aloadn C dX2_addCursor_0 rfl ?_
  refine aw_callV C dX2_addCursor_1 (t_X8_freeCursor hT0 _ _ hw) mM_X2_434 bX8_freeCursor hT0.1 rfl rfl ⟨Nat.le_of_ble_eq_true rfl, Nat.le_of_ble_eq_true rfl, Nat.zero_le _, Nat.zero_le _⟩ _ rfl (Nat.le_of_ble_eq_true rfl) (fun r1 G1 hq => ?_)
  obtain ⟨v2, rfl, hw⟩ := hq
  refine aw_istoren C dX2_addCursor_4 (by decide) rfl ?_
  refine aw_aloadn C dX2_addCursor_5 rfl ?_
  refine aw_getI C dX2_addCursor_6 kcX2 shB_84 16 (by decide) rfl mF_X2_78 ?_
  refine aw_callSN C dX2_addCursor_9 (t_isNumber (G1 84 16) _) mE_X2_265 bX10_isNumber rfl ⟨Nat.le_of_ble_eq_true rfl, Nat.le_of_ble_eq_true rfl, Nat.zero_le _, Nat.zero_le _⟩ _ rfl (Nat.le_of_ble_eq_true rfl) (fun r9 G9x hq => ?_)
  obtain ⟨rfl, rfl⟩ := hq
  refine aw_if_ne C dX2_addCursor_12 24 (by decide) hw (fun hc12 hw => ?_) (fun hc12 hw => ?_)
  · refine aw_aloadn C dX2_addCursor_24 rfl ?_
    refine aw_aloadn C dX2_addCursor_25 rfl ?_
    refine aw_getI C dX2_addCursor_26 kcX2 shB_84 16 (by decide) rfl mF_X2_78 ?_
    refine aw_callV C dX2_addCursor_29 (t_X8_hasPlace hT0 (G1 84 16) _ _ hw) mM_X2_430 bX8_hasPlace hT0.1 rfl rfl ⟨Nat.le_of_ble_eq_true rfl, Nat.le_of_ble_eq_true rfl, Nat.zero_le _, Nat.zero_le _⟩ _ rfl (Nat.le_of_ble_eq_true rfl) (fun r29 G3 hq => ?_)
    obtain ⟨v4, rfl, hw⟩ := hq
    refine aw_if_eq C dX2_addCursor_32 40 (by decide) hw (fun hc32 hw => ?_) (fun hc32 hw => ?_)
    · exact aw_msk [true, false, false] (h40 _ hw)
    · refine aw_iloadn C dX2_addCursor_35 rfl ?_
      refine aw_iconst (v := (-1)) C dX2_addCursor_36 (by decide) ?_
      refine aw_ic_ne C dX2_addCursor_37 49 (by decide) hw (fun hc37 hw => ?_) (fun hc37 hw => ?_)
      · refine aw_aloadn C dX2_addCursor_49 rfl ?_
        refine aw_getR (r := (t0 + 3)) C dX2_addCursor_50 kcX8 hT0.1 1 (by decide) rfl mF_X2_433 ?_
        refine aw_iloadn C dX2_addCursor_53 rfl ?_
        refine aw_aloadn C dX2_addCursor_54 rfl ?_
        refine aw_getI C dX2_addCursor_55 kcX2 shB_84 16 (by decide) rfl mF_X2_78 ?_
        refine aw_callV C dX2_addCursor_58 (t_put hT0.2.2 (Nat.le_of_ble_eq_true rfl) v2 (G3 84 16) _) mM_X2_142 bX6_put hT0.2.2.1 rfl rfl ⟨Nat.le_of_ble_eq_true rfl, Nat.le_of_ble_eq_true rfl, Nat.zero_le _, Nat.zero_le _⟩ _ rfl (Nat.le_of_ble_eq_true rfl) (fun r58 G6 hq => ?_)
        obtain ⟨rfl, hq⟩ := hq
        replace hw := pt_eq hw hq
        refine aw_aloadn C dX2_addCursor_61 rfl ?_
        refine aw_iloadn C dX2_addCursor_62 rfl ?_
        refine aw_putI C dX2_addCursor_63 kcX2 shB_84 16 (by decide) rfl mF_X2_78 rfl rfl rfl hw (fun G7 hw => ?_)
        exact aw_msk [false, false, false] (h66 _ hw)
      · exact aw_msk [true, false, false] (h40 _ hw)
  · refine aw_aloadn C dX2_addCursor_15 rfl ?_
    refine aw_bipush (v := (-3)) C dX2_addCursor_16 (by decide) ?_
    refine aw_callV C dX2_addCursor_18 (t_X2_fail (-3) _ _ hw) mM_X2_176 bX2_fail shB_84 rfl rfl ⟨Nat.le_of_ble_eq_true rfl, Nat.le_of_ble_eq_true rfl, Nat.zero_le _, Nat.zero_le _⟩ _ rfl (Nat.le_of_ble_eq_true rfl) (fun r18 G8 hq => ?_)
    obtain ⟨rfl, hw⟩ := hq
    refine aw_goto (tgt := 66) C dX2_addCursor_21 (by decide) ?_
    exact aw_msk [false, false, false] (h66 _ hw)
def w_X2_choose_j50 (K : Gt → Prop)  (G0 : Gt) : Prop :=
  K G0
def w_X2_choose (K : Gt → Prop) (G0 : Gt) : Prop :=
  pif ((inm (G0 84 16)) = 0) (
    w_X2_fail (fun G3 =>
      w_X2_choose_j50 K G3) (-3) G0) (
    pif ((ibl (G0 84 16) 2) = 0) (
      w_X2_fail (fun G2 =>
        w_X2_choose_j50 K G2) (-4) G0) (
      pt (gu G0 19 7 (G0 84 16)) fun G1 =>
      w_X2_choose_j50 K G1))
set_option maxHeartbeats 4000000 in
set_option maxRecDepth 100000 in
theorem t_X2_choose {l : Launch}  (G0 : Gt) (K : Gt → Prop) (hw : w_X2_choose K G0) : CT0 l yX2_choose cX2_choose 1 none 2 43 [.ref 84] shB G0 (fun r G' => r = none ∧ K G') := by
  refine CT0_of (by decide) (Nat.le_of_ble_eq_true rfl) rfl ?_
  intro p e s m args below meth c D tA ad A C hr _
  have h50 : ∀ (G0 : Gt), w_X2_choose_j50 K  G0 → aw p l e { frames := 2, cells := 0, slots := 0, locals := 43 } s m args below meth c 1 D tA A (MQ below (QC0 D tA ad A shB (fun r G' => r = none ∧ K G')) args s 0 0 A) 0 0 ad 50 [none] [] shB G0 := by
    intro   G0 hw
    unfold w_X2_choose_j50 at hw
    exact aw_return C hr dX2_choose_50 ⟨rfl, hw⟩
  unfold w_X2_choose at hw
  show aw p l e { frames := 2, cells := 0, slots := 0, locals := 43 } s m args below meth c 1 D tA A (MQ below (QC0 D tA ad A shB (fun r G' => r = none ∧ K G')) args s 0 0 A) 0 0 ad 0 [some (.ref 84)] [] shB G0
  refine aw_aloadn C dX2_choose_0 rfl ?_
  refine aw_getI C dX2_choose_1 kcX2 shB_84 16 (by decide) rfl mF_X2_78 ?_
  refine aw_callSN C dX2_choose_4 (t_isNumber (G0 84 16) _) mE_X2_265 bX10_isNumber rfl ⟨Nat.le_of_ble_eq_true rfl, Nat.le_of_ble_eq_true rfl, Nat.zero_le _, Nat.zero_le _⟩ _ rfl (Nat.le_of_ble_eq_true rfl) (fun r4 G4x hq => ?_)
  obtain ⟨rfl, rfl⟩ := hq
  refine aw_if_ne C dX2_choose_7 19 (by decide) hw (fun hc7 hw => ?_) (fun hc7 hw => ?_)
  · refine aw_aloadn C dX2_choose_19 rfl ?_
    refine aw_getI C dX2_choose_20 kcX2 shB_84 16 (by decide) rfl mF_X2_78 ?_
    refine aw_iconst (v := 2) C dX2_choose_23 (by decide) ?_
    refine aw_callSN C dX2_choose_24 (t_isBelow (G0 84 16) 2 _) mE_X2_423 bX10_isBelow rfl ⟨Nat.le_of_ble_eq_true rfl, Nat.le_of_ble_eq_true rfl, Nat.zero_le _, Nat.zero_le _⟩ _ rfl (Nat.le_of_ble_eq_true rfl) (fun r24 G24x hq => ?_)
    obtain ⟨rfl, rfl⟩ := hq
    refine aw_if_ne C dX2_choose_27 39 (by decide) hw (fun hc27 hw => ?_) (fun hc27 hw => ?_)
    · refine aw_aloadn C dX2_choose_39 rfl ?_
      refine aw_getR (r := 19) C dX2_choose_40 kcX2 shB_84 1 (by decide) rfl mF_X2_43 ?_
      refine aw_aloadn C dX2_choose_43 rfl ?_
      refine aw_getI C dX2_choose_44 kcX2 shB_84 16 (by decide) rfl mF_X2_78 ?_
      refine aw_putI C dX2_choose_47 kcX9 (worldS_19 shOK_B).1 7 (by decide) rfl mF_X2_307 rfl rfl rfl hw (fun G1 hw => ?_)
      exact aw_msk [false] (h50 _ hw)
    · refine aw_aloadn C dX2_choose_30 rfl ?_
      refine aw_bipush (v := (-4)) C dX2_choose_31 (by decide) ?_
      refine aw_callV C dX2_choose_33 (t_X2_fail (-4) _ _ hw) mM_X2_176 bX2_fail shB_84 rfl rfl ⟨Nat.le_of_ble_eq_true rfl, Nat.le_of_ble_eq_true rfl, Nat.zero_le _, Nat.zero_le _⟩ _ rfl (Nat.le_of_ble_eq_true rfl) (fun r33 G2 hq => ?_)
      obtain ⟨rfl, hw⟩ := hq
      refine aw_goto (tgt := 50) C dX2_choose_36 (by decide) ?_
      exact aw_msk [false] (h50 _ hw)
  · refine aw_aloadn C dX2_choose_10 rfl ?_
    refine aw_bipush (v := (-3)) C dX2_choose_11 (by decide) ?_
    refine aw_callV C dX2_choose_13 (t_X2_fail (-3) _ _ hw) mM_X2_176 bX2_fail shB_84 rfl rfl ⟨Nat.le_of_ble_eq_true rfl, Nat.le_of_ble_eq_true rfl, Nat.zero_le _, Nat.zero_le _⟩ _ rfl (Nat.le_of_ble_eq_true rfl) (fun r13 G3 hq => ?_)
    obtain ⟨rfl, hw⟩ := hq
    refine aw_goto (tgt := 50) C dX2_choose_16 (by decide) ?_
    exact aw_msk [false] (h50 _ hw)
def w_X2_reload (K : Gt → Prop) (p0 : Int32) (G0 : Gt) : Prop :=
  pif ((rat G0 35 6 p0) = (-1)) (
    w_X2_fail (fun G3 =>
      K G3) (-1) G0) (
    pt (rput G0 35 6 p0 (G0 84 16)) fun G1 =>
    pt (gu G1 84 16 0) fun G2 =>
    K G2)
set_option maxHeartbeats 4000000 in
set_option maxRecDepth 100000 in
theorem t_X2_reload {l : Launch}  (p0 : Int32) (G0 : Gt) (K : Gt → Prop) (hw : w_X2_reload K p0 G0) : CT0 l yX2_reload cX2_reload 2 none 2 43 [.ref 84, .int p0] shB G0 (fun r G' => r = none ∧ K G') := by
  refine CT0_of (by decide) (Nat.le_of_ble_eq_true rfl) rfl ?_
  intro p e s m args below meth c D tA ad A C hr _
  unfold w_X2_reload at hw
  show aw p l e { frames := 2, cells := 0, slots := 0, locals := 43 } s m args below meth c 2 D tA A (MQ below (QC0 D tA ad A shB (fun r G' => r = none ∧ K G')) args s 0 0 A) 0 0 ad 0 [some (.ref 84), some (.int p0)] [] shB G0
  refine aw_aloadn C dX2_reload_0 rfl ?_
  refine aw_getR (r := 19) C dX2_reload_1 kcX2 shB_84 1 (by decide) rfl mF_X2_43 ?_
  refine aw_getR (r := 34) C dX2_reload_4 kcX9 (worldS_19 shOK_B).1 4 (by decide) rfl mF_X2_248 ?_
  refine aw_iloadn C dX2_reload_7 rfl ?_
  refine aw_callV C dX2_reload_8 (t_at (rowS_34 shOK_B) (Nat.le_of_ble_eq_true rfl) p0 _) mM_X2_119 bX6_at (rowS_34 shOK_B).1 rfl rfl ⟨Nat.le_of_ble_eq_true rfl, Nat.le_of_ble_eq_true rfl, Nat.zero_le _, Nat.zero_le _⟩ _ rfl (Nat.le_of_ble_eq_true rfl) (fun r8 G8x hq => ?_)
  obtain ⟨rfl, rfl⟩ := hq
  refine aw_iconst (v := (-1)) C dX2_reload_11 (by decide) ?_
  refine aw_ic_ne C dX2_reload_12 21 (by decide) hw (fun hc12 hw => ?_) (fun hc12 hw => ?_)
  · refine aw_aloadn C dX2_reload_21 rfl ?_
    refine aw_getR (r := 19) C dX2_reload_22 kcX2 shB_84 1 (by decide) rfl mF_X2_43 ?_
    refine aw_getR (r := 34) C dX2_reload_25 kcX9 (worldS_19 shOK_B).1 4 (by decide) rfl mF_X2_248 ?_
    refine aw_iloadn C dX2_reload_28 rfl ?_
    refine aw_aloadn C dX2_reload_29 rfl ?_
    refine aw_getI C dX2_reload_30 kcX2 shB_84 16 (by decide) rfl mF_X2_78 ?_
    refine aw_callV C dX2_reload_33 (t_put (rowS_34 shOK_B) (Nat.le_of_ble_eq_true rfl) p0 (G0 84 16) _) mM_X2_142 bX6_put (rowS_34 shOK_B).1 rfl rfl ⟨Nat.le_of_ble_eq_true rfl, Nat.le_of_ble_eq_true rfl, Nat.zero_le _, Nat.zero_le _⟩ _ rfl (Nat.le_of_ble_eq_true rfl) (fun r33 G1 hq => ?_)
    obtain ⟨rfl, hq⟩ := hq
    replace hw := pt_eq hw hq
    refine aw_aloadn C dX2_reload_36 rfl ?_
    refine aw_iconst (v := 0) C dX2_reload_37 (by decide) ?_
    refine aw_putI C dX2_reload_38 kcX2 shB_84 16 (by decide) rfl mF_X2_78 rfl rfl rfl hw (fun G2 hw => ?_)
    exact aw_return C hr dX2_reload_41 ⟨rfl, hw⟩
  · refine aw_aloadn C dX2_reload_15 rfl ?_
    refine aw_iconst (v := (-1)) C dX2_reload_16 (by decide) ?_
    refine aw_callV C dX2_reload_17 (t_X2_fail (-1) _ _ hw) mM_X2_176 bX2_fail shB_84 rfl rfl ⟨Nat.le_of_ble_eq_true rfl, Nat.le_of_ble_eq_true rfl, Nat.zero_le _, Nat.zero_le _⟩ _ rfl (Nat.le_of_ble_eq_true rfl) (fun r17 G3 hq => ?_)
    obtain ⟨rfl, hw⟩ := hq
    exact aw_return C hr dX2_reload_20 ⟨rfl, hw⟩
def w_X2_loopWith_j103 (K : Int32 → Gt → Prop)  (G0 : Gt) : Prop :=
  K (-1) G0
def w_X2_loopWith_j96 (K : Int32 → Gt → Prop) (rec7 : Int32 → Int32 → Int32 → Gt → Prop) (x1 : Int32) (x3 : Int32) (y0 : Int32) (G0 : Gt) : Prop :=
  rec7 x1 y0 (x3 + 1) G0
def w_X2_loopWith_j67 (K : Int32 → Gt → Prop) (rec7 : Int32 → Int32 → Int32 → Gt → Prop) (x1 : Int32) (x2 : Int32) (x3 : Int32) (G0 : Gt) : Prop :=
  pif ((rat G0 114 601 x2) = 0) (
    w_X2_loopWith_j96 K rec7 x1 x3 (rat G0 110 601 x2) G0) (
    w_X2_loopWith_j96 K rec7 x1 x3 (-1) G0)
def w_X2_loopWith_h7 (K : Int32 → Gt → Prop) : Nat → Int32 → Int32 → Int32 → Gt → Prop
  | 0, _, _, _, _ => False
  | n + 1, x1, x2, x3, G0 =>
    pif (601 ≤ x3) (
      w_X2_loopWith_j103 K G0) (
      pif (x2 = (-1)) (
        w_X2_loopWith_j103 K G0) (
        pif ((rat G0 3 120 (rat G0 108 601 x2)) = 13) (
          pif ((rat G0 5 120 (rat G0 108 601 x2)) = x1) (
            K x2 G0) (
            w_X2_loopWith_j67 K (fun z0 z1 z2 z3 => w_X2_loopWith_h7 K n z0 z1 z2 z3) x1 x2 x3 G0)) (
          w_X2_loopWith_j67 K (fun z0 z1 z2 z3 => w_X2_loopWith_h7 K n z0 z1 z2 z3) x1 x2 x3 G0)))
def w_X2_loopWith (K : Int32 → Gt → Prop) (p0 : Int32) (G0 : Gt) : Prop :=
  ∃ i, w_X2_loopWith_h7 K i p0 (G0 84 11) 0 G0
set_option maxHeartbeats 4000000 in
set_option maxRecDepth 100000 in
theorem t_X2_loopWith {l : Launch}  (p0 : Int32) (G0 : Gt) (K : Int32 → Gt → Prop) (hw : w_X2_loopWith K p0 G0) : CT0 l yX2_loopWith cX2_loopWith 5 (some .int) 1 21 [.ref 84, .int p0] shB G0 (fun r G' => ∃ v, r = some (.int v) ∧ K v G') := by
  refine CT0_of (by decide) (Nat.le_of_ble_eq_true rfl) rfl ?_
  intro p e s m args below meth c D tA ad A C hr _
  have h103 : ∀ (G0 : Gt), w_X2_loopWith_j103 K  G0 → aw p l e { frames := 1, cells := 0, slots := 0, locals := 21 } s m args below meth c 5 D tA A (MQ below (QC0 D tA ad A shB (fun r G' => ∃ v, r = some (.int v) ∧ K v G')) args s 0 0 A) 0 0 ad 103 [none, none, none, none, none] [] shB G0 := by
    intro   G0 hw
    unfold w_X2_loopWith_j103 at hw
    refine aw_iconst (v := (-1)) C dX2_loopWith_103 (by decide) ?_
    exact aw_ireturn C hr dX2_loopWith_104 ⟨_, rfl, hw⟩
  have h96 : ∀ (rec7 : Int32 → Int32 → Int32 → Gt → Prop) (hrec7 : ∀ (x1 : Int32) (x2 : Int32) (x3 : Int32) (G0 : Gt), rec7 x1 x2 x3 G0 → aw p l e { frames := 1, cells := 0, slots := 0, locals := 21 } s m args below meth c 5 D tA A (MQ below (QC0 D tA ad A shB (fun r G' => ∃ v, r = some (.int v) ∧ K v G')) args s 0 0 A) 0 0 ad 7 [some (.ref 84), some (.int x1), some (.int x2), some (.int x3), none] [] shB G0) (x1 : Int32) (x3 : Int32) (y0 : Int32) (G0 : Gt), w_X2_loopWith_j96 K rec7 x1 x3 y0 G0 → aw p l e { frames := 1, cells := 0, slots := 0, locals := 21 } s m args below meth c 5 D tA A (MQ below (QC0 D tA ad A shB (fun r G' => ∃ v, r = some (.int v) ∧ K v G')) args s 0 0 A) 0 0 ad 96 [some (.ref 84), some (.int x1), none, some (.int x3), none] [.int y0] shB G0 := by
    intro rec7 hrec7 x1 x3 y0 G0 hw
    unfold w_X2_loopWith_j96 at hw
    refine aw_istoren C dX2_loopWith_96 (by decide) rfl ?_
    refine aw_iinc (w := (x3 + 1)) C dX2_loopWith_97 rfl rfl (by decide) rfl ?_
    refine aw_goto (tgt := 7) C dX2_loopWith_100 (by decide) ?_
    exact aw_msk [true, true, true, true, false] (hrec7 x1 y0 (x3 + 1) _ hw)
  have h67 : ∀ (rec7 : Int32 → Int32 → Int32 → Gt → Prop) (hrec7 : ∀ (x1 : Int32) (x2 : Int32) (x3 : Int32) (G0 : Gt), rec7 x1 x2 x3 G0 → aw p l e { frames := 1, cells := 0, slots := 0, locals := 21 } s m args below meth c 5 D tA A (MQ below (QC0 D tA ad A shB (fun r G' => ∃ v, r = some (.int v) ∧ K v G')) args s 0 0 A) 0 0 ad 7 [some (.ref 84), some (.int x1), some (.int x2), some (.int x3), none] [] shB G0) (x1 : Int32) (x2 : Int32) (x3 : Int32) (G0 : Gt), w_X2_loopWith_j67 K rec7 x1 x2 x3 G0 → aw p l e { frames := 1, cells := 0, slots := 0, locals := 21 } s m args below meth c 5 D tA A (MQ below (QC0 D tA ad A shB (fun r G' => ∃ v, r = some (.int v) ∧ K v G')) args s 0 0 A) 0 0 ad 67 [some (.ref 84), some (.int x1), some (.int x2), some (.int x3), none] [] shB G0 := by
    intro rec7 hrec7 x1 x2 x3 G0 hw
    unfold w_X2_loopWith_j67 at hw
    refine aw_aloadn C dX2_loopWith_67 rfl ?_
    refine aw_getR (r := 106) C dX2_loopWith_68 kcX2 shB_84 3 (by decide) rfl mF_X2_21 ?_
    refine aw_getR (r := 113) C dX2_loopWith_71 kcX1 shB_106 3 (by decide) rfl mF_X2_203 ?_
    refine aw_iloadn C dX2_loopWith_74 rfl ?_
    refine aw_callV C dX2_loopWith_75 (t_at rowB_113 (Nat.le_of_ble_eq_true rfl) x2 _) mM_X2_119 bX6_at rowB_113.1 rfl rfl ⟨Nat.le_of_ble_eq_true rfl, Nat.le_of_ble_eq_true rfl, Nat.zero_le _, Nat.zero_le _⟩ _ rfl (Nat.le_of_ble_eq_true rfl) (fun r75 G75x hq => ?_)
    obtain ⟨rfl, rfl⟩ := hq
    refine aw_if_ne C dX2_loopWith_78 95 (by decide) hw (fun hc78 hw => ?_) (fun hc78 hw => ?_)
    · refine aw_iconst (v := (-1)) C dX2_loopWith_95 (by decide) ?_
      exact aw_msk [true, true, false, true, false] (h96 _ hrec7 x1 x3 (-1) _ hw)
    · refine aw_aloadn C dX2_loopWith_81 rfl ?_
      refine aw_getR (r := 106) C dX2_loopWith_82 kcX2 shB_84 3 (by decide) rfl mF_X2_21 ?_
      refine aw_getR (r := 109) C dX2_loopWith_85 kcX1 shB_106 1 (by decide) rfl mF_X2_200 ?_
      refine aw_iloadn C dX2_loopWith_88 rfl ?_
      refine aw_callV C dX2_loopWith_89 (t_at rowB_109 (Nat.le_of_ble_eq_true rfl) x2 _) mM_X2_119 bX6_at rowB_109.1 rfl rfl ⟨Nat.le_of_ble_eq_true rfl, Nat.le_of_ble_eq_true rfl, Nat.zero_le _, Nat.zero_le _⟩ _ rfl (Nat.le_of_ble_eq_true rfl) (fun r89 G89x hq => ?_)
      obtain ⟨rfl, rfl⟩ := hq
      refine aw_goto (tgt := 96) C dX2_loopWith_92 (by decide) ?_
      exact aw_msk [true, true, false, true, false] (h96 _ hrec7 x1 x3 (rat G0 110 601 x2) _ hw)
  have h7 : ∀ (n : Nat) (x1 : Int32) (x2 : Int32) (x3 : Int32) (G0 : Gt), w_X2_loopWith_h7 K n x1 x2 x3 G0 → aw p l e { frames := 1, cells := 0, slots := 0, locals := 21 } s m args below meth c 5 D tA A (MQ below (QC0 D tA ad A shB (fun r G' => ∃ v, r = some (.int v) ∧ K v G')) args s 0 0 A) 0 0 ad 7 [some (.ref 84), some (.int x1), some (.int x2), some (.int x3), none] [] shB G0 := by
    intro  n
    induction n with
    | zero => intro x1 x2 x3 G0 hw; exact hw.elim
    | succ n ih =>
      intro x1 x2 x3 G0 hw
      rw [w_X2_loopWith_h7] at hw
      refine aw_iloadn C dX2_loopWith_7 rfl ?_
      refine aw_sipush (v := 601) C dX2_loopWith_8 (by decide) ?_
      refine aw_ic_ge C dX2_loopWith_11 103 (by decide) hw (fun hc11 hw => ?_) (fun hc11 hw => ?_)
      · exact aw_msk [false, false, false, false, false] (h103 _ hw)
      · refine aw_iloadn C dX2_loopWith_14 rfl ?_
        refine aw_iconst (v := (-1)) C dX2_loopWith_15 (by decide) ?_
        refine aw_ic_eq C dX2_loopWith_16 103 (by decide) hw (fun hc16 hw => ?_) (fun hc16 hw => ?_)
        · exact aw_msk [false, false, false, false, false] (h103 _ hw)
        · refine aw_aloadn C dX2_loopWith_19 rfl ?_
          refine aw_getR (r := 106) C dX2_loopWith_20 kcX2 shB_84 3 (by decide) rfl mF_X2_21 ?_
          refine aw_getR (r := 107) C dX2_loopWith_23 kcX1 shB_106 0 (by decide) rfl mF_X2_167 ?_
          refine aw_iloadn C dX2_loopWith_26 rfl ?_
          refine aw_callV C dX2_loopWith_27 (t_at rowB_107 (Nat.le_of_ble_eq_true rfl) x2 _) mM_X2_119 bX6_at rowB_107.1 rfl rfl ⟨Nat.le_of_ble_eq_true rfl, Nat.le_of_ble_eq_true rfl, Nat.zero_le _, Nat.zero_le _⟩ _ rfl (Nat.le_of_ble_eq_true rfl) (fun r27 G27x hq => ?_)
          obtain ⟨rfl, rfl⟩ := hq
          refine aw_istore C dX2_loopWith_30 (by decide) rfl ?_
          refine aw_aloadn C dX2_loopWith_32 rfl ?_
          refine aw_getR (r := 1) C dX2_loopWith_33 kcX2 shB_84 0 (by decide) rfl mF_X2_39 ?_
          refine aw_getR (r := 2) C dX2_loopWith_36 kcX4 shB_1 0 (by decide) rfl mF_X2_377 ?_
          refine aw_iload C dX2_loopWith_39 rfl ?_
          refine aw_callV C dX2_loopWith_41 (t_at (rowS_2 shOK_B) (Nat.le_of_ble_eq_true rfl) (rat G0 108 601 x2) _) mM_X2_119 bX6_at (rowS_2 shOK_B).1 rfl rfl ⟨Nat.le_of_ble_eq_true rfl, Nat.le_of_ble_eq_true rfl, Nat.zero_le _, Nat.zero_le _⟩ _ rfl (Nat.le_of_ble_eq_true rfl) (fun r41 G41x hq => ?_)
          obtain ⟨rfl, rfl⟩ := hq
          refine aw_bipush (v := 13) C dX2_loopWith_44 (by decide) ?_
          refine aw_ic_ne C dX2_loopWith_46 67 (by decide) hw (fun hc46 hw => ?_) (fun hc46 hw => ?_)
          · exact aw_msk [true, true, true, true, false] (h67 _ ih x1 x2 x3 _ hw)
          · refine aw_aloadn C dX2_loopWith_49 rfl ?_
            refine aw_getR (r := 1) C dX2_loopWith_50 kcX2 shB_84 0 (by decide) rfl mF_X2_39 ?_
            refine aw_getR (r := 4) C dX2_loopWith_53 kcX4 shB_1 1 (by decide) rfl mF_X2_380 ?_
            refine aw_iload C dX2_loopWith_56 rfl ?_
            refine aw_callV C dX2_loopWith_58 (t_at (rowS_4 shOK_B) (Nat.le_of_ble_eq_true rfl) (rat G0 108 601 x2) _) mM_X2_119 bX6_at (rowS_4 shOK_B).1 rfl rfl ⟨Nat.le_of_ble_eq_true rfl, Nat.le_of_ble_eq_true rfl, Nat.zero_le _, Nat.zero_le _⟩ _ rfl (Nat.le_of_ble_eq_true rfl) (fun r58 G58x hq => ?_)
            obtain ⟨rfl, rfl⟩ := hq
            refine aw_iloadn C dX2_loopWith_61 rfl ?_
            refine aw_ic_ne C dX2_loopWith_62 67 (by decide) hw (fun hc62 hw => ?_) (fun hc62 hw => ?_)
            · exact aw_msk [true, true, true, true, false] (h67 _ ih x1 x2 x3 _ hw)
            · refine aw_iloadn C dX2_loopWith_65 rfl ?_
              exact aw_ireturn C hr dX2_loopWith_66 ⟨_, rfl, hw⟩
  unfold w_X2_loopWith at hw
  show aw p l e { frames := 1, cells := 0, slots := 0, locals := 21 } s m args below meth c 5 D tA A (MQ below (QC0 D tA ad A shB (fun r G' => ∃ v, r = some (.int v) ∧ K v G')) args s 0 0 A) 0 0 ad 0 [some (.ref 84), some (.int p0), none, none, none] [] shB G0
  refine aw_aloadn C dX2_loopWith_0 rfl ?_
  refine aw_getI C dX2_loopWith_1 kcX2 shB_84 11 (by decide) rfl mF_X2_91 ?_
  refine aw_istoren C dX2_loopWith_4 (by decide) rfl ?_
  refine aw_iconst (v := 0) C dX2_loopWith_5 (by decide) ?_
  refine aw_istoren C dX2_loopWith_6 (by decide) rfl ?_
  obtain ⟨n0, hw⟩ := hw
  exact aw_msk [true, true, true, true, false] (h7 n0 p0 (G0 84 11) 0 _ hw)
def w_X2_leaveFor (K : Gt → Prop) (p0 : Int32) (p1 : Int32) (G0 : Gt) : Prop :=
  pif (p0 = (-1)) (
    w_X2_fail (fun G3 =>
      K G3) (-6) G0) (
    pt (gu G0 84 15 p1) fun G1 =>
    pt (gu G1 84 18 p0) fun G2 =>
    K G2)
set_option maxHeartbeats 4000000 in
set_option maxRecDepth 100000 in
theorem t_X2_leaveFor {l : Launch}  (p0 : Int32) (p1 : Int32) (G0 : Gt) (K : Gt → Prop) (hw : w_X2_leaveFor K p0 p1 G0) : CT0 l yX2_leaveFor cX2_leaveFor 3 none 2 43 [.ref 84, .int p0, .int p1] shB G0 (fun r G' => r = none ∧ K G') := by
  refine CT0_of (by decide) (Nat.le_of_ble_eq_true rfl) rfl ?_
  intro p e s m args below meth c D tA ad A C hr _
  unfold w_X2_leaveFor at hw
  show aw p l e { frames := 2, cells := 0, slots := 0, locals := 43 } s m args below meth c 3 D tA A (MQ below (QC0 D tA ad A shB (fun r G' => r = none ∧ K G')) args s 0 0 A) 0 0 ad 0 [some (.ref 84), some (.int p0), some (.int p1)] [] shB G0
  refine aw_iloadn C dX2_leaveFor_0 rfl ?_
  refine aw_iconst (v := (-1)) C dX2_leaveFor_1 (by decide) ?_
  refine aw_ic_ne C dX2_leaveFor_2 12 (by decide) hw (fun hc2 hw => ?_) (fun hc2 hw => ?_)
  · refine aw_aloadn C dX2_leaveFor_12 rfl ?_
    refine aw_iloadn C dX2_leaveFor_13 rfl ?_
    refine aw_putI C dX2_leaveFor_14 kcX2 shB_84 15 (by decide) rfl mF_X2_75 rfl rfl rfl hw (fun G1 hw => ?_)
    refine aw_aloadn C dX2_leaveFor_17 rfl ?_
    refine aw_iloadn C dX2_leaveFor_18 rfl ?_
    refine aw_putI C dX2_leaveFor_19 kcX2 shB_84 18 (by decide) rfl mF_X2_85 rfl rfl rfl hw (fun G2 hw => ?_)
    exact aw_return C hr dX2_leaveFor_22 ⟨rfl, hw⟩
  · refine aw_aloadn C dX2_leaveFor_5 rfl ?_
    refine aw_bipush (v := (-6)) C dX2_leaveFor_6 (by decide) ?_
    refine aw_callV C dX2_leaveFor_8 (t_X2_fail (-6) _ _ hw) mM_X2_176 bX2_fail shB_84 rfl rfl ⟨Nat.le_of_ble_eq_true rfl, Nat.le_of_ble_eq_true rfl, Nat.zero_le _, Nat.zero_le _⟩ _ rfl (Nat.le_of_ble_eq_true rfl) (fun r8 G3 hq => ?_)
    obtain ⟨rfl, hw⟩ := hq
    exact aw_return C hr dX2_leaveFor_11 ⟨rfl, hw⟩
def w_X2_bodyToReturn_j32 (K : Int32 → Gt → Prop) (y0 : Int32) (G0 : Gt) : Prop :=
  K y0 G0
def w_X2_bodyToReturn (K : Int32 → Gt → Prop) (G0 : Gt) : Prop :=
  w_X1_rootOf (fun v2 G1 =>
    pif ((rat G1 114 601 v2) < 3) (
      w_X2_bodyToReturn_j32 K (-1) G1) (
      w_X2_bodyToReturn_j32 K v2 G1)) (G0 84 11) G0
set_option maxHeartbeats 4000000 in
set_option maxRecDepth 100000 in
theorem t_X2_bodyToReturn {l : Launch}  (G0 : Gt) (K : Int32 → Gt → Prop) (hw : w_X2_bodyToReturn K G0) : CT0 l yX2_bodyToReturn cX2_bodyToReturn 2 (some .int) 2 44 [.ref 84] shB G0 (fun r G' => ∃ v, r = some (.int v) ∧ K v G') := by
  refine CT0_of (by decide) (Nat.le_of_ble_eq_true rfl) rfl ?_
  intro p e s m args below meth c D tA ad A C hr _
  have h32 : ∀ (y0 : Int32) (G0 : Gt), w_X2_bodyToReturn_j32 K y0 G0 → aw p l e { frames := 2, cells := 0, slots := 0, locals := 44 } s m args below meth c 2 D tA A (MQ below (QC0 D tA ad A shB (fun r G' => ∃ v, r = some (.int v) ∧ K v G')) args s 0 0 A) 0 0 ad 32 [none, none] [.int y0] shB G0 := by
    intro  y0 G0 hw
    unfold w_X2_bodyToReturn_j32 at hw
    exact aw_ireturn C hr dX2_bodyToReturn_32 ⟨_, rfl, hw⟩
  unfold w_X2_bodyToReturn at hw
  show aw p l e { frames := 2, cells := 0, slots := 0, locals := 44 } s m args below meth c 2 D tA A (MQ below (QC0 D tA ad A shB (fun r G' => ∃ v, r = some (.int v) ∧ K v G')) args s 0 0 A) 0 0 ad 0 [some (.ref 84), none] [] shB G0
  refine aw_aloadn C dX2_bodyToReturn_0 rfl ?_
  refine aw_getR (r := 106) C dX2_bodyToReturn_1 kcX2 shB_84 3 (by decide) rfl mF_X2_21 ?_
  refine aw_aloadn C dX2_bodyToReturn_4 rfl ?_
  refine aw_getI C dX2_bodyToReturn_5 kcX2 shB_84 11 (by decide) rfl mF_X2_91 ?_
  refine aw_callV C dX2_bodyToReturn_8 (t_X1_rootOf (G0 84 11) _ _ hw) mM_X2_383 bX1_rootOf shB_106 rfl rfl ⟨Nat.le_of_ble_eq_true rfl, Nat.le_of_ble_eq_true rfl, Nat.zero_le _, Nat.zero_le _⟩ _ rfl (Nat.le_of_ble_eq_true rfl) (fun r8 G1 hq => ?_)
  obtain ⟨v2, rfl, hw⟩ := hq
  refine aw_istoren C dX2_bodyToReturn_11 (by decide) rfl ?_
  refine aw_aloadn C dX2_bodyToReturn_12 rfl ?_
  refine aw_getR (r := 106) C dX2_bodyToReturn_13 kcX2 shB_84 3 (by decide) rfl mF_X2_21 ?_
  refine aw_getR (r := 113) C dX2_bodyToReturn_16 kcX1 shB_106 3 (by decide) rfl mF_X2_203 ?_
  refine aw_iloadn C dX2_bodyToReturn_19 rfl ?_
  refine aw_callV C dX2_bodyToReturn_20 (t_at rowB_113 (Nat.le_of_ble_eq_true rfl) v2 _) mM_X2_119 bX6_at rowB_113.1 rfl rfl ⟨Nat.le_of_ble_eq_true rfl, Nat.le_of_ble_eq_true rfl, Nat.zero_le _, Nat.zero_le _⟩ _ rfl (Nat.le_of_ble_eq_true rfl) (fun r20 G20x hq => ?_)
  obtain ⟨rfl, rfl⟩ := hq
  refine aw_iconst (v := 3) C dX2_bodyToReturn_23 (by decide) ?_
  refine aw_ic_lt C dX2_bodyToReturn_24 31 (by decide) hw (fun hc24 hw => ?_) (fun hc24 hw => ?_)
  · refine aw_iconst (v := (-1)) C dX2_bodyToReturn_31 (by decide) ?_
    exact aw_msk [false, false] (h32 (-1) _ hw)
  · refine aw_iloadn C dX2_bodyToReturn_27 rfl ?_
    refine aw_goto (tgt := 32) C dX2_bodyToReturn_28 (by decide) ?_
    exact aw_msk [false, false] (h32 v2 _ hw)
def w_X2_isBarred_j106 (K : Int32 → Gt → Prop)  (G0 : Gt) : Prop :=
  K 0 G0
def w_X2_isBarred_j68 (K : Int32 → Gt → Prop)  (G0 : Gt) : Prop :=
  K 1 G0
def w_X2_isBarred_j99 (K : Int32 → Gt → Prop) (rec7 : Int32 → Int32 → Gt → Prop) (x2 : Int32) (y0 : Int32) (G0 : Gt) : Prop :=
  rec7 y0 (x2 + 1) G0
def w_X2_isBarred_j70 (K : Int32 → Gt → Prop) (rec7 : Int32 → Int32 → Gt → Prop) (x1 : Int32) (x2 : Int32) (G0 : Gt) : Prop :=
  pif ((rat G0 114 601 x1) = 0) (
    w_X2_isBarred_j99 K rec7 x2 (rat G0 110 601 x1) G0) (
    w_X2_isBarred_j99 K rec7 x2 (-1) G0)
def w_X2_isBarred_h7 (K : Int32 → Gt → Prop) : Nat → Int32 → Int32 → Gt → Prop
  | 0, _, _, _ => False
  | n + 1, x1, x2, G0 =>
    pif (601 ≤ x2) (
      w_X2_isBarred_j106 K G0) (
      pif (x1 = (-1)) (
        w_X2_isBarred_j106 K G0) (
        pif ((rat G0 3 120 (rat G0 108 601 x1)) = 36) (
          w_X2_isBarred_j68 K G0) (
          pif ((rat G0 3 120 (rat G0 108 601 x1)) = 26) (
            pif ((rat G0 124 601 x1) = 1) (
              w_X2_isBarred_j68 K G0) (
              w_X2_isBarred_j70 K (fun z0 z1 z2 => w_X2_isBarred_h7 K n z0 z1 z2) x1 x2 G0)) (
            w_X2_isBarred_j70 K (fun z0 z1 z2 => w_X2_isBarred_h7 K n z0 z1 z2) x1 x2 G0))))
def w_X2_isBarred (K : Int32 → Gt → Prop) (G0 : Gt) : Prop :=
  ∃ i, w_X2_isBarred_h7 K i (G0 84 11) 0 G0
set_option maxHeartbeats 4000000 in
set_option maxRecDepth 100000 in
theorem t_X2_isBarred {l : Launch}  (G0 : Gt) (K : Int32 → Gt → Prop) (hw : w_X2_isBarred K G0) : CT0 l yX2_isBarred cX2_isBarred 4 (some .boolean) 1 21 [.ref 84] shB G0 (fun r G' => ∃ v, r = some (.int v) ∧ K v G') := by
  refine CT0_of (by decide) (Nat.le_of_ble_eq_true rfl) rfl ?_
  intro p e s m args below meth c D tA ad A C hr _
  have h106 : ∀ (G0 : Gt), w_X2_isBarred_j106 K  G0 → aw p l e { frames := 1, cells := 0, slots := 0, locals := 21 } s m args below meth c 4 D tA A (MQ below (QC0 D tA ad A shB (fun r G' => ∃ v, r = some (.int v) ∧ K v G')) args s 0 0 A) 0 0 ad 106 [none, none, none, none] [] shB G0 := by
    intro   G0 hw
    unfold w_X2_isBarred_j106 at hw
    refine aw_iconst (v := 0) C dX2_isBarred_106 (by decide) ?_
    exact aw_zreturn C hr dX2_isBarred_107 rfl ⟨_, rfl, hw⟩
  have h68 : ∀ (G0 : Gt), w_X2_isBarred_j68 K  G0 → aw p l e { frames := 1, cells := 0, slots := 0, locals := 21 } s m args below meth c 4 D tA A (MQ below (QC0 D tA ad A shB (fun r G' => ∃ v, r = some (.int v) ∧ K v G')) args s 0 0 A) 0 0 ad 68 [none, none, none, none] [] shB G0 := by
    intro   G0 hw
    unfold w_X2_isBarred_j68 at hw
    refine aw_iconst (v := 1) C dX2_isBarred_68 (by decide) ?_
    exact aw_zreturn C hr dX2_isBarred_69 rfl ⟨_, rfl, hw⟩
  have h99 : ∀ (rec7 : Int32 → Int32 → Gt → Prop) (hrec7 : ∀ (x1 : Int32) (x2 : Int32) (G0 : Gt), rec7 x1 x2 G0 → aw p l e { frames := 1, cells := 0, slots := 0, locals := 21 } s m args below meth c 4 D tA A (MQ below (QC0 D tA ad A shB (fun r G' => ∃ v, r = some (.int v) ∧ K v G')) args s 0 0 A) 0 0 ad 7 [some (.ref 84), some (.int x1), some (.int x2), none] [] shB G0) (x2 : Int32) (y0 : Int32) (G0 : Gt), w_X2_isBarred_j99 K rec7 x2 y0 G0 → aw p l e { frames := 1, cells := 0, slots := 0, locals := 21 } s m args below meth c 4 D tA A (MQ below (QC0 D tA ad A shB (fun r G' => ∃ v, r = some (.int v) ∧ K v G')) args s 0 0 A) 0 0 ad 99 [some (.ref 84), none, some (.int x2), none] [.int y0] shB G0 := by
    intro rec7 hrec7 x2 y0 G0 hw
    unfold w_X2_isBarred_j99 at hw
    refine aw_istoren C dX2_isBarred_99 (by decide) rfl ?_
    refine aw_iinc (w := (x2 + 1)) C dX2_isBarred_100 rfl rfl (by decide) rfl ?_
    refine aw_goto (tgt := 7) C dX2_isBarred_103 (by decide) ?_
    exact aw_msk [true, true, true, false] (hrec7 y0 (x2 + 1) _ hw)
  have h70 : ∀ (rec7 : Int32 → Int32 → Gt → Prop) (hrec7 : ∀ (x1 : Int32) (x2 : Int32) (G0 : Gt), rec7 x1 x2 G0 → aw p l e { frames := 1, cells := 0, slots := 0, locals := 21 } s m args below meth c 4 D tA A (MQ below (QC0 D tA ad A shB (fun r G' => ∃ v, r = some (.int v) ∧ K v G')) args s 0 0 A) 0 0 ad 7 [some (.ref 84), some (.int x1), some (.int x2), none] [] shB G0) (x1 : Int32) (x2 : Int32) (G0 : Gt), w_X2_isBarred_j70 K rec7 x1 x2 G0 → aw p l e { frames := 1, cells := 0, slots := 0, locals := 21 } s m args below meth c 4 D tA A (MQ below (QC0 D tA ad A shB (fun r G' => ∃ v, r = some (.int v) ∧ K v G')) args s 0 0 A) 0 0 ad 70 [some (.ref 84), some (.int x1), some (.int x2), none] [] shB G0 := by
    intro rec7 hrec7 x1 x2 G0 hw
    unfold w_X2_isBarred_j70 at hw
    refine aw_aloadn C dX2_isBarred_70 rfl ?_
    refine aw_getR (r := 106) C dX2_isBarred_71 kcX2 shB_84 3 (by decide) rfl mF_X2_21 ?_
    refine aw_getR (r := 113) C dX2_isBarred_74 kcX1 shB_106 3 (by decide) rfl mF_X2_203 ?_
    refine aw_iloadn C dX2_isBarred_77 rfl ?_
    refine aw_callV C dX2_isBarred_78 (t_at rowB_113 (Nat.le_of_ble_eq_true rfl) x1 _) mM_X2_119 bX6_at rowB_113.1 rfl rfl ⟨Nat.le_of_ble_eq_true rfl, Nat.le_of_ble_eq_true rfl, Nat.zero_le _, Nat.zero_le _⟩ _ rfl (Nat.le_of_ble_eq_true rfl) (fun r78 G78x hq => ?_)
    obtain ⟨rfl, rfl⟩ := hq
    refine aw_if_ne C dX2_isBarred_81 98 (by decide) hw (fun hc81 hw => ?_) (fun hc81 hw => ?_)
    · refine aw_iconst (v := (-1)) C dX2_isBarred_98 (by decide) ?_
      exact aw_msk [true, false, true, false] (h99 _ hrec7 x2 (-1) _ hw)
    · refine aw_aloadn C dX2_isBarred_84 rfl ?_
      refine aw_getR (r := 106) C dX2_isBarred_85 kcX2 shB_84 3 (by decide) rfl mF_X2_21 ?_
      refine aw_getR (r := 109) C dX2_isBarred_88 kcX1 shB_106 1 (by decide) rfl mF_X2_200 ?_
      refine aw_iloadn C dX2_isBarred_91 rfl ?_
      refine aw_callV C dX2_isBarred_92 (t_at rowB_109 (Nat.le_of_ble_eq_true rfl) x1 _) mM_X2_119 bX6_at rowB_109.1 rfl rfl ⟨Nat.le_of_ble_eq_true rfl, Nat.le_of_ble_eq_true rfl, Nat.zero_le _, Nat.zero_le _⟩ _ rfl (Nat.le_of_ble_eq_true rfl) (fun r92 G92x hq => ?_)
      obtain ⟨rfl, rfl⟩ := hq
      refine aw_goto (tgt := 99) C dX2_isBarred_95 (by decide) ?_
      exact aw_msk [true, false, true, false] (h99 _ hrec7 x2 (rat G0 110 601 x1) _ hw)
  have h7 : ∀ (n : Nat) (x1 : Int32) (x2 : Int32) (G0 : Gt), w_X2_isBarred_h7 K n x1 x2 G0 → aw p l e { frames := 1, cells := 0, slots := 0, locals := 21 } s m args below meth c 4 D tA A (MQ below (QC0 D tA ad A shB (fun r G' => ∃ v, r = some (.int v) ∧ K v G')) args s 0 0 A) 0 0 ad 7 [some (.ref 84), some (.int x1), some (.int x2), none] [] shB G0 := by
    intro  n
    induction n with
    | zero => intro x1 x2 G0 hw; exact hw.elim
    | succ n ih =>
      intro x1 x2 G0 hw
      rw [w_X2_isBarred_h7] at hw
      refine aw_iloadn C dX2_isBarred_7 rfl ?_
      refine aw_sipush (v := 601) C dX2_isBarred_8 (by decide) ?_
      refine aw_ic_ge C dX2_isBarred_11 106 (by decide) hw (fun hc11 hw => ?_) (fun hc11 hw => ?_)
      · exact aw_msk [false, false, false, false] (h106 _ hw)
      · refine aw_iloadn C dX2_isBarred_14 rfl ?_
        refine aw_iconst (v := (-1)) C dX2_isBarred_15 (by decide) ?_
        refine aw_ic_eq C dX2_isBarred_16 106 (by decide) hw (fun hc16 hw => ?_) (fun hc16 hw => ?_)
        · exact aw_msk [false, false, false, false] (h106 _ hw)
        · refine aw_aloadn C dX2_isBarred_19 rfl ?_
          refine aw_getR (r := 1) C dX2_isBarred_20 kcX2 shB_84 0 (by decide) rfl mF_X2_39 ?_
          refine aw_getR (r := 2) C dX2_isBarred_23 kcX4 shB_1 0 (by decide) rfl mF_X2_377 ?_
          refine aw_aloadn C dX2_isBarred_26 rfl ?_
          refine aw_getR (r := 106) C dX2_isBarred_27 kcX2 shB_84 3 (by decide) rfl mF_X2_21 ?_
          refine aw_getR (r := 107) C dX2_isBarred_30 kcX1 shB_106 0 (by decide) rfl mF_X2_167 ?_
          refine aw_iloadn C dX2_isBarred_33 rfl ?_
          refine aw_callV C dX2_isBarred_34 (t_at rowB_107 (Nat.le_of_ble_eq_true rfl) x1 _) mM_X2_119 bX6_at rowB_107.1 rfl rfl ⟨Nat.le_of_ble_eq_true rfl, Nat.le_of_ble_eq_true rfl, Nat.zero_le _, Nat.zero_le _⟩ _ rfl (Nat.le_of_ble_eq_true rfl) (fun r34 G34x hq => ?_)
          obtain ⟨rfl, rfl⟩ := hq
          refine aw_callV C dX2_isBarred_37 (t_at (rowS_2 shOK_B) (Nat.le_of_ble_eq_true rfl) (rat G0 108 601 x1) _) mM_X2_119 bX6_at (rowS_2 shOK_B).1 rfl rfl ⟨Nat.le_of_ble_eq_true rfl, Nat.le_of_ble_eq_true rfl, Nat.zero_le _, Nat.zero_le _⟩ _ rfl (Nat.le_of_ble_eq_true rfl) (fun r37 G37x hq => ?_)
          obtain ⟨rfl, rfl⟩ := hq
          refine aw_istoren C dX2_isBarred_40 (by decide) rfl ?_
          refine aw_iloadn C dX2_isBarred_41 rfl ?_
          refine aw_bipush (v := 36) C dX2_isBarred_42 (by decide) ?_
          refine aw_ic_eq C dX2_isBarred_44 68 (by decide) hw (fun hc44 hw => ?_) (fun hc44 hw => ?_)
          · exact aw_msk [false, false, false, false] (h68 _ hw)
          · refine aw_iloadn C dX2_isBarred_47 rfl ?_
            refine aw_bipush (v := 26) C dX2_isBarred_48 (by decide) ?_
            refine aw_ic_ne C dX2_isBarred_50 70 (by decide) hw (fun hc50 hw => ?_) (fun hc50 hw => ?_)
            · exact aw_msk [true, true, true, false] (h70 _ ih x1 x2 _ hw)
            · refine aw_aloadn C dX2_isBarred_53 rfl ?_
              refine aw_getR (r := 106) C dX2_isBarred_54 kcX2 shB_84 3 (by decide) rfl mF_X2_21 ?_
              refine aw_getR (r := 123) C dX2_isBarred_57 kcX1 shB_106 8 (by decide) rfl mF_X2_212 ?_
              refine aw_iloadn C dX2_isBarred_60 rfl ?_
              refine aw_callV C dX2_isBarred_61 (t_at rowB_123 (Nat.le_of_ble_eq_true rfl) x1 _) mM_X2_119 bX6_at rowB_123.1 rfl rfl ⟨Nat.le_of_ble_eq_true rfl, Nat.le_of_ble_eq_true rfl, Nat.zero_le _, Nat.zero_le _⟩ _ rfl (Nat.le_of_ble_eq_true rfl) (fun r61 G61x hq => ?_)
              obtain ⟨rfl, rfl⟩ := hq
              refine aw_iconst (v := 1) C dX2_isBarred_64 (by decide) ?_
              refine aw_ic_ne C dX2_isBarred_65 70 (by decide) hw (fun hc65 hw => ?_) (fun hc65 hw => ?_)
              · exact aw_msk [true, true, true, false] (h70 _ ih x1 x2 _ hw)
              · exact aw_msk [false, false, false, false] (h68 _ hw)
  unfold w_X2_isBarred at hw
  show aw p l e { frames := 1, cells := 0, slots := 0, locals := 21 } s m args below meth c 4 D tA A (MQ below (QC0 D tA ad A shB (fun r G' => ∃ v, r = some (.int v) ∧ K v G')) args s 0 0 A) 0 0 ad 0 [some (.ref 84), none, none, none] [] shB G0
  refine aw_aloadn C dX2_isBarred_0 rfl ?_
  refine aw_getI C dX2_isBarred_1 kcX2 shB_84 11 (by decide) rfl mF_X2_91 ?_
  refine aw_istoren C dX2_isBarred_4 (by decide) rfl ?_
  refine aw_iconst (v := 0) C dX2_isBarred_5 (by decide) ?_
  refine aw_istoren C dX2_isBarred_6 (by decide) rfl ?_
  obtain ⟨n0, hw⟩ := hw
  exact aw_msk [true, true, true, false] (h7 n0 (G0 84 11) 0 _ hw)
def w_X2_goOn (K : Gt → Prop) (p0 : Int32) (G0 : Gt) : Prop :=
  w_X2_noteCall (fun G1 =>
    pt (rput G1 110 601 (rat G1 142 601 p0) (G1 84 11)) fun G2 =>
    pt (gu G2 84 11 (rat G2 144 601 p0)) fun G3 =>
    K G3) G0
set_option maxHeartbeats 4000000 in
set_option maxRecDepth 100000 in
theorem t_X2_goOn {l : Launch}  (p0 : Int32) (G0 : Gt) (K : Gt → Prop) (hw : w_X2_goOn K p0 G0) : CT0 l yX2_goOn cX2_goOn 2 none 2 42 [.ref 84, .int p0] shB G0 (fun r G' => r = none ∧ K G') := by
  refine CT0_of (by decide) (Nat.le_of_ble_eq_true rfl) rfl ?_
  intro p e s m args below meth c D tA ad A C hr _
  unfold w_X2_goOn at hw
  show aw p l e { frames := 2, cells := 0, slots := 0, locals := 42 } s m args below meth c 2 D tA A (MQ below (QC0 D tA ad A shB (fun r G' => r = none ∧ K G')) args s 0 0 A) 0 0 ad 0 [some (.ref 84), some (.int p0)] [] shB G0
  refine aw_aloadn C dX2_goOn_0 rfl ?_
  refine aw_callV C dX2_goOn_1 (t_X2_noteCall _ _ hw) mM_X2_401 bX2_noteCall shB_84 rfl rfl ⟨Nat.le_of_ble_eq_true rfl, Nat.le_of_ble_eq_true rfl, Nat.zero_le _, Nat.zero_le _⟩ _ rfl (Nat.le_of_ble_eq_true rfl) (fun r1 G1 hq => ?_)
  obtain ⟨rfl, hw⟩ := hq
  refine aw_aloadn C dX2_goOn_4 rfl ?_
  refine aw_getR (r := 106) C dX2_goOn_5 kcX2 shB_84 3 (by decide) rfl mF_X2_21 ?_
  refine aw_getR (r := 109) C dX2_goOn_8 kcX1 shB_106 1 (by decide) rfl mF_X2_200 ?_
  refine aw_aloadn C dX2_goOn_11 rfl ?_
  refine aw_getR (r := 134) C dX2_goOn_12 kcX2 shB_84 5 (by decide) rfl mF_X2_35 ?_
  refine aw_getR (r := 141) C dX2_goOn_15 kcX3 shB_134 3 (by decide) rfl mF_X2_368 ?_
  refine aw_iloadn C dX2_goOn_18 rfl ?_
  refine aw_callV C dX2_goOn_19 (t_at rowB_141 (Nat.le_of_ble_eq_true rfl) p0 _) mM_X2_119 bX6_at rowB_141.1 rfl rfl ⟨Nat.le_of_ble_eq_true rfl, Nat.le_of_ble_eq_true rfl, Nat.zero_le _, Nat.zero_le _⟩ _ rfl (Nat.le_of_ble_eq_true rfl) (fun r19 G19x hq => ?_)
  obtain ⟨rfl, rfl⟩ := hq
  refine aw_aloadn C dX2_goOn_22 rfl ?_
  refine aw_getI C dX2_goOn_23 kcX2 shB_84 11 (by decide) rfl mF_X2_91 ?_
  refine aw_callV C dX2_goOn_26 (t_put rowB_109 (Nat.le_of_ble_eq_true rfl) (rat G1 142 601 p0) (G1 84 11) _) mM_X2_142 bX6_put rowB_109.1 rfl rfl ⟨Nat.le_of_ble_eq_true rfl, Nat.le_of_ble_eq_true rfl, Nat.zero_le _, Nat.zero_le _⟩ _ rfl (Nat.le_of_ble_eq_true rfl) (fun r26 G2 hq => ?_)
  obtain ⟨rfl, hq⟩ := hq
  replace hw := pt_eq hw hq
  refine aw_aloadn C dX2_goOn_29 rfl ?_
  refine aw_aloadn C dX2_goOn_30 rfl ?_
  refine aw_getR (r := 134) C dX2_goOn_31 kcX2 shB_84 5 (by decide) rfl mF_X2_35 ?_
  refine aw_getR (r := 143) C dX2_goOn_34 kcX3 shB_134 4 (by decide) rfl mF_X2_371 ?_
  refine aw_iloadn C dX2_goOn_37 rfl ?_
  refine aw_callV C dX2_goOn_38 (t_at rowB_143 (Nat.le_of_ble_eq_true rfl) p0 _) mM_X2_119 bX6_at rowB_143.1 rfl rfl ⟨Nat.le_of_ble_eq_true rfl, Nat.le_of_ble_eq_true rfl, Nat.zero_le _, Nat.zero_le _⟩ _ rfl (Nat.le_of_ble_eq_true rfl) (fun r38 G38x hq => ?_)
  obtain ⟨rfl, rfl⟩ := hq
  refine aw_putI C dX2_goOn_41 kcX2 shB_84 11 (by decide) rfl mF_X2_91 rfl rfl rfl hw (fun G3 hw => ?_)
  exact aw_return C hr dX2_goOn_44 ⟨rfl, hw⟩
def w_X2_askFirst (K : Gt → Prop) (p0 : Int32) (G0 : Gt) : Prop :=
  w_X3_generatorMaker (fun v2 G1 =>
    w_X2_noteCall (fun G3 =>
      w_X7_open (fun v5 G4 =>
        w_X2_begin (fun G6 =>
          pt (rput G6 142 601 p0 (G6 84 11)) fun G7 =>
          K G7) (rat G3 5 120 (rat G3 108 601 v2)) v5 (4 + p0) G4) (rat G3 112 601 v2) G3) G1) p0 G0
set_option maxHeartbeats 4000000 in
set_option maxRecDepth 100000 in
theorem t_X2_askFirst {l : Launch}  (p0 : Int32) (G0 : Gt) (K : Gt → Prop) (hw : w_X2_askFirst K p0 G0) : CT0 l yX2_askFirst cX2_askFirst 3 none 2 46 [.ref 84, .int p0] shB G0 (fun r G' => r = none ∧ K G') := by
  refine CT0_of (by decide) (Nat.le_of_ble_eq_true rfl) rfl ?_
  intro p e s m args below meth c D tA ad A C hr _
  unfold w_X2_askFirst at hw
  show aw p l e { frames := 2, cells := 0, slots := 0, locals := 46 } s m args below meth c 3 D tA A (MQ below (QC0 D tA ad A shB (fun r G' => r = none ∧ K G')) args s 0 0 A) 0 0 ad 0 [some (.ref 84), some (.int p0), none] [] shB G0
  refine aw_aloadn C dX2_askFirst_0 rfl ?_
  refine aw_getR (r := 134) C dX2_askFirst_1 kcX2 shB_84 5 (by decide) rfl mF_X2_35 ?_
  refine aw_iloadn C dX2_askFirst_4 rfl ?_
  refine aw_callV C dX2_askFirst_5 (t_X3_generatorMaker p0 _ _ hw) mM_X2_413 bX3_generatorMaker shB_134 rfl rfl ⟨Nat.le_of_ble_eq_true rfl, Nat.le_of_ble_eq_true rfl, Nat.zero_le _, Nat.zero_le _⟩ _ rfl (Nat.le_of_ble_eq_true rfl) (fun r5 G1 hq => ?_)
  obtain ⟨v2, rfl, hw⟩ := hq
  refine aw_istoren C dX2_askFirst_8 (by decide) rfl ?_
  refine aw_aloadn C dX2_askFirst_9 rfl ?_
  refine aw_callV C dX2_askFirst_10 (t_X2_noteCall _ _ hw) mM_X2_401 bX2_noteCall shB_84 rfl rfl ⟨Nat.le_of_ble_eq_true rfl, Nat.le_of_ble_eq_true rfl, Nat.zero_le _, Nat.zero_le _⟩ _ rfl (Nat.le_of_ble_eq_true rfl) (fun r10 G3 hq => ?_)
  obtain ⟨rfl, hw⟩ := hq
  refine aw_aloadn C dX2_askFirst_13 rfl ?_
  refine aw_aloadn C dX2_askFirst_14 rfl ?_
  refine aw_getR (r := 1) C dX2_askFirst_15 kcX2 shB_84 0 (by decide) rfl mF_X2_39 ?_
  refine aw_getR (r := 4) C dX2_askFirst_18 kcX4 shB_1 1 (by decide) rfl mF_X2_380 ?_
  refine aw_aloadn C dX2_askFirst_21 rfl ?_
  refine aw_getR (r := 106) C dX2_askFirst_22 kcX2 shB_84 3 (by decide) rfl mF_X2_21 ?_
  refine aw_getR (r := 107) C dX2_askFirst_25 kcX1 shB_106 0 (by decide) rfl mF_X2_167 ?_
  refine aw_iloadn C dX2_askFirst_28 rfl ?_
  refine aw_callV C dX2_askFirst_29 (t_at rowB_107 (Nat.le_of_ble_eq_true rfl) v2 _) mM_X2_119 bX6_at rowB_107.1 rfl rfl ⟨Nat.le_of_ble_eq_true rfl, Nat.le_of_ble_eq_true rfl, Nat.zero_le _, Nat.zero_le _⟩ _ rfl (Nat.le_of_ble_eq_true rfl) (fun r29 G29x hq => ?_)
  obtain ⟨rfl, rfl⟩ := hq
  refine aw_callV C dX2_askFirst_32 (t_at (rowS_4 shOK_B) (Nat.le_of_ble_eq_true rfl) (rat G3 108 601 v2) _) mM_X2_119 bX6_at (rowS_4 shOK_B).1 rfl rfl ⟨Nat.le_of_ble_eq_true rfl, Nat.le_of_ble_eq_true rfl, Nat.zero_le _, Nat.zero_le _⟩ _ rfl (Nat.le_of_ble_eq_true rfl) (fun r32 G32x hq => ?_)
  obtain ⟨rfl, rfl⟩ := hq
  refine aw_aloadn C dX2_askFirst_35 rfl ?_
  refine aw_getR (r := 129) C dX2_askFirst_36 kcX2 shB_84 4 (by decide) rfl mF_X2_28 ?_
  refine aw_aloadn C dX2_askFirst_39 rfl ?_
  refine aw_getR (r := 106) C dX2_askFirst_40 kcX2 shB_84 3 (by decide) rfl mF_X2_21 ?_
  refine aw_getR (r := 111) C dX2_askFirst_43 kcX1 shB_106 2 (by decide) rfl mF_X2_170 ?_
  refine aw_iloadn C dX2_askFirst_46 rfl ?_
  refine aw_callV C dX2_askFirst_47 (t_at rowB_111 (Nat.le_of_ble_eq_true rfl) v2 _) mM_X2_119 bX6_at rowB_111.1 rfl rfl ⟨Nat.le_of_ble_eq_true rfl, Nat.le_of_ble_eq_true rfl, Nat.zero_le _, Nat.zero_le _⟩ _ rfl (Nat.le_of_ble_eq_true rfl) (fun r47 G47x hq => ?_)
  obtain ⟨rfl, rfl⟩ := hq
  refine aw_callV C dX2_askFirst_50 (t_X7_open (rat G3 112 601 v2) _ _ hw) mM_X2_97 bX7_open shB_129 rfl rfl ⟨Nat.le_of_ble_eq_true rfl, Nat.le_of_ble_eq_true rfl, Nat.zero_le _, Nat.zero_le _⟩ _ rfl (Nat.le_of_ble_eq_true rfl) (fun r50 G4 hq => ?_)
  obtain ⟨v5, rfl, hw⟩ := hq
  refine aw_iconst (v := 4) C dX2_askFirst_53 (by decide) ?_
  refine aw_iloadn C dX2_askFirst_54 rfl ?_
  refine aw_iadd C dX2_askFirst_55 ?_
  refine aw_callV C dX2_askFirst_56 (t_X2_begin (rat G3 5 120 (rat G3 108 601 v2)) v5 (4 + p0) _ _ hw) mM_X2_101 bX2_begin shB_84 rfl rfl ⟨Nat.le_of_ble_eq_true rfl, Nat.le_of_ble_eq_true rfl, Nat.zero_le _, Nat.zero_le _⟩ _ rfl (Nat.le_of_ble_eq_true rfl) (fun r56 G6 hq => ?_)
  obtain ⟨rfl, hw⟩ := hq
  refine aw_aloadn C dX2_askFirst_59 rfl ?_
  refine aw_getR (r := 134) C dX2_askFirst_60 kcX2 shB_84 5 (by decide) rfl mF_X2_35 ?_
  refine aw_getR (r := 141) C dX2_askFirst_63 kcX3 shB_134 3 (by decide) rfl mF_X2_368 ?_
  refine aw_iloadn C dX2_askFirst_66 rfl ?_
  refine aw_aloadn C dX2_askFirst_67 rfl ?_
  refine aw_getI C dX2_askFirst_68 kcX2 shB_84 11 (by decide) rfl mF_X2_91 ?_
  refine aw_callV C dX2_askFirst_71 (t_put rowB_141 (Nat.le_of_ble_eq_true rfl) p0 (G6 84 11) _) mM_X2_142 bX6_put rowB_141.1 rfl rfl ⟨Nat.le_of_ble_eq_true rfl, Nat.le_of_ble_eq_true rfl, Nat.zero_le _, Nat.zero_le _⟩ _ rfl (Nat.le_of_ble_eq_true rfl) (fun r71 G7 hq => ?_)
  obtain ⟨rfl, hq⟩ := hq
  replace hw := pt_eq hw hq
  exact aw_return C hr dX2_askFirst_74 ⟨rfl, hw⟩
def w_X2_stay_j34 (K : Gt → Prop)  (G0 : Gt) : Prop :=
  K G0
def w_X2_stay (K : Gt → Prop) (p0 : Int32) (G0 : Gt) : Prop :=
  pif ((inm (G0 84 16)) = 0) (
    w_X2_fail (fun G1 =>
      w_X2_stay_j34 K G1) (-3) G0) (
    pt (rput G0 33 4 p0 (G0 84 16)) fun G2 =>
    w_X2_stay_j34 K G2)
set_option maxHeartbeats 4000000 in
set_option maxRecDepth 100000 in
theorem t_X2_stay {l : Launch}  (p0 : Int32) (G0 : Gt) (K : Gt → Prop) (hw : w_X2_stay K p0 G0) : CT0 l yX2_stay cX2_stay 2 none 2 43 [.ref 84, .int p0] shB G0 (fun r G' => r = none ∧ K G') := by
  refine CT0_of (by decide) (Nat.le_of_ble_eq_true rfl) rfl ?_
  intro p e s m args below meth c D tA ad A C hr _
  have h34 : ∀ (G0 : Gt), w_X2_stay_j34 K  G0 → aw p l e { frames := 2, cells := 0, slots := 0, locals := 43 } s m args below meth c 2 D tA A (MQ below (QC0 D tA ad A shB (fun r G' => r = none ∧ K G')) args s 0 0 A) 0 0 ad 34 [none, none] [] shB G0 := by
    intro   G0 hw
    unfold w_X2_stay_j34 at hw
    exact aw_return C hr dX2_stay_34 ⟨rfl, hw⟩
  unfold w_X2_stay at hw
  show aw p l e { frames := 2, cells := 0, slots := 0, locals := 43 } s m args below meth c 2 D tA A (MQ below (QC0 D tA ad A shB (fun r G' => r = none ∧ K G')) args s 0 0 A) 0 0 ad 0 [some (.ref 84), some (.int p0)] [] shB G0
  refine aw_aloadn C dX2_stay_0 rfl ?_
  refine aw_getI C dX2_stay_1 kcX2 shB_84 16 (by decide) rfl mF_X2_78 ?_
  refine aw_callSN C dX2_stay_4 (t_isNumber (G0 84 16) _) mE_X2_265 bX10_isNumber rfl ⟨Nat.le_of_ble_eq_true rfl, Nat.le_of_ble_eq_true rfl, Nat.zero_le _, Nat.zero_le _⟩ _ rfl (Nat.le_of_ble_eq_true rfl) (fun r4 G4x hq => ?_)
  obtain ⟨rfl, rfl⟩ := hq
  refine aw_if_eq C dX2_stay_7 28 (by decide) hw (fun hc7 hw => ?_) (fun hc7 hw => ?_)
  · refine aw_aloadn C dX2_stay_28 rfl ?_
    refine aw_bipush (v := (-3)) C dX2_stay_29 (by decide) ?_
    refine aw_callV C dX2_stay_31 (t_X2_fail (-3) _ _ hw) mM_X2_176 bX2_fail shB_84 rfl rfl ⟨Nat.le_of_ble_eq_true rfl, Nat.le_of_ble_eq_true rfl, Nat.zero_le _, Nat.zero_le _⟩ _ rfl (Nat.le_of_ble_eq_true rfl) (fun r31 G1 hq => ?_)
    obtain ⟨rfl, hw⟩ := hq
    exact aw_msk [false, false] (h34 _ hw)
  · refine aw_aloadn C dX2_stay_10 rfl ?_
    refine aw_getR (r := 19) C dX2_stay_11 kcX2 shB_84 1 (by decide) rfl mF_X2_43 ?_
    refine aw_getR (r := 32) C dX2_stay_14 kcX9 (worldS_19 shOK_B).1 3 (by decide) rfl mF_X2_420 ?_
    refine aw_iloadn C dX2_stay_17 rfl ?_
    refine aw_aloadn C dX2_stay_18 rfl ?_
    refine aw_getI C dX2_stay_19 kcX2 shB_84 16 (by decide) rfl mF_X2_78 ?_
    refine aw_callV C dX2_stay_22 (t_put (rowS_32 shOK_B) (Nat.le_of_ble_eq_true rfl) p0 (G0 84 16) _) mM_X2_142 bX6_put (rowS_32 shOK_B).1 rfl rfl ⟨Nat.le_of_ble_eq_true rfl, Nat.le_of_ble_eq_true rfl, Nat.zero_le _, Nat.zero_le _⟩ _ rfl (Nat.le_of_ble_eq_true rfl) (fun r22 G2 hq => ?_)
    obtain ⟨rfl, hq⟩ := hq
    replace hw := pt_eq hw hq
    refine aw_goto (tgt := 34) C dX2_stay_25 (by decide) ?_
    exact aw_msk [false, false] (h34 _ hw)
def w_X2_putInto_j26 (K : Gt → Prop)  (G0 : Gt) : Prop :=
  K G0
def w_X2_putInto (K : Gt → Prop) (p0 : Int32) (p1 : Int32) (G0 : Gt) : Prop :=
  pif (p0 = (-1)) (
    w_X2_fail (fun G2 =>
      w_X2_putInto_j26 K G2) (-1) G0) (
    w_X7_bind (fun G1 =>
      w_X2_putInto_j26 K G1) p0 p1 (G0 84 16) G0)
set_option maxHeartbeats 4000000 in
set_option maxRecDepth 100000 in
theorem t_X2_putInto {l : Launch}  (p0 : Int32) (p1 : Int32) (G0 : Gt) (K : Gt → Prop) (hw : w_X2_putInto K p0 p1 G0) : CT0 l yX2_putInto cX2_putInto 3 none 2 45 [.ref 84, .int p0, .int p1] shB G0 (fun r G' => r = none ∧ K G') := by
  refine CT0_of (by decide) (Nat.le_of_ble_eq_true rfl) rfl ?_
  intro p e s m args below meth c D tA ad A C hr _
  have h26 : ∀ (G0 : Gt), w_X2_putInto_j26 K  G0 → aw p l e { frames := 2, cells := 0, slots := 0, locals := 45 } s m args below meth c 3 D tA A (MQ below (QC0 D tA ad A shB (fun r G' => r = none ∧ K G')) args s 0 0 A) 0 0 ad 26 [none, none, none] [] shB G0 := by
    intro   G0 hw
    unfold w_X2_putInto_j26 at hw
    exact aw_return C hr dX2_putInto_26 ⟨rfl, hw⟩
  unfold w_X2_putInto at hw
  show aw p l e { frames := 2, cells := 0, slots := 0, locals := 45 } s m args below meth c 3 D tA A (MQ below (QC0 D tA ad A shB (fun r G' => r = none ∧ K G')) args s 0 0 A) 0 0 ad 0 [some (.ref 84), some (.int p0), some (.int p1)] [] shB G0
  refine aw_iloadn C dX2_putInto_0 rfl ?_
  refine aw_iconst (v := (-1)) C dX2_putInto_1 (by decide) ?_
  refine aw_ic_ne C dX2_putInto_2 13 (by decide) hw (fun hc2 hw => ?_) (fun hc2 hw => ?_)
  · refine aw_aloadn C dX2_putInto_13 rfl ?_
    refine aw_getR (r := 129) C dX2_putInto_14 kcX2 shB_84 4 (by decide) rfl mF_X2_28 ?_
    refine aw_iloadn C dX2_putInto_17 rfl ?_
    refine aw_iloadn C dX2_putInto_18 rfl ?_
    refine aw_aloadn C dX2_putInto_19 rfl ?_
    refine aw_getI C dX2_putInto_20 kcX2 shB_84 16 (by decide) rfl mF_X2_78 ?_
    refine aw_callV C dX2_putInto_23 (t_X7_bind p0 p1 (G0 84 16) _ _ hw) mM_X2_245 bX7_bind shB_129 rfl rfl ⟨Nat.le_of_ble_eq_true rfl, Nat.le_of_ble_eq_true rfl, Nat.zero_le _, Nat.zero_le _⟩ _ rfl (Nat.le_of_ble_eq_true rfl) (fun r23 G1 hq => ?_)
    obtain ⟨rfl, hw⟩ := hq
    exact aw_msk [false, false, false] (h26 _ hw)
  · refine aw_aloadn C dX2_putInto_5 rfl ?_
    refine aw_iconst (v := (-1)) C dX2_putInto_6 (by decide) ?_
    refine aw_callV C dX2_putInto_7 (t_X2_fail (-1) _ _ hw) mM_X2_176 bX2_fail shB_84 rfl rfl ⟨Nat.le_of_ble_eq_true rfl, Nat.le_of_ble_eq_true rfl, Nat.zero_le _, Nat.zero_le _⟩ _ rfl (Nat.le_of_ble_eq_true rfl) (fun r7 G2 hq => ?_)
    obtain ⟨rfl, hw⟩ := hq
    refine aw_goto (tgt := 26) C dX2_putInto_10 (by decide) ?_
    exact aw_msk [false, false, false] (h26 _ hw)
def w_X2_reckon_j14 (K : Gt → Prop)  (G0 : Gt) : Prop :=
  w_X2_fail (fun G1 =>
    K G1) (-3) G0
def w_X2_reckon_j117 (K : Gt → Prop) (x4 : Int32) (G0 : Gt) : Prop :=
  pt (gu G0 84 16 (mx (-9999) (mn 9999 x4))) fun G2 =>
  K G2
def w_X2_reckon_j115 (K : Gt → Prop) (y0 : Int32) (G0 : Gt) : Prop :=
  w_X2_reckon_j117 K y0 G0
def w_X2_reckon_j99 (K : Gt → Prop) (x1 : Int32) (x2 : Int32) (x3 : Int32) (x4 : Int32) (G0 : Gt) : Prop :=
  pif (x1 = 8) (
    pif (x3 ≤ x2) (
      w_X2_reckon_j115 K 0 G0) (
      w_X2_reckon_j115 K 1 G0)) (
    w_X2_reckon_j117 K x4 G0)
def w_X2_reckon_j38 (K : Gt → Prop) (x1 : Int32) (x2 : Int32) (x3 : Int32) (G0 : Gt) : Prop :=
  pif (x1 = 4) (
    w_X2_reckon_j117 K (x2 + x3) G0) (
    pif (x1 = 5) (
      w_X2_reckon_j117 K (x2 - x3) G0) (
      pif (x1 = 6) (
        w_X2_reckon_j117 K (x2 * x3) G0) (
        pif (x1 = 7) (
          pif (x3 = 0) (
            w_X2_reckon_j99 K x1 x2 x3 0 G0) (
            ¬ x3 = 0 ∧
            w_X2_reckon_j117 K (x2 / x3) G0)) (
          w_X2_reckon_j99 K x1 x2 x3 0 G0))))
def w_X2_reckon (K : Gt → Prop) (p0 : Int32) (p1 : Int32) (p2 : Int32) (G0 : Gt) : Prop :=
  pif ((inm p1) = 0) (
    w_X2_reckon_j14 K G0) (
    pif ((inm p2) = 0) (
      w_X2_reckon_j14 K G0) (
      pif (p0 = 7) (
        pif (p2 = 0) (
          w_X2_fail (fun G3 =>
            K G3) (-2) G0) (
          w_X2_reckon_j38 K p0 p1 p2 G0)) (
        w_X2_reckon_j38 K p0 p1 p2 G0)))
set_option maxHeartbeats 4000000 in
set_option maxRecDepth 100000 in
theorem t_X2_reckon {l : Launch}  (p0 : Int32) (p1 : Int32) (p2 : Int32) (G0 : Gt) (K : Gt → Prop) (hw : w_X2_reckon K p0 p1 p2 G0) : CT0 l yX2_reckon cX2_reckon 5 none 2 43 [.ref 84, .int p0, .int p1, .int p2] shB G0 (fun r G' => r = none ∧ K G') := by
  refine CT0_of (by decide) (Nat.le_of_ble_eq_true rfl) rfl ?_
  intro p e s m args below meth c D tA ad A C hr _
  have h14 : ∀ (G0 : Gt), w_X2_reckon_j14 K  G0 → aw p l e { frames := 2, cells := 0, slots := 0, locals := 43 } s m args below meth c 5 D tA A (MQ below (QC0 D tA ad A shB (fun r G' => r = none ∧ K G')) args s 0 0 A) 0 0 ad 14 [some (.ref 84), none, none, none, none] [] shB G0 := by
    intro   G0 hw
    unfold w_X2_reckon_j14 at hw
    refine aw_aloadn C dX2_reckon_14 rfl ?_
    refine aw_bipush (v := (-3)) C dX2_reckon_15 (by decide) ?_
    refine aw_callV C dX2_reckon_17 (t_X2_fail (-3) _ _ hw) mM_X2_176 bX2_fail shB_84 rfl rfl ⟨Nat.le_of_ble_eq_true rfl, Nat.le_of_ble_eq_true rfl, Nat.zero_le _, Nat.zero_le _⟩ _ rfl (Nat.le_of_ble_eq_true rfl) (fun r17 G1 hq => ?_)
    obtain ⟨rfl, hw⟩ := hq
    exact aw_return C hr dX2_reckon_20 ⟨rfl, hw⟩
  have h117 : ∀ (x4 : Int32) (G0 : Gt), w_X2_reckon_j117 K x4 G0 → aw p l e { frames := 2, cells := 0, slots := 0, locals := 43 } s m args below meth c 5 D tA A (MQ below (QC0 D tA ad A shB (fun r G' => r = none ∧ K G')) args s 0 0 A) 0 0 ad 117 [some (.ref 84), none, none, none, some (.int x4)] [] shB G0 := by
    intro  x4 G0 hw
    unfold w_X2_reckon_j117 at hw
    refine aw_aloadn C dX2_reckon_117 rfl ?_
    refine aw_sipush (v := (-9999)) C dX2_reckon_118 (by decide) ?_
    refine aw_sipush (v := 9999) C dX2_reckon_121 (by decide) ?_
    refine aw_iload C dX2_reckon_124 rfl ?_
    refine aw_mmin C dX2_reckon_126 mM_X2_269 (by decide) (Nat.le_of_ble_eq_true rfl) (Nat.zero_le _) (Nat.zero_le _) ?_
    refine aw_mmax C dX2_reckon_129 mM_X2_274 (by decide) (Nat.le_of_ble_eq_true rfl) (Nat.zero_le _) (Nat.zero_le _) ?_
    refine aw_putI C dX2_reckon_132 kcX2 shB_84 16 (by decide) rfl mF_X2_78 rfl rfl rfl hw (fun G2 hw => ?_)
    exact aw_return C hr dX2_reckon_135 ⟨rfl, hw⟩
  have h115 : ∀ (y0 : Int32) (G0 : Gt), w_X2_reckon_j115 K y0 G0 → aw p l e { frames := 2, cells := 0, slots := 0, locals := 43 } s m args below meth c 5 D tA A (MQ below (QC0 D tA ad A shB (fun r G' => r = none ∧ K G')) args s 0 0 A) 0 0 ad 115 [some (.ref 84), none, none, none, none] [.int y0] shB G0 := by
    intro  y0 G0 hw
    unfold w_X2_reckon_j115 at hw
    refine aw_istore C dX2_reckon_115 (by decide) rfl ?_
    exact aw_msk [true, false, false, false, true] (h117 y0 _ hw)
  have h99 : ∀ (x1 : Int32) (x2 : Int32) (x3 : Int32) (x4 : Int32) (G0 : Gt), w_X2_reckon_j99 K x1 x2 x3 x4 G0 → aw p l e { frames := 2, cells := 0, slots := 0, locals := 43 } s m args below meth c 5 D tA A (MQ below (QC0 D tA ad A shB (fun r G' => r = none ∧ K G')) args s 0 0 A) 0 0 ad 99 [some (.ref 84), some (.int x1), some (.int x2), some (.int x3), some (.int x4)] [] shB G0 := by
    intro  x1 x2 x3 x4 G0 hw
    unfold w_X2_reckon_j99 at hw
    refine aw_iloadn C dX2_reckon_99 rfl ?_
    refine aw_bipush (v := 8) C dX2_reckon_100 (by decide) ?_
    refine aw_ic_ne C dX2_reckon_102 117 (by decide) hw (fun hc102 hw => ?_) (fun hc102 hw => ?_)
    · exact aw_msk [true, false, false, false, true] (h117 x4 _ hw)
    · refine aw_iloadn C dX2_reckon_105 rfl ?_
      refine aw_iloadn C dX2_reckon_106 rfl ?_
      refine aw_ic_ge C dX2_reckon_107 114 (by decide) hw (fun hc107 hw => ?_) (fun hc107 hw => ?_)
      · refine aw_iconst (v := 0) C dX2_reckon_114 (by decide) ?_
        exact aw_msk [true, false, false, false, false] (h115 0 _ hw)
      · refine aw_iconst (v := 1) C dX2_reckon_110 (by decide) ?_
        refine aw_goto (tgt := 115) C dX2_reckon_111 (by decide) ?_
        exact aw_msk [true, false, false, false, false] (h115 1 _ hw)
  have h38 : ∀ (x1 : Int32) (x2 : Int32) (x3 : Int32) (G0 : Gt), w_X2_reckon_j38 K x1 x2 x3 G0 → aw p l e { frames := 2, cells := 0, slots := 0, locals := 43 } s m args below meth c 5 D tA A (MQ below (QC0 D tA ad A shB (fun r G' => r = none ∧ K G')) args s 0 0 A) 0 0 ad 38 [some (.ref 84), some (.int x1), some (.int x2), some (.int x3), none] [] shB G0 := by
    intro  x1 x2 x3 G0 hw
    unfold w_X2_reckon_j38 at hw
    refine aw_iconst (v := 0) C dX2_reckon_38 (by decide) ?_
    refine aw_istore C dX2_reckon_39 (by decide) rfl ?_
    refine aw_iloadn C dX2_reckon_41 rfl ?_
    refine aw_iconst (v := 4) C dX2_reckon_42 (by decide) ?_
    refine aw_ic_ne C dX2_reckon_43 54 (by decide) hw (fun hc43 hw => ?_) (fun hc43 hw => ?_)
    · refine aw_iloadn C dX2_reckon_54 rfl ?_
      refine aw_iconst (v := 5) C dX2_reckon_55 (by decide) ?_
      refine aw_ic_ne C dX2_reckon_56 67 (by decide) hw (fun hc56 hw => ?_) (fun hc56 hw => ?_)
      · refine aw_iloadn C dX2_reckon_67 rfl ?_
        refine aw_bipush (v := 6) C dX2_reckon_68 (by decide) ?_
        refine aw_ic_ne C dX2_reckon_70 81 (by decide) hw (fun hc70 hw => ?_) (fun hc70 hw => ?_)
        · refine aw_iloadn C dX2_reckon_81 rfl ?_
          refine aw_bipush (v := 7) C dX2_reckon_82 (by decide) ?_
          refine aw_ic_ne C dX2_reckon_84 99 (by decide) hw (fun hc84 hw => ?_) (fun hc84 hw => ?_)
          · exact aw_msk [true, true, true, true, true] (h99 x1 x2 x3 0 _ hw)
          · refine aw_iloadn C dX2_reckon_87 rfl ?_
            refine aw_if_eq C dX2_reckon_88 99 (by decide) hw (fun hc88 hw => ?_) (fun hc88 hw => ?_)
            · exact aw_msk [true, true, true, true, true] (h99 x1 x2 x3 0 _ hw)
            · refine aw_iloadn C dX2_reckon_91 rfl ?_
              refine aw_iloadn C dX2_reckon_92 rfl ?_
              refine aw_idiv C dX2_reckon_93 hw.1 ?_
              replace hw := hw.2
              refine aw_istore C dX2_reckon_94 (by decide) rfl ?_
              refine aw_goto (tgt := 117) C dX2_reckon_96 (by decide) ?_
              exact aw_msk [true, false, false, false, true] (h117 (x2 / x3) _ hw)
        · refine aw_iloadn C dX2_reckon_73 rfl ?_
          refine aw_iloadn C dX2_reckon_74 rfl ?_
          refine aw_imul C dX2_reckon_75 ?_
          refine aw_istore C dX2_reckon_76 (by decide) rfl ?_
          refine aw_goto (tgt := 117) C dX2_reckon_78 (by decide) ?_
          exact aw_msk [true, false, false, false, true] (h117 (x2 * x3) _ hw)
      · refine aw_iloadn C dX2_reckon_59 rfl ?_
        refine aw_iloadn C dX2_reckon_60 rfl ?_
        refine aw_isub C dX2_reckon_61 ?_
        refine aw_istore C dX2_reckon_62 (by decide) rfl ?_
        refine aw_goto (tgt := 117) C dX2_reckon_64 (by decide) ?_
        exact aw_msk [true, false, false, false, true] (h117 (x2 - x3) _ hw)
    · refine aw_iloadn C dX2_reckon_46 rfl ?_
      refine aw_iloadn C dX2_reckon_47 rfl ?_
      refine aw_iadd C dX2_reckon_48 ?_
      refine aw_istore C dX2_reckon_49 (by decide) rfl ?_
      refine aw_goto (tgt := 117) C dX2_reckon_51 (by decide) ?_
      exact aw_msk [true, false, false, false, true] (h117 (x2 + x3) _ hw)
  unfold w_X2_reckon at hw
  show aw p l e { frames := 2, cells := 0, slots := 0, locals := 43 } s m args below meth c 5 D tA A (MQ below (QC0 D tA ad A shB (fun r G' => r = none ∧ K G')) args s 0 0 A) 0 0 ad 0 [some (.ref 84), some (.int p0), some (.int p1), some (.int p2), none] [] shB G0
  refine aw_iloadn C dX2_reckon_0 rfl ?_
  refine aw_callSN C dX2_reckon_1 (t_isNumber p1 _) mE_X2_265 bX10_isNumber rfl ⟨Nat.le_of_ble_eq_true rfl, Nat.le_of_ble_eq_true rfl, Nat.zero_le _, Nat.zero_le _⟩ _ rfl (Nat.le_of_ble_eq_true rfl) (fun r1 G1x hq => ?_)
  obtain ⟨rfl, rfl⟩ := hq
  refine aw_if_eq C dX2_reckon_4 14 (by decide) hw (fun hc4 hw => ?_) (fun hc4 hw => ?_)
  · exact aw_msk [true, false, false, false, false] (h14 _ hw)
  · refine aw_iloadn C dX2_reckon_7 rfl ?_
    refine aw_callSN C dX2_reckon_8 (t_isNumber p2 _) mE_X2_265 bX10_isNumber rfl ⟨Nat.le_of_ble_eq_true rfl, Nat.le_of_ble_eq_true rfl, Nat.zero_le _, Nat.zero_le _⟩ _ rfl (Nat.le_of_ble_eq_true rfl) (fun r8 G8x hq => ?_)
    obtain ⟨rfl, rfl⟩ := hq
    refine aw_if_ne C dX2_reckon_11 21 (by decide) hw (fun hc11 hw => ?_) (fun hc11 hw => ?_)
    · refine aw_iloadn C dX2_reckon_21 rfl ?_
      refine aw_bipush (v := 7) C dX2_reckon_22 (by decide) ?_
      refine aw_ic_ne C dX2_reckon_24 38 (by decide) hw (fun hc24 hw => ?_) (fun hc24 hw => ?_)
      · exact aw_msk [true, true, true, true, false] (h38 p0 p1 p2 _ hw)
      · refine aw_iloadn C dX2_reckon_27 rfl ?_
        refine aw_if_ne C dX2_reckon_28 38 (by decide) hw (fun hc28 hw => ?_) (fun hc28 hw => ?_)
        · exact aw_msk [true, true, true, true, false] (h38 p0 p1 p2 _ hw)
        · refine aw_aloadn C dX2_reckon_31 rfl ?_
          refine aw_bipush (v := (-2)) C dX2_reckon_32 (by decide) ?_
          refine aw_callV C dX2_reckon_34 (t_X2_fail (-2) _ _ hw) mM_X2_176 bX2_fail shB_84 rfl rfl ⟨Nat.le_of_ble_eq_true rfl, Nat.le_of_ble_eq_true rfl, Nat.zero_le _, Nat.zero_le _⟩ _ rfl (Nat.le_of_ble_eq_true rfl) (fun r34 G3 hq => ?_)
          obtain ⟨rfl, hw⟩ := hq
          exact aw_return C hr dX2_reckon_37 ⟨rfl, hw⟩
    · exact aw_msk [true, false, false, false, false] (h14 _ hw)
def w_X2_seenByWaiting (K : Int32 → Gt → Prop) (p0 : Int32) (G0 : Gt) : Prop :=
  w_X7_valueOf (fun v2 G1 =>
    K v2 G1) (rat G0 112 601 (G0 84 11)) p0 G0
set_option maxHeartbeats 4000000 in
set_option maxRecDepth 100000 in
theorem t_X2_seenByWaiting {l : Launch}  (p0 : Int32) (G0 : Gt) (K : Int32 → Gt → Prop) (hw : w_X2_seenByWaiting K p0 G0) : CT0 l yX2_seenByWaiting cX2_seenByWaiting 2 (some .int) 3 68 [.ref 84, .int p0] shB G0 (fun r G' => ∃ v, r = some (.int v) ∧ K v G') := by
  refine CT0_of (by decide) (Nat.le_of_ble_eq_true rfl) rfl ?_
  intro p e s m args below meth c D tA ad A C hr _
  unfold w_X2_seenByWaiting at hw
  show aw p l e { frames := 3, cells := 0, slots := 0, locals := 68 } s m args below meth c 2 D tA A (MQ below (QC0 D tA ad A shB (fun r G' => ∃ v, r = some (.int v) ∧ K v G')) args s 0 0 A) 0 0 ad 0 [some (.ref 84), some (.int p0)] [] shB G0
  refine aw_aloadn C dX2_seenByWaiting_0 rfl ?_
  refine aw_getR (r := 129) C dX2_seenByWaiting_1 kcX2 shB_84 4 (by decide) rfl mF_X2_28 ?_
  refine aw_aloadn C dX2_seenByWaiting_4 rfl ?_
  refine aw_getR (r := 106) C dX2_seenByWaiting_5 kcX2 shB_84 3 (by decide) rfl mF_X2_21 ?_
  refine aw_getR (r := 111) C dX2_seenByWaiting_8 kcX1 shB_106 2 (by decide) rfl mF_X2_170 ?_
  refine aw_aloadn C dX2_seenByWaiting_11 rfl ?_
  refine aw_getI C dX2_seenByWaiting_12 kcX2 shB_84 11 (by decide) rfl mF_X2_91 ?_
  refine aw_callV C dX2_seenByWaiting_15 (t_at rowB_111 (Nat.le_of_ble_eq_true rfl) (G0 84 11) _) mM_X2_119 bX6_at rowB_111.1 rfl rfl ⟨Nat.le_of_ble_eq_true rfl, Nat.le_of_ble_eq_true rfl, Nat.zero_le _, Nat.zero_le _⟩ _ rfl (Nat.le_of_ble_eq_true rfl) (fun r15 G15x hq => ?_)
  obtain ⟨rfl, rfl⟩ := hq
  refine aw_iloadn C dX2_seenByWaiting_18 rfl ?_
  refine aw_callV C dX2_seenByWaiting_19 (t_X7_valueOf (rat G0 112 601 (G0 84 11)) p0 _ _ hw) mM_X2_172 bX7_valueOf shB_129 rfl rfl ⟨Nat.le_of_ble_eq_true rfl, Nat.le_of_ble_eq_true rfl, Nat.zero_le _, Nat.zero_le _⟩ _ rfl (Nat.le_of_ble_eq_true rfl) (fun r19 G1 hq => ?_)
  obtain ⟨v2, rfl, hw⟩ := hq
  exact aw_ireturn C hr dX2_seenByWaiting_22 ⟨_, rfl, hw⟩
def w_X2_letBegin_j40 (K : Gt → Prop)  (G0 : Gt) : Prop :=
  K G0
def w_X2_letBegin (K : Gt → Prop) (G0 : Gt) : Prop :=
  pif ((G0 84 9) ≤ (G0 84 10)) (
    w_X2_fail (fun G1 =>
      pt (gu G1 84 7 0) fun G2 =>
      w_X2_letBegin_j40 K G2) (-7) G0) (
    pt (gu G0 84 10 ((G0 84 10) + 1)) fun G3 =>
    pt (gu G3 84 12 0) fun G4 =>
    w_X2_letBegin_j40 K G4)
set_option maxHeartbeats 4000000 in
set_option maxRecDepth 100000 in
theorem t_X2_letBegin {l : Launch}  (G0 : Gt) (K : Gt → Prop) (hw : w_X2_letBegin K G0) : CT0 l yX2_letBegin cX2_letBegin 1 none 2 43 [.ref 84] shB G0 (fun r G' => r = none ∧ K G') := by
  refine CT0_of (by decide) (Nat.le_of_ble_eq_true rfl) rfl ?_
  intro p e s m args below meth c D tA ad A C hr _
  have h40 : ∀ (G0 : Gt), w_X2_letBegin_j40 K  G0 → aw p l e { frames := 2, cells := 0, slots := 0, locals := 43 } s m args below meth c 1 D tA A (MQ below (QC0 D tA ad A shB (fun r G' => r = none ∧ K G')) args s 0 0 A) 0 0 ad 40 [none] [] shB G0 := by
    intro   G0 hw
    unfold w_X2_letBegin_j40 at hw
    exact aw_return C hr dX2_letBegin_40 ⟨rfl, hw⟩
  unfold w_X2_letBegin at hw
  show aw p l e { frames := 2, cells := 0, slots := 0, locals := 43 } s m args below meth c 1 D tA A (MQ below (QC0 D tA ad A shB (fun r G' => r = none ∧ K G')) args s 0 0 A) 0 0 ad 0 [some (.ref 84)] [] shB G0
  refine aw_aloadn C dX2_letBegin_0 rfl ?_
  refine aw_getI C dX2_letBegin_1 kcX2 shB_84 10 (by decide) rfl mF_X2_62 ?_
  refine aw_aloadn C dX2_letBegin_4 rfl ?_
  refine aw_getI C dX2_letBegin_5 kcX2 shB_84 9 (by decide) rfl mF_X2_58 ?_
  refine aw_ic_ge C dX2_letBegin_8 29 (by decide) hw (fun hc8 hw => ?_) (fun hc8 hw => ?_)
  · refine aw_aloadn C dX2_letBegin_29 rfl ?_
    refine aw_bipush (v := (-7)) C dX2_letBegin_30 (by decide) ?_
    refine aw_callV C dX2_letBegin_32 (t_X2_fail (-7) _ _ hw) mM_X2_176 bX2_fail shB_84 rfl rfl ⟨Nat.le_of_ble_eq_true rfl, Nat.le_of_ble_eq_true rfl, Nat.zero_le _, Nat.zero_le _⟩ _ rfl (Nat.le_of_ble_eq_true rfl) (fun r32 G1 hq => ?_)
    obtain ⟨rfl, hw⟩ := hq
    refine aw_aloadn C dX2_letBegin_35 rfl ?_
    refine aw_iconst (v := 0) C dX2_letBegin_36 (by decide) ?_
    refine aw_putI C dX2_letBegin_37 kcX2 shB_84 7 (by decide) rfl mF_X2_94 rfl rfl rfl hw (fun G2 hw => ?_)
    exact aw_msk [false] (h40 _ hw)
  · refine aw_aloadn C dX2_letBegin_11 rfl ?_
    refine aw_dup C dX2_letBegin_12 rfl ?_
    refine aw_getI C dX2_letBegin_13 kcX2 shB_84 10 (by decide) rfl mF_X2_62 ?_
    refine aw_iconst (v := 1) C dX2_letBegin_16 (by decide) ?_
    refine aw_iadd C dX2_letBegin_17 ?_
    refine aw_putI C dX2_letBegin_18 kcX2 shB_84 10 (by decide) rfl mF_X2_62 rfl rfl rfl hw (fun G3 hw => ?_)
    refine aw_aloadn C dX2_letBegin_21 rfl ?_
    refine aw_iconst (v := 0) C dX2_letBegin_22 (by decide) ?_
    refine aw_putI C dX2_letBegin_23 kcX2 shB_84 12 (by decide) rfl mF_X2_106 rfl rfl rfl hw (fun G4 hw => ?_)
    refine aw_goto (tgt := 40) C dX2_letBegin_26 (by decide) ?_
    exact aw_msk [false] (h40 _ hw)
def w_X2_catchError (K : Gt → Prop) (p0 : Int32) (G0 : Gt) : Prop :=
  pif ((G0 84 15) = 1) (
    w_X7_open (fun v2 G1 =>
      w_X7_bind (fun G3 =>
        pt (rput G3 124 601 (G3 84 11) v2) fun G4 =>
        pt (gu G4 84 15 0) fun G5 =>
        K G5) v2 p0 (G1 84 16) G1) (rat G0 112 601 (G0 84 11)) G0) (
    w_X2_jump (fun G6 =>
      K G6) 0 G0)
set_option maxHeartbeats 4000000 in
set_option maxRecDepth 100000 in
theorem t_X2_catchError {l : Launch}  (p0 : Int32) (G0 : Gt) (K : Gt → Prop) (hw : w_X2_catchError K p0 G0) : CT0 l yX2_catchError cX2_catchError 3 none 2 45 [.ref 84, .int p0] shB G0 (fun r G' => r = none ∧ K G') := by
  refine CT0_of (by decide) (Nat.le_of_ble_eq_true rfl) rfl ?_
  intro p e s m args below meth c D tA ad A C hr _
  unfold w_X2_catchError at hw
  show aw p l e { frames := 2, cells := 0, slots := 0, locals := 45 } s m args below meth c 3 D tA A (MQ below (QC0 D tA ad A shB (fun r G' => r = none ∧ K G')) args s 0 0 A) 0 0 ad 0 [some (.ref 84), some (.int p0), none] [] shB G0
  refine aw_aloadn C dX2_catchError_0 rfl ?_
  refine aw_getI C dX2_catchError_1 kcX2 shB_84 15 (by decide) rfl mF_X2_75 ?_
  refine aw_iconst (v := 1) C dX2_catchError_4 (by decide) ?_
  refine aw_ic_eq C dX2_catchError_5 14 (by decide) hw (fun hc5 hw => ?_) (fun hc5 hw => ?_)
  · refine aw_aloadn C dX2_catchError_14 rfl ?_
    refine aw_getR (r := 129) C dX2_catchError_15 kcX2 shB_84 4 (by decide) rfl mF_X2_28 ?_
    refine aw_aloadn C dX2_catchError_18 rfl ?_
    refine aw_getR (r := 106) C dX2_catchError_19 kcX2 shB_84 3 (by decide) rfl mF_X2_21 ?_
    refine aw_getR (r := 111) C dX2_catchError_22 kcX1 shB_106 2 (by decide) rfl mF_X2_170 ?_
    refine aw_aloadn C dX2_catchError_25 rfl ?_
    refine aw_getI C dX2_catchError_26 kcX2 shB_84 11 (by decide) rfl mF_X2_91 ?_
    refine aw_callV C dX2_catchError_29 (t_at rowB_111 (Nat.le_of_ble_eq_true rfl) (G0 84 11) _) mM_X2_119 bX6_at rowB_111.1 rfl rfl ⟨Nat.le_of_ble_eq_true rfl, Nat.le_of_ble_eq_true rfl, Nat.zero_le _, Nat.zero_le _⟩ _ rfl (Nat.le_of_ble_eq_true rfl) (fun r29 G29x hq => ?_)
    obtain ⟨rfl, rfl⟩ := hq
    refine aw_callV C dX2_catchError_32 (t_X7_open (rat G0 112 601 (G0 84 11)) _ _ hw) mM_X2_97 bX7_open shB_129 rfl rfl ⟨Nat.le_of_ble_eq_true rfl, Nat.le_of_ble_eq_true rfl, Nat.zero_le _, Nat.zero_le _⟩ _ rfl (Nat.le_of_ble_eq_true rfl) (fun r32 G1 hq => ?_)
    obtain ⟨v2, rfl, hw⟩ := hq
    refine aw_istoren C dX2_catchError_35 (by decide) rfl ?_
    refine aw_aloadn C dX2_catchError_36 rfl ?_
    refine aw_getR (r := 129) C dX2_catchError_37 kcX2 shB_84 4 (by decide) rfl mF_X2_28 ?_
    refine aw_iloadn C dX2_catchError_40 rfl ?_
    refine aw_iloadn C dX2_catchError_41 rfl ?_
    refine aw_aloadn C dX2_catchError_42 rfl ?_
    refine aw_getI C dX2_catchError_43 kcX2 shB_84 16 (by decide) rfl mF_X2_78 ?_
    refine aw_callV C dX2_catchError_46 (t_X7_bind v2 p0 (G1 84 16) _ _ hw) mM_X2_245 bX7_bind shB_129 rfl rfl ⟨Nat.le_of_ble_eq_true rfl, Nat.le_of_ble_eq_true rfl, Nat.zero_le _, Nat.zero_le _⟩ _ rfl (Nat.le_of_ble_eq_true rfl) (fun r46 G3 hq => ?_)
    obtain ⟨rfl, hw⟩ := hq
    refine aw_aloadn C dX2_catchError_49 rfl ?_
    refine aw_getR (r := 106) C dX2_catchError_50 kcX2 shB_84 3 (by decide) rfl mF_X2_21 ?_
    refine aw_getR (r := 123) C dX2_catchError_53 kcX1 shB_106 8 (by decide) rfl mF_X2_212 ?_
    refine aw_aloadn C dX2_catchError_56 rfl ?_
    refine aw_getI C dX2_catchError_57 kcX2 shB_84 11 (by decide) rfl mF_X2_91 ?_
    refine aw_iloadn C dX2_catchError_60 rfl ?_
    refine aw_callV C dX2_catchError_61 (t_put rowB_123 (Nat.le_of_ble_eq_true rfl) (G3 84 11) v2 _) mM_X2_142 bX6_put rowB_123.1 rfl rfl ⟨Nat.le_of_ble_eq_true rfl, Nat.le_of_ble_eq_true rfl, Nat.zero_le _, Nat.zero_le _⟩ _ rfl (Nat.le_of_ble_eq_true rfl) (fun r61 G4 hq => ?_)
    obtain ⟨rfl, hq⟩ := hq
    replace hw := pt_eq hw hq
    refine aw_aloadn C dX2_catchError_64 rfl ?_
    refine aw_iconst (v := 0) C dX2_catchError_65 (by decide) ?_
    refine aw_putI C dX2_catchError_66 kcX2 shB_84 15 (by decide) rfl mF_X2_75 rfl rfl rfl hw (fun G5 hw => ?_)
    exact aw_return C hr dX2_catchError_69 ⟨rfl, hw⟩
  · refine aw_aloadn C dX2_catchError_8 rfl ?_
    refine aw_iconst (v := 0) C dX2_catchError_9 (by decide) ?_
    refine aw_callV C dX2_catchError_10 (t_X2_jump 0 _ _ hw) mM_X2_221 bX2_jump shB_84 rfl rfl ⟨Nat.le_of_ble_eq_true rfl, Nat.le_of_ble_eq_true rfl, Nat.zero_le _, Nat.zero_le _⟩ _ rfl (Nat.le_of_ble_eq_true rfl) (fun r10 G6 hq => ?_)
    obtain ⟨rfl, hw⟩ := hq
    exact aw_return C hr dX2_catchError_13 ⟨rfl, hw⟩
def w_X2_enter (K : Gt → Prop) (p0 : Int32) (G0 : Gt) : Prop :=
  pif ((G0 84 8) < 12) (
    w_X2_noteCall (fun G1 =>
      w_X2_begin (fun G2 =>
        K G2) p0 (rat G1 124 601 (G1 84 11)) 3 G1) G0) (
    w_X2_fail (fun G3 =>
      K G3) (-5) G0)
set_option maxHeartbeats 4000000 in
set_option maxRecDepth 100000 in
theorem t_X2_enter {l : Launch}  (p0 : Int32) (G0 : Gt) (K : Gt → Prop) (hw : w_X2_enter K p0 G0) : CT0 l yX2_enter cX2_enter 2 none 2 46 [.ref 84, .int p0] shB G0 (fun r G' => r = none ∧ K G') := by
  refine CT0_of (by decide) (Nat.le_of_ble_eq_true rfl) rfl ?_
  intro p e s m args below meth c D tA ad A C hr _
  unfold w_X2_enter at hw
  show aw p l e { frames := 2, cells := 0, slots := 0, locals := 46 } s m args below meth c 2 D tA A (MQ below (QC0 D tA ad A shB (fun r G' => r = none ∧ K G')) args s 0 0 A) 0 0 ad 0 [some (.ref 84), some (.int p0)] [] shB G0
  refine aw_aloadn C dX2_enter_0 rfl ?_
  refine aw_getI C dX2_enter_1 kcX2 shB_84 8 (by decide) rfl mF_X2_65 ?_
  refine aw_bipush (v := 12) C dX2_enter_4 (by decide) ?_
  refine aw_ic_lt C dX2_enter_6 16 (by decide) hw (fun hc6 hw => ?_) (fun hc6 hw => ?_)
  · refine aw_aloadn C dX2_enter_16 rfl ?_
    refine aw_callV C dX2_enter_17 (t_X2_noteCall _ _ hw) mM_X2_401 bX2_noteCall shB_84 rfl rfl ⟨Nat.le_of_ble_eq_true rfl, Nat.le_of_ble_eq_true rfl, Nat.zero_le _, Nat.zero_le _⟩ _ rfl (Nat.le_of_ble_eq_true rfl) (fun r17 G1 hq => ?_)
    obtain ⟨rfl, hw⟩ := hq
    refine aw_aloadn C dX2_enter_20 rfl ?_
    refine aw_iloadn C dX2_enter_21 rfl ?_
    refine aw_aloadn C dX2_enter_22 rfl ?_
    refine aw_getR (r := 106) C dX2_enter_23 kcX2 shB_84 3 (by decide) rfl mF_X2_21 ?_
    refine aw_getR (r := 123) C dX2_enter_26 kcX1 shB_106 8 (by decide) rfl mF_X2_212 ?_
    refine aw_aloadn C dX2_enter_29 rfl ?_
    refine aw_getI C dX2_enter_30 kcX2 shB_84 11 (by decide) rfl mF_X2_91 ?_
    refine aw_callV C dX2_enter_33 (t_at rowB_123 (Nat.le_of_ble_eq_true rfl) (G1 84 11) _) mM_X2_119 bX6_at rowB_123.1 rfl rfl ⟨Nat.le_of_ble_eq_true rfl, Nat.le_of_ble_eq_true rfl, Nat.zero_le _, Nat.zero_le _⟩ _ rfl (Nat.le_of_ble_eq_true rfl) (fun r33 G33x hq => ?_)
    obtain ⟨rfl, rfl⟩ := hq
    refine aw_iconst (v := 3) C dX2_enter_36 (by decide) ?_
    refine aw_callV C dX2_enter_37 (t_X2_begin p0 (rat G1 124 601 (G1 84 11)) 3 _ _ hw) mM_X2_101 bX2_begin shB_84 rfl rfl ⟨Nat.le_of_ble_eq_true rfl, Nat.le_of_ble_eq_true rfl, Nat.zero_le _, Nat.zero_le _⟩ _ rfl (Nat.le_of_ble_eq_true rfl) (fun r37 G2 hq => ?_)
    obtain ⟨rfl, hw⟩ := hq
    exact aw_return C hr dX2_enter_40 ⟨rfl, hw⟩
  · refine aw_aloadn C dX2_enter_9 rfl ?_
    refine aw_bipush (v := (-5)) C dX2_enter_10 (by decide) ?_
    refine aw_callV C dX2_enter_12 (t_X2_fail (-5) _ _ hw) mM_X2_176 bX2_fail shB_84 rfl rfl ⟨Nat.le_of_ble_eq_true rfl, Nat.le_of_ble_eq_true rfl, Nat.zero_le _, Nat.zero_le _⟩ _ rfl (Nat.le_of_ble_eq_true rfl) (fun r12 G3 hq => ?_)
    obtain ⟨rfl, hw⟩ := hq
    exact aw_return C hr dX2_enter_15 ⟨rfl, hw⟩
