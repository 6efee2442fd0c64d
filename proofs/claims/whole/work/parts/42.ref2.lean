def w_X11_stops_h53 (K : Gt → Prop) : Nat → Int32 → Gt → Prop
  | 0, _, _ => False
  | n + 1, x1, G0 =>
    pif (x1 = (-1)) (
      w_X11_restores (fun G5 =>
        pt (gu G5 46 41 0) fun G6 =>
        pt (gu G6 46 53 1) fun G7 =>
        K G7) G0) (
      vp_in x1 1220 ∧
      vp_in (G0 46 64) 14 ∧
      pt (gu G0 81 ((G0 46 64) : Int32).toNatClampNeg (G0 64 (x1 : Int32).toNatClampNeg)) fun G8 =>
      pt (gu G8 46 64 ((G8 46 64) + 1)) fun G9 =>
      vp_in x1 1220 ∧
      (w_X11_stops_h53 K n) (G9 70 (x1 : Int32).toNatClampNeg) G9)
def w_X11_stops_j30 (K : Gt → Prop) (y1 : Int32) (G0 : Gt) : Prop :=
  pt (gu G0 46 63 y1) fun G2 =>
  vp_in 0 14 ∧
  pt (gu G2 81 (0 : Int32).toNatClampNeg (G2 46 45)) fun G3 =>
  pt (gu G3 46 64 1) fun G4 =>
  ∃ i, w_X11_stops_h53 K i (G4 46 46) G4
def w_X11_stops (K : Gt → Prop) (G0 : Gt) : Prop :=
  pt (gu G0 46 62 (50000 + (G0 46 42))) fun G1 =>
  pif ((G1 46 44) = (-100000)) (
    w_X11_stops_j30 K 50000 G1) (
    w_X11_stops_j30 K (G1 46 44) G1)
set_option maxHeartbeats 4000000 in
set_option maxRecDepth 100000 in
theorem t_X11_stops {l : Launch} {sh : Sh} (S : shOK sh) (G0 : Gt) (K : Gt → Prop) (hw : w_X11_stops K G0) : CT0 l yX11_stops cX11_stops 2 none 1 21 [.ref 46] sh G0 (fun r G' => r = none ∧ K G') := by
  refine CT0_of (by decide) (Nat.le_of_ble_eq_true rfl) rfl ?_
  intro p e s m args below meth c D tA ad A C hr _
  have h53 : ∀ (n : Nat) (x1 : Int32) (G0 : Gt), w_X11_stops_h53 K n x1 G0 → aw p l e { frames := 1, cells := 0, slots := 0, locals := 21 } s m args below meth c 2 D tA A (MQ below (QC0 D tA ad A sh (fun r G' => r = none ∧ K G')) args s 0 0 A) 0 0 ad 53 [some (.ref 46), some (.int x1)] [] sh G0 := by
    intro  n
    induction n with
    | zero => intro x1 G0 hw; exact hw.elim
    | succ n ih =>
      intro x1 G0 hw
      rw [w_X11_stops_h53] at hw
      refine aw_iloadn C dX11_stops_53 rfl ?_
      refine aw_iconst (v := (-1)) C dX11_stops_54 (by decide) ?_
      refine aw_ic_eq C dX11_stops_55 93 (by decide) hw (fun hc55 hw => ?_) (fun hc55 hw => ?_)
      · refine aw_aloadn C dX11_stops_93 rfl ?_
        refine aw_callV C dX11_stops_94 (t_X11_restores S _ _ hw) mM_X11_398 bX11_restores (sA_46 S) rfl rfl ⟨Nat.le_of_ble_eq_true rfl, Nat.le_of_ble_eq_true rfl, Nat.zero_le _, Nat.zero_le _⟩ _ rfl (Nat.le_of_ble_eq_true rfl) (fun r94 G5 hq => ?_)
        obtain ⟨rfl, hw⟩ := hq
        refine aw_aloadn C dX11_stops_97 rfl ?_
        refine aw_iconst (v := 0) C dX11_stops_98 (by decide) ?_
        refine aw_putI C dX11_stops_99 kcX11 (sA_46 S) 41 (by decide) rfl mF_X11_202 rfl rfl rfl hw (fun G6 hw => ?_)
        refine aw_aloadn C dX11_stops_102 rfl ?_
        refine aw_iconst (v := 1) C dX11_stops_103 (by decide) ?_
        refine aw_putI C dX11_stops_104 kcX11 (sA_46 S) 53 (by decide) rfl mF_X11_389 rfl rfl rfl hw (fun G7 hw => ?_)
        exact aw_return C hr dX11_stops_107 ⟨rfl, hw⟩
      · refine aw_aloadn C dX11_stops_58 rfl ?_
        refine aw_getR (r := 81) C dX11_stops_59 kcX11 (sA_46 S) 65 (by decide) rfl mF_X11_120 ?_
        refine aw_aloadn C dX11_stops_62 rfl ?_
        refine aw_getI C dX11_stops_63 kcX11 (sA_46 S) 64 (by decide) rfl mF_X11_395 ?_
        refine aw_aloadn C dX11_stops_66 rfl ?_
        refine aw_getR (r := 64) C dX11_stops_67 kcX11 (sA_46 S) 22 (by decide) rfl mF_X11_69 ?_
        refine aw_iloadn C dX11_stops_70 rfl ?_
        refine aw_iald C dX11_stops_71 (sA_64 S) hw.1 ?_
        replace hw := hw.2
        refine aw_iast C dX11_stops_72 (sA_81 S) hw.1 hw.2 (fun G8 hw => ?_)
        refine aw_aloadn C dX11_stops_73 rfl ?_
        refine aw_dup C dX11_stops_74 rfl ?_
        refine aw_getI C dX11_stops_75 kcX11 (sA_46 S) 64 (by decide) rfl mF_X11_395 ?_
        refine aw_iconst (v := 1) C dX11_stops_78 (by decide) ?_
        refine aw_iadd C dX11_stops_79 ?_
        refine aw_putI C dX11_stops_80 kcX11 (sA_46 S) 64 (by decide) rfl mF_X11_395 rfl rfl rfl hw (fun G9 hw => ?_)
        refine aw_aloadn C dX11_stops_83 rfl ?_
        refine aw_getR (r := 70) C dX11_stops_84 kcX11 (sA_46 S) 28 (by decide) rfl mF_X11_87 ?_
        refine aw_iloadn C dX11_stops_87 rfl ?_
        refine aw_iald C dX11_stops_88 (sA_70 S) hw.1 ?_
        replace hw := hw.2
        refine aw_istoren C dX11_stops_89 (by decide) rfl ?_
        refine aw_goto (tgt := 53) C dX11_stops_90 (by decide) ?_
        exact aw_msk [true, true] (ih (G9 70 (x1 : Int32).toNatClampNeg) _ hw)
  have h30 : ∀ (y1 : Int32) (G0 : Gt), w_X11_stops_j30 K y1 G0 → aw p l e { frames := 1, cells := 0, slots := 0, locals := 21 } s m args below meth c 2 D tA A (MQ below (QC0 D tA ad A sh (fun r G' => r = none ∧ K G')) args s 0 0 A) 0 0 ad 30 [some (.ref 46), none] [.int y1, .ref 46] sh G0 := by
    intro  y1 G0 hw
    unfold w_X11_stops_j30 at hw
    refine aw_putI C dX11_stops_30 kcX11 (sA_46 S) 63 (by decide) rfl mF_X11_392 rfl rfl rfl hw (fun G2 hw => ?_)
    refine aw_aloadn C dX11_stops_33 rfl ?_
    refine aw_getR (r := 81) C dX11_stops_34 kcX11 (sA_46 S) 65 (by decide) rfl mF_X11_120 ?_
    refine aw_iconst (v := 0) C dX11_stops_37 (by decide) ?_
    refine aw_aloadn C dX11_stops_38 rfl ?_
    refine aw_getI C dX11_stops_39 kcX11 (sA_46 S) 45 (by decide) rfl mF_X11_218 ?_
    refine aw_iast C dX11_stops_42 (sA_81 S) hw.1 hw.2 (fun G3 hw => ?_)
    refine aw_aloadn C dX11_stops_43 rfl ?_
    refine aw_iconst (v := 1) C dX11_stops_44 (by decide) ?_
    refine aw_putI C dX11_stops_45 kcX11 (sA_46 S) 64 (by decide) rfl mF_X11_395 rfl rfl rfl hw (fun G4 hw => ?_)
    refine aw_aloadn C dX11_stops_48 rfl ?_
    refine aw_getI C dX11_stops_49 kcX11 (sA_46 S) 46 (by decide) rfl mF_X11_224 ?_
    refine aw_istoren C dX11_stops_52 (by decide) rfl ?_
    obtain ⟨n0, hw⟩ := hw
    exact aw_msk [true, true] (h53 n0 (G4 46 46) _ hw)
  unfold w_X11_stops at hw
  show aw p l e { frames := 1, cells := 0, slots := 0, locals := 21 } s m args below meth c 2 D tA A (MQ below (QC0 D tA ad A sh (fun r G' => r = none ∧ K G')) args s 0 0 A) 0 0 ad 0 [some (.ref 46), none] [] sh G0
  refine aw_aloadn C dX11_stops_0 rfl ?_
  refine aw_ldc (v := 50000) C dX11_stops_1 mK_X11_123 ?_
  refine aw_aloadn C dX11_stops_3 rfl ?_
  refine aw_getI C dX11_stops_4 kcX11 (sA_46 S) 42 (by decide) rfl mF_X11_209 ?_
  refine aw_iadd C dX11_stops_7 ?_
  refine aw_putI C dX11_stops_8 kcX11 (sA_46 S) 62 (by decide) rfl mF_X11_377 rfl rfl rfl hw (fun G1 hw => ?_)
  refine aw_aloadn C dX11_stops_11 rfl ?_
  refine aw_aloadn C dX11_stops_12 rfl ?_
  refine aw_getI C dX11_stops_13 kcX11 (sA_46 S) 44 (by decide) rfl mF_X11_215 ?_
  refine aw_ldc (v := (-100000)) C dX11_stops_16 mK_X11_189 ?_
  refine aw_ic_ne C dX11_stops_18 26 (by decide) hw (fun hc18 hw => ?_) (fun hc18 hw => ?_)
  · refine aw_aloadn C dX11_stops_26 rfl ?_
    refine aw_getI C dX11_stops_27 kcX11 (sA_46 S) 44 (by decide) rfl mF_X11_215 ?_
    exact aw_msk [true, false] (h30 (G1 46 44) _ hw)
  · refine aw_ldc (v := 50000) C dX11_stops_21 mK_X11_123 ?_
    refine aw_goto (tgt := 30) C dX11_stops_23 (by decide) ?_
    exact aw_msk [true, false] (h30 50000 _ hw)
def w_X11_names_j25 (K : Gt → Prop)  (G0 : Gt) : Prop :=
  K G0
def w_X11_names (K : Gt → Prop) (p0 : Int32) (p1 : Int32) (G0 : Gt) : Prop :=
  pif (p1 = (-1)) (
    w_X11_fails (fun G2 =>
      w_X11_names_j25 K G2) p0 (-1) G0) (
    vp_in p1 4960 ∧
    w_X11_ends (fun G1 =>
      w_X11_names_j25 K G1) p0 (G0 72 (p1 : Int32).toNatClampNeg) G0)
set_option maxHeartbeats 4000000 in
set_option maxRecDepth 100000 in
theorem t_X11_names {l : Launch} {sh : Sh} (S : shOK sh) (p0 : Int32) (p1 : Int32) (G0 : Gt) (K : Gt → Prop) (hw : w_X11_names K p0 p1 G0) : CT0 l yX11_names cX11_names 3 none 1 22 [.ref 46, .int p0, .int p1] sh G0 (fun r G' => r = none ∧ K G') := by
  refine CT0_of (by decide) (Nat.le_of_ble_eq_true rfl) rfl ?_
  intro p e s m args below meth c D tA ad A C hr _
  have h25 : ∀ (G0 : Gt), w_X11_names_j25 K  G0 → aw p l e { frames := 1, cells := 0, slots := 0, locals := 22 } s m args below meth c 3 D tA A (MQ below (QC0 D tA ad A sh (fun r G' => r = none ∧ K G')) args s 0 0 A) 0 0 ad 25 [none, none, none] [] sh G0 := by
    intro   G0 hw
    unfold w_X11_names_j25 at hw
    exact aw_return C hr dX11_names_25 ⟨rfl, hw⟩
  unfold w_X11_names at hw
  show aw p l e { frames := 1, cells := 0, slots := 0, locals := 22 } s m args below meth c 3 D tA A (MQ below (QC0 D tA ad A sh (fun r G' => r = none ∧ K G')) args s 0 0 A) 0 0 ad 0 [some (.ref 46), some (.int p0), some (.int p1)] [] sh G0
  refine aw_iloadn C dX11_names_0 rfl ?_
  refine aw_iconst (v := (-1)) C dX11_names_1 (by decide) ?_
  refine aw_ic_ne C dX11_names_2 14 (by decide) hw (fun hc2 hw => ?_) (fun hc2 hw => ?_)
  · refine aw_aloadn C dX11_names_14 rfl ?_
    refine aw_iloadn C dX11_names_15 rfl ?_
    refine aw_aloadn C dX11_names_16 rfl ?_
    refine aw_getR (r := 72) C dX11_names_17 kcX11 (sA_46 S) 31 (by decide) rfl mF_X11_93 ?_
    refine aw_iloadn C dX11_names_20 rfl ?_
    refine aw_iald C dX11_names_21 (sA_72 S) hw.1 ?_
    replace hw := hw.2
    refine aw_callV C dX11_names_22 (t_X11_ends S p0 (G0 72 (p1 : Int32).toNatClampNeg) _ _ hw) mM_X11_262 bX11_ends (sA_46 S) rfl rfl ⟨Nat.le_of_ble_eq_true rfl, Nat.le_of_ble_eq_true rfl, Nat.zero_le _, Nat.zero_le _⟩ _ rfl (Nat.le_of_ble_eq_true rfl) (fun r22 G1 hq => ?_)
    obtain ⟨rfl, hw⟩ := hq
    exact aw_msk [false, false, false] (h25 _ hw)
  · refine aw_aloadn C dX11_names_5 rfl ?_
    refine aw_iloadn C dX11_names_6 rfl ?_
    refine aw_iconst (v := (-1)) C dX11_names_7 (by decide) ?_
    refine aw_callV C dX11_names_8 (t_X11_fails S p0 (-1) _ _ hw) mM_X11_237 bX11_fails (sA_46 S) rfl rfl ⟨Nat.le_of_ble_eq_true rfl, Nat.le_of_ble_eq_true rfl, Nat.zero_le _, Nat.zero_le _⟩ _ rfl (Nat.le_of_ble_eq_true rfl) (fun r8 G2 hq => ?_)
    obtain ⟨rfl, hw⟩ := hq
    refine aw_goto (tgt := 25) C dX11_names_11 (by decide) ?_
    exact aw_msk [false, false, false] (h25 _ hw)
def w_X11_leavesTo_j28 (K : Gt → Prop)  (G0 : Gt) : Prop :=
  K G0
def w_X11_leavesTo (K : Gt → Prop) (p0 : Int32) (p1 : Int32) (p2 : Int32) (p3 : Int32) (G0 : Gt) : Prop :=
  w_X11_hasLoop (fun v2 G1 =>
    pif (v2 = 0) (
      w_X11_fails (fun G3 =>
        w_X11_leavesTo_j28 K G3) p0 (-6) G1) (
      w_X11_leaves (fun G4 =>
        w_X11_leavesTo_j28 K G4) p0 p1 p2 p3 G1)) p0 p2 G0
set_option maxHeartbeats 4000000 in
set_option maxRecDepth 100000 in
theorem t_X11_leavesTo {l : Launch} {sh : Sh} (S : shOK sh) (p0 : Int32) (p1 : Int32) (p2 : Int32) (p3 : Int32) (G0 : Gt) (K : Gt → Prop) (hw : w_X11_leavesTo K p0 p1 p2 p3 G0) : CT0 l yX11_leavesTo cX11_leavesTo 5 none 1 24 [.ref 46, .int p0, .int p1, .int p2, .int p3] sh G0 (fun r G' => r = none ∧ K G') := by
  refine CT0_of (by decide) (Nat.le_of_ble_eq_true rfl) rfl ?_
  intro p e s m args below meth c D tA ad A C hr _
  have h28 : ∀ (G0 : Gt), w_X11_leavesTo_j28 K  G0 → aw p l e { frames := 1, cells := 0, slots := 0, locals := 24 } s m args below meth c 5 D tA A (MQ below (QC0 D tA ad A sh (fun r G' => r = none ∧ K G')) args s 0 0 A) 0 0 ad 28 [none, none, none, none, none] [] sh G0 := by
    intro   G0 hw
    unfold w_X11_leavesTo_j28 at hw
    exact aw_return C hr dX11_leavesTo_28 ⟨rfl, hw⟩
  unfold w_X11_leavesTo at hw
  show aw p l e { frames := 1, cells := 0, slots := 0, locals := 24 } s m args below meth c 5 D tA A (MQ below (QC0 D tA ad A sh (fun r G' => r = none ∧ K G')) args s 0 0 A) 0 0 ad 0 [some (.ref 46), some (.int p0), some (.int p1), some (.int p2), some (.int p3)] [] sh G0
  refine aw_aloadn C dX11_leavesTo_0 rfl ?_
  refine aw_iloadn C dX11_leavesTo_1 rfl ?_
  refine aw_iloadn C dX11_leavesTo_2 rfl ?_
  refine aw_callV C dX11_leavesTo_3 (t_X11_hasLoop S p0 p2 _ _ hw) mM_X11_316 bX11_hasLoop (sA_46 S) rfl rfl ⟨Nat.le_of_ble_eq_true rfl, Nat.le_of_ble_eq_true rfl, Nat.zero_le _, Nat.zero_le _⟩ _ rfl (Nat.le_of_ble_eq_true rfl) (fun r3 G1 hq => ?_)
  obtain ⟨v2, rfl, hw⟩ := hq
  refine aw_if_eq C dX11_leavesTo_6 21 (by decide) hw (fun hc6 hw => ?_) (fun hc6 hw => ?_)
  · refine aw_aloadn C dX11_leavesTo_21 rfl ?_
    refine aw_iloadn C dX11_leavesTo_22 rfl ?_
    refine aw_bipush (v := (-6)) C dX11_leavesTo_23 (by decide) ?_
    refine aw_callV C dX11_leavesTo_25 (t_X11_fails S p0 (-6) _ _ hw) mM_X11_237 bX11_fails (sA_46 S) rfl rfl ⟨Nat.le_of_ble_eq_true rfl, Nat.le_of_ble_eq_true rfl, Nat.zero_le _, Nat.zero_le _⟩ _ rfl (Nat.le_of_ble_eq_true rfl) (fun r25 G3 hq => ?_)
    obtain ⟨rfl, hw⟩ := hq
    exact aw_msk [false, false, false, false, false] (h28 _ hw)
  · refine aw_aloadn C dX11_leavesTo_9 rfl ?_
    refine aw_iloadn C dX11_leavesTo_10 rfl ?_
    refine aw_iloadn C dX11_leavesTo_11 rfl ?_
    refine aw_iloadn C dX11_leavesTo_12 rfl ?_
    refine aw_iload C dX11_leavesTo_13 rfl ?_
    refine aw_callV C dX11_leavesTo_15 (t_X11_leaves S p0 p1 p2 p3 _ _ hw) mM_X11_319 bX11_leaves (sA_46 S) rfl rfl ⟨Nat.le_of_ble_eq_true rfl, Nat.le_of_ble_eq_true rfl, Nat.zero_le _, Nat.zero_le _⟩ _ rfl (Nat.le_of_ble_eq_true rfl) (fun r15 G4 hq => ?_)
    obtain ⟨rfl, hw⟩ := hq
    refine aw_goto (tgt := 28) C dX11_leavesTo_18 (by decide) ?_
    exact aw_msk [false, false, false, false, false] (h28 _ hw)
def w_X11_enters_j62 (K : Gt → Prop)  (G0 : Gt) : Prop :=
  K G0
def w_X11_enters_j59 (K : Gt → Prop) (y1 : Int32) (G0 : Gt) : Prop :=
  bz y1 ∧
  pt (gu G0 46 51 y1) fun G3 =>
  w_X11_enters_j62 K G3
def w_X11_enters_j58 (K : Gt → Prop)  (G0 : Gt) : Prop :=
  w_X11_enters_j59 K 0 G0
def w_X11_enters (K : Gt → Prop) (p0 : Int32) (p1 : Int32) (G0 : Gt) : Prop :=
  w_X11_calls (fun v2 G1 =>
    pif (v2 = 0) (
      pif ((G1 46 51) = 0) (
        w_X11_enters_j58 K G1) (
        vp_in p0 1220 ∧
        vp_in (G1 64 (p0 : Int32).toNatClampNeg) 120 ∧
        pif ((G1 47 ((G1 64 (p0 : Int32).toNatClampNeg) : Int32).toNatClampNeg) = 29) (
          w_X11_enters_j58 K G1) (
          w_X11_enters_j59 K 1 G1))) (
      vp_in p1 6 ∧
      vp_in p0 1220 ∧
      w_X11_begins (fun v5 G4 =>
        w_X11_enters_j62 K G4) (G1 54 (p1 : Int32).toNatClampNeg) 1 p0 (G1 69 (p0 : Int32).toNatClampNeg) G1)) p0 G0
set_option maxHeartbeats 4000000 in
set_option maxRecDepth 100000 in
theorem t_X11_enters {l : Launch} {sh : Sh} (S : shOK sh) (p0 : Int32) (p1 : Int32) (G0 : Gt) (K : Gt → Prop) (hw : w_X11_enters K p0 p1 G0) : CT0 l yX11_enters cX11_enters 4 none 2 49 [.ref 46, .int p0, .int p1] sh G0 (fun r G' => r = none ∧ K G') := by
  refine CT0_of (by decide) (Nat.le_of_ble_eq_true rfl) rfl ?_
  intro p e s m args below meth c D tA ad A C hr _
  have h62 : ∀ (G0 : Gt), w_X11_enters_j62 K  G0 → aw p l e { frames := 2, cells := 0, slots := 0, locals := 49 } s m args below meth c 4 D tA A (MQ below (QC0 D tA ad A sh (fun r G' => r = none ∧ K G')) args s 0 0 A) 0 0 ad 62 [none, none, none, none] [] sh G0 := by
    intro   G0 hw
    unfold w_X11_enters_j62 at hw
    exact aw_return C hr dX11_enters_62 ⟨rfl, hw⟩
  have h59 : ∀ (y1 : Int32) (G0 : Gt), w_X11_enters_j59 K y1 G0 → aw p l e { frames := 2, cells := 0, slots := 0, locals := 49 } s m args below meth c 4 D tA A (MQ below (QC0 D tA ad A sh (fun r G' => r = none ∧ K G')) args s 0 0 A) 0 0 ad 59 [none, none, none, none] [.int y1, .ref 46] sh G0 := by
    intro  y1 G0 hw
    unfold w_X11_enters_j59 at hw
    refine aw_putI C dX11_enters_59 kcX11 (sA_46 S) 51 (by decide) rfl mF_X11_241 rfl (bz_n hw.1) (bz_f hw.1) hw.2 (fun G3 hw => ?_)
    exact aw_msk [false, false, false, false] (h62 _ hw)
  have h58 : ∀ (G0 : Gt), w_X11_enters_j58 K  G0 → aw p l e { frames := 2, cells := 0, slots := 0, locals := 49 } s m args below meth c 4 D tA A (MQ below (QC0 D tA ad A sh (fun r G' => r = none ∧ K G')) args s 0 0 A) 0 0 ad 58 [none, none, none, none] [.ref 46] sh G0 := by
    intro   G0 hw
    unfold w_X11_enters_j58 at hw
    refine aw_iconst (v := 0) C dX11_enters_58 (by decide) ?_
    exact aw_msk [false, false, false, false] (h59 0 _ hw)
  unfold w_X11_enters at hw
  show aw p l e { frames := 2, cells := 0, slots := 0, locals := 49 } s m args below meth c 4 D tA A (MQ below (QC0 D tA ad A sh (fun r G' => r = none ∧ K G')) args s 0 0 A) 0 0 ad 0 [some (.ref 46), some (.int p0), some (.int p1), none] [] sh G0
  refine aw_aloadn C dX11_enters_0 rfl ?_
  refine aw_iloadn C dX11_enters_1 rfl ?_
  refine aw_callV C dX11_enters_2 (t_X11_calls S p0 _ _ hw) mM_X11_253 bX11_calls (sA_46 S) rfl rfl ⟨Nat.le_of_ble_eq_true rfl, Nat.le_of_ble_eq_true rfl, Nat.zero_le _, Nat.zero_le _⟩ _ rfl (Nat.le_of_ble_eq_true rfl) (fun r2 G1 hq => ?_)
  obtain ⟨v2, rfl, hw⟩ := hq
  refine aw_if_eq C dX11_enters_5 30 (by decide) hw (fun hc5 hw => ?_) (fun hc5 hw => ?_)
  · refine aw_aloadn C dX11_enters_30 rfl ?_
    refine aw_aloadn C dX11_enters_31 rfl ?_
    refine aw_getI C dX11_enters_32 kcX11 (sA_46 S) 51 (by decide) rfl mF_X11_241 ?_
    refine aw_if_eq C dX11_enters_35 58 (by decide) hw (fun hc35 hw => ?_) (fun hc35 hw => ?_)
    · exact aw_msk [false, false, false, false] (h58 _ hw)
    · refine aw_aloadn C dX11_enters_38 rfl ?_
      refine aw_getR (r := 47) C dX11_enters_39 kcX11 (sA_46 S) 1 (by decide) rfl mF_X11_7 ?_
      refine aw_aloadn C dX11_enters_42 rfl ?_
      refine aw_getR (r := 64) C dX11_enters_43 kcX11 (sA_46 S) 22 (by decide) rfl mF_X11_69 ?_
      refine aw_iloadn C dX11_enters_46 rfl ?_
      refine aw_iald C dX11_enters_47 (sA_64 S) hw.1 ?_
      replace hw := hw.2
      refine aw_iald C dX11_enters_48 (sA_47 S) hw.1 ?_
      replace hw := hw.2
      refine aw_bipush (v := 29) C dX11_enters_49 (by decide) ?_
      refine aw_ic_eq C dX11_enters_51 58 (by decide) hw (fun hc51 hw => ?_) (fun hc51 hw => ?_)
      · exact aw_msk [false, false, false, false] (h58 _ hw)
      · refine aw_iconst (v := 1) C dX11_enters_54 (by decide) ?_
        refine aw_goto (tgt := 59) C dX11_enters_55 (by decide) ?_
        exact aw_msk [false, false, false, false] (h59 1 _ hw)
  · refine aw_aloadn C dX11_enters_8 rfl ?_
    refine aw_aloadn C dX11_enters_9 rfl ?_
    refine aw_getR (r := 54) C dX11_enters_10 kcX11 (sA_46 S) 8 (by decide) rfl mF_X11_32 ?_
    refine aw_iloadn C dX11_enters_13 rfl ?_
    refine aw_iald C dX11_enters_14 (sA_54 S) hw.1 ?_
    replace hw := hw.2
    refine aw_iconst (v := 1) C dX11_enters_15 (by decide) ?_
    refine aw_iloadn C dX11_enters_16 rfl ?_
    refine aw_aloadn C dX11_enters_17 rfl ?_
    refine aw_getR (r := 69) C dX11_enters_18 kcX11 (sA_46 S) 27 (by decide) rfl mF_X11_84 ?_
    refine aw_iloadn C dX11_enters_21 rfl ?_
    refine aw_iald C dX11_enters_22 (sA_69 S) hw.1 ?_
    replace hw := hw.2
    refine aw_callV C dX11_enters_23 (t_X11_begins S (G1 54 (p1 : Int32).toNatClampNeg) 1 p0 (G1 69 (p0 : Int32).toNatClampNeg) _ _ hw) mM_X11_247 bX11_begins (sA_46 S) rfl rfl ⟨Nat.le_of_ble_eq_true rfl, Nat.le_of_ble_eq_true rfl, Nat.zero_le _, Nat.zero_le _⟩ _ rfl (Nat.le_of_ble_eq_true rfl) (fun r23 G4 hq => ?_)
    obtain ⟨v5, rfl, hw⟩ := hq
    refine aw_istoren C dX11_enters_26 (by decide) rfl ?_
    refine aw_goto (tgt := 62) C dX11_enters_27 (by decide) ?_
    exact aw_msk [false, false, false, false] (h62 _ hw)
def w_X11_looks_j76 (K : Gt → Prop)  (G0 : Gt) : Prop :=
  K G0
def w_X11_looks_j73 (K : Gt → Prop) (y1 : Int32) (y2 : Int32) (G0 : Gt) : Prop :=
  w_X11_ends (fun G1 =>
    w_X11_looks_j76 K G1) y1 y2 G0
def w_X11_looks_j23 (K : Gt → Prop) (x1 : Int32) (x2 : Int32) (G0 : Gt) : Prop :=
  pif (x2 = 30) (
    w_X11_erases (fun v7 G6 =>
      w_X11_looks_j73 K x1 v7 G6) G0) (
    pif (x2 = 32) (
      w_X11_place (fun v5 G4 =>
        w_X11_looks_j73 K x1 v5 G4) G0) (
      pif (x2 = 33) (
        w_X11_letterHere (fun v3 G2 =>
          w_X11_looks_j73 K x1 v3 G2) G0) (
        vp_in (G0 46 14) 2 ∧
        w_X11_looks_j73 K x1 (G0 59 ((G0 46 14) : Int32).toNatClampNeg) G0)))
def w_X11_looks (K : Gt → Prop) (p0 : Int32) (p1 : Int32) (G0 : Gt) : Prop :=
  pif (p1 = 30) (
    w_X11_place (fun v9 G8 =>
      pif (v9 = 0) (
        w_X11_fails (fun G10 =>
          w_X11_looks_j76 K G10) p0 (-4) G8) (
        w_X11_looks_j23 K p0 p1 G8)) G0) (
    w_X11_looks_j23 K p0 p1 G0)
set_option maxHeartbeats 4000000 in
set_option maxRecDepth 100000 in
theorem t_X11_looks {l : Launch} {sh : Sh} (S : shOK sh) (p0 : Int32) (p1 : Int32) (G0 : Gt) (K : Gt → Prop) (hw : w_X11_looks K p0 p1 G0) : CT0 l yX11_looks cX11_looks 3 none 2 44 [.ref 46, .int p0, .int p1] sh G0 (fun r G' => r = none ∧ K G') := by
  refine CT0_of (by decide) (Nat.le_of_ble_eq_true rfl) rfl ?_
  intro p e s m args below meth c D tA ad A C hr _
  have h76 : ∀ (G0 : Gt), w_X11_looks_j76 K  G0 → aw p l e { frames := 2, cells := 0, slots := 0, locals := 44 } s m args below meth c 3 D tA A (MQ below (QC0 D tA ad A sh (fun r G' => r = none ∧ K G')) args s 0 0 A) 0 0 ad 76 [none, none, none] [] sh G0 := by
    intro   G0 hw
    unfold w_X11_looks_j76 at hw
    exact aw_return C hr dX11_looks_76 ⟨rfl, hw⟩
  have h73 : ∀ (y1 : Int32) (y2 : Int32) (G0 : Gt), w_X11_looks_j73 K y1 y2 G0 → aw p l e { frames := 2, cells := 0, slots := 0, locals := 44 } s m args below meth c 3 D tA A (MQ below (QC0 D tA ad A sh (fun r G' => r = none ∧ K G')) args s 0 0 A) 0 0 ad 73 [none, none, none] [.int y2, .int y1, .ref 46] sh G0 := by
    intro  y1 y2 G0 hw
    unfold w_X11_looks_j73 at hw
    refine aw_callV C dX11_looks_73 (t_X11_ends S y1 y2 _ _ hw) mM_X11_262 bX11_ends (sA_46 S) rfl rfl ⟨Nat.le_of_ble_eq_true rfl, Nat.le_of_ble_eq_true rfl, Nat.zero_le _, Nat.zero_le _⟩ _ rfl (Nat.le_of_ble_eq_true rfl) (fun r73 G1 hq => ?_)
    obtain ⟨rfl, hw⟩ := hq
    exact aw_msk [false, false, false] (h76 _ hw)
  have h23 : ∀ (x1 : Int32) (x2 : Int32) (G0 : Gt), w_X11_looks_j23 K x1 x2 G0 → aw p l e { frames := 2, cells := 0, slots := 0, locals := 44 } s m args below meth c 3 D tA A (MQ below (QC0 D tA ad A sh (fun r G' => r = none ∧ K G')) args s 0 0 A) 0 0 ad 23 [some (.ref 46), some (.int x1), some (.int x2)] [] sh G0 := by
    intro  x1 x2 G0 hw
    unfold w_X11_looks_j23 at hw
    refine aw_aloadn C dX11_looks_23 rfl ?_
    refine aw_iloadn C dX11_looks_24 rfl ?_
    refine aw_iloadn C dX11_looks_25 rfl ?_
    refine aw_bipush (v := 30) C dX11_looks_26 (by decide) ?_
    refine aw_ic_ne C dX11_looks_28 38 (by decide) hw (fun hc28 hw => ?_) (fun hc28 hw => ?_)
    · refine aw_iloadn C dX11_looks_38 rfl ?_
      refine aw_bipush (v := 32) C dX11_looks_39 (by decide) ?_
      refine aw_ic_ne C dX11_looks_41 51 (by decide) hw (fun hc41 hw => ?_) (fun hc41 hw => ?_)
      · refine aw_iloadn C dX11_looks_51 rfl ?_
        refine aw_bipush (v := 33) C dX11_looks_52 (by decide) ?_
        refine aw_ic_ne C dX11_looks_54 64 (by decide) hw (fun hc54 hw => ?_) (fun hc54 hw => ?_)
        · refine aw_aloadn C dX11_looks_64 rfl ?_
          refine aw_getR (r := 59) C dX11_looks_65 kcX11 (sA_46 S) 16 (by decide) rfl mF_X11_54 ?_
          refine aw_aloadn C dX11_looks_68 rfl ?_
          refine aw_getI C dX11_looks_69 kcX11 (sA_46 S) 14 (by decide) rfl mF_X11_180 ?_
          refine aw_iald C dX11_looks_72 (sA_59 S) hw.1 ?_
          replace hw := hw.2
          exact aw_msk [false, false, false] (h73 x1 (G0 59 ((G0 46 14) : Int32).toNatClampNeg) _ hw)
        · refine aw_aloadn C dX11_looks_57 rfl ?_
          refine aw_callV C dX11_looks_58 (t_X11_letterHere S _ _ hw) mM_X11_313 bX11_letterHere (sA_46 S) rfl rfl ⟨Nat.le_of_ble_eq_true rfl, Nat.le_of_ble_eq_true rfl, Nat.zero_le _, Nat.zero_le _⟩ _ rfl (Nat.le_of_ble_eq_true rfl) (fun r58 G2 hq => ?_)
          obtain ⟨v3, rfl, hw⟩ := hq
          refine aw_goto (tgt := 73) C dX11_looks_61 (by decide) ?_
          exact aw_msk [false, false, false] (h73 x1 v3 _ hw)
      · refine aw_aloadn C dX11_looks_44 rfl ?_
        refine aw_callV C dX11_looks_45 (t_X11_place S _ _ hw) mM_X11_255 bX11_place (sA_46 S) rfl rfl ⟨Nat.le_of_ble_eq_true rfl, Nat.le_of_ble_eq_true rfl, Nat.zero_le _, Nat.zero_le _⟩ _ rfl (Nat.le_of_ble_eq_true rfl) (fun r45 G4 hq => ?_)
        obtain ⟨v5, rfl, hw⟩ := hq
        refine aw_goto (tgt := 73) C dX11_looks_48 (by decide) ?_
        exact aw_msk [false, false, false] (h73 x1 v5 _ hw)
    · refine aw_aloadn C dX11_looks_31 rfl ?_
      refine aw_callV C dX11_looks_32 (t_X11_erases S _ _ hw) mM_X11_310 bX11_erases (sA_46 S) rfl rfl ⟨Nat.le_of_ble_eq_true rfl, Nat.le_of_ble_eq_true rfl, Nat.zero_le _, Nat.zero_le _⟩ _ rfl (Nat.le_of_ble_eq_true rfl) (fun r32 G6 hq => ?_)
      obtain ⟨v7, rfl, hw⟩ := hq
      refine aw_goto (tgt := 73) C dX11_looks_35 (by decide) ?_
      exact aw_msk [false, false, false] (h73 x1 v7 _ hw)
  unfold w_X11_looks at hw
  show aw p l e { frames := 2, cells := 0, slots := 0, locals := 44 } s m args below meth c 3 D tA A (MQ below (QC0 D tA ad A sh (fun r G' => r = none ∧ K G')) args s 0 0 A) 0 0 ad 0 [some (.ref 46), some (.int p0), some (.int p1)] [] sh G0
  refine aw_iloadn C dX11_looks_0 rfl ?_
  refine aw_bipush (v := 30) C dX11_looks_1 (by decide) ?_
  refine aw_ic_ne C dX11_looks_3 23 (by decide) hw (fun hc3 hw => ?_) (fun hc3 hw => ?_)
  · exact aw_msk [true, true, true] (h23 p0 p1 _ hw)
  · refine aw_aloadn C dX11_looks_6 rfl ?_
    refine aw_callV C dX11_looks_7 (t_X11_place S _ _ hw) mM_X11_255 bX11_place (sA_46 S) rfl rfl ⟨Nat.le_of_ble_eq_true rfl, Nat.le_of_ble_eq_true rfl, Nat.zero_le _, Nat.zero_le _⟩ _ rfl (Nat.le_of_ble_eq_true rfl) (fun r7 G8 hq => ?_)
    obtain ⟨v9, rfl, hw⟩ := hq
    refine aw_if_ne C dX11_looks_10 23 (by decide) hw (fun hc10 hw => ?_) (fun hc10 hw => ?_)
    · exact aw_msk [true, true, true] (h23 p0 p1 _ hw)
    · refine aw_aloadn C dX11_looks_13 rfl ?_
      refine aw_iloadn C dX11_looks_14 rfl ?_
      refine aw_bipush (v := (-4)) C dX11_looks_15 (by decide) ?_
      refine aw_callV C dX11_looks_17 (t_X11_fails S p0 (-4) _ _ hw) mM_X11_237 bX11_fails (sA_46 S) rfl rfl ⟨Nat.le_of_ble_eq_true rfl, Nat.le_of_ble_eq_true rfl, Nat.zero_le _, Nat.zero_le _⟩ _ rfl (Nat.le_of_ble_eq_true rfl) (fun r17 G10 hq => ?_)
      obtain ⟨rfl, hw⟩ := hq
      refine aw_goto (tgt := 76) C dX11_looks_20 (by decide) ?_
      exact aw_msk [false, false, false] (h76 _ hw)
def w_X11_goesOn_j122 (K : Gt → Prop)  (G0 : Gt) : Prop :=
  K G0
def w_X11_goesOn_j77 (K : Gt → Prop) (x1 : Int32) (x3 : Int32) (G0 : Gt) : Prop :=
  pif (x3 = 0) (
    w_X11_setsBack (fun G1 =>
      vp_in x1 1220 ∧
      w_X11_ends (fun G2 =>
        w_X11_goesOn_j122 K G2) x1 (G1 67 (x1 : Int32).toNatClampNeg) G1) x1 G0) (
    vp_in x1 1220 ∧
    vp_in (G0 64 (x1 : Int32).toNatClampNeg) 120 ∧
    vp_in x1 1220 ∧
    w_X11_parts (fun G3 =>
      w_X11_goesOn_j122 K G3) (G0 48 ((G0 64 (x1 : Int32).toNatClampNeg) : Int32).toNatClampNeg) x1 (G0 67 (x1 : Int32).toNatClampNeg) G0)
def w_X11_goesOn_j74 (K : Gt → Prop) (rec12 : Int32 → Int32 → Int32 → Gt → Prop) (x1 : Int32) (x2 : Int32) (x3 : Int32) (G0 : Gt) : Prop :=
  rec12 x1 x2 x3 G0
def w_X11_goesOn_h12 (K : Gt → Prop) : Nat → Int32 → Int32 → Int32 → Gt → Prop
  | 0, _, _, _, _ => False
  | n + 1, x1, x2, x3, G0 =>
    vp_in x1 1220 ∧
    pif ((G0 68 (x1 : Int32).toNatClampNeg) ≤ 0) (
      w_X11_goesOn_j77 K x1 x3 G0) (
      pif (x3 = 0) (
        vp_in x1 1220 ∧
        vp_in x1 1220 ∧
        vp_in x1 1220 ∧
        pt (gu G0 68 (x1 : Int32).toNatClampNeg ((G0 68 (x1 : Int32).toNatClampNeg) / 8)) fun G4 =>
        vp_in ((4 * x2) + (((G0 68 (x1 : Int32).toNatClampNeg) - (G0 68 (x1 : Int32).toNatClampNeg) / 8 * 8) - 1)) 8 ∧
        pif ((G4 60 (((4 * x2) + (((G0 68 (x1 : Int32).toNatClampNeg) - (G0 68 (x1 : Int32).toNatClampNeg) / 8 * 8) - 1)) : Int32).toNatClampNeg) = (-1)) (
          w_X11_goesOn_j74 K (fun z0 z1 z2 z3 => w_X11_goesOn_h12 K n z0 z1 z2 z3) x1 x2 x3 G4) (
          vp_in x2 2 ∧
          pt (gu G4 61 (x2 : Int32).toNatClampNeg (((G0 68 (x1 : Int32).toNatClampNeg) - (G0 68 (x1 : Int32).toNatClampNeg) / 8 * 8) - 1)) fun G5 =>
          w_X11_goesOn_j74 K (fun z0 z1 z2 z3 => w_X11_goesOn_h12 K n z0 z1 z2 z3) x1 x2 1 G5)) (
        w_X11_goesOn_j77 K x1 x3 G0))
def w_X11_goesOn (K : Gt → Prop) (p0 : Int32) (G0 : Gt) : Prop :=
  vp_in p0 1220 ∧
  ∃ i, w_X11_goesOn_h12 K i p0 ((G0 69 (p0 : Int32).toNatClampNeg) / 8) 0 G0
set_option maxHeartbeats 4000000 in
set_option maxRecDepth 100000 in
theorem t_X11_goesOn {l : Launch} {sh : Sh} (S : shOK sh) (p0 : Int32) (G0 : Gt) (K : Gt → Prop) (hw : w_X11_goesOn K p0 G0) : CT0 l yX11_goesOn cX11_goesOn 5 none 2 46 [.ref 46, .int p0] sh G0 (fun r G' => r = none ∧ K G') := by
  refine CT0_of (by decide) (Nat.le_of_ble_eq_true rfl) rfl ?_
  intro p e s m args below meth c D tA ad A C hr _
  have h122 : ∀ (G0 : Gt), w_X11_goesOn_j122 K  G0 → aw p l e { frames := 2, cells := 0, slots := 0, locals := 46 } s m args below meth c 5 D tA A (MQ below (QC0 D tA ad A sh (fun r G' => r = none ∧ K G')) args s 0 0 A) 0 0 ad 122 [none, none, none, none, none] [] sh G0 := by
    intro   G0 hw
    unfold w_X11_goesOn_j122 at hw
    exact aw_return C hr dX11_goesOn_122 ⟨rfl, hw⟩
  have h77 : ∀ (x1 : Int32) (x3 : Int32) (G0 : Gt), w_X11_goesOn_j77 K x1 x3 G0 → aw p l e { frames := 2, cells := 0, slots := 0, locals := 46 } s m args below meth c 5 D tA A (MQ below (QC0 D tA ad A sh (fun r G' => r = none ∧ K G')) args s 0 0 A) 0 0 ad 77 [some (.ref 46), some (.int x1), none, some (.int x3), none] [] sh G0 := by
    intro  x1 x3 G0 hw
    unfold w_X11_goesOn_j77 at hw
    refine aw_iloadn C dX11_goesOn_77 rfl ?_
    refine aw_if_eq C dX11_goesOn_78 106 (by decide) hw (fun hc78 hw => ?_) (fun hc78 hw => ?_)
    · refine aw_aloadn C dX11_goesOn_106 rfl ?_
      refine aw_iloadn C dX11_goesOn_107 rfl ?_
      refine aw_callV C dX11_goesOn_108 (t_X11_setsBack S x1 _ _ hw) mM_X11_276 bX11_setsBack (sA_46 S) rfl rfl ⟨Nat.le_of_ble_eq_true rfl, Nat.le_of_ble_eq_true rfl, Nat.zero_le _, Nat.zero_le _⟩ _ rfl (Nat.le_of_ble_eq_true rfl) (fun r108 G1 hq => ?_)
      obtain ⟨rfl, hw⟩ := hq
      refine aw_aloadn C dX11_goesOn_111 rfl ?_
      refine aw_iloadn C dX11_goesOn_112 rfl ?_
      refine aw_aloadn C dX11_goesOn_113 rfl ?_
      refine aw_getR (r := 67) C dX11_goesOn_114 kcX11 (sA_46 S) 25 (by decide) rfl mF_X11_78 ?_
      refine aw_iloadn C dX11_goesOn_117 rfl ?_
      refine aw_iald C dX11_goesOn_118 (sA_67 S) hw.1 ?_
      replace hw := hw.2
      refine aw_callV C dX11_goesOn_119 (t_X11_ends S x1 (G1 67 (x1 : Int32).toNatClampNeg) _ _ hw) mM_X11_262 bX11_ends (sA_46 S) rfl rfl ⟨Nat.le_of_ble_eq_true rfl, Nat.le_of_ble_eq_true rfl, Nat.zero_le _, Nat.zero_le _⟩ _ rfl (Nat.le_of_ble_eq_true rfl) (fun r119 G2 hq => ?_)
      obtain ⟨rfl, hw⟩ := hq
      exact aw_msk [false, false, false, false, false] (h122 _ hw)
    · refine aw_aloadn C dX11_goesOn_81 rfl ?_
      refine aw_aloadn C dX11_goesOn_82 rfl ?_
      refine aw_getR (r := 48) C dX11_goesOn_83 kcX11 (sA_46 S) 2 (by decide) rfl mF_X11_13 ?_
      refine aw_aloadn C dX11_goesOn_86 rfl ?_
      refine aw_getR (r := 64) C dX11_goesOn_87 kcX11 (sA_46 S) 22 (by decide) rfl mF_X11_69 ?_
      refine aw_iloadn C dX11_goesOn_90 rfl ?_
      refine aw_iald C dX11_goesOn_91 (sA_64 S) hw.1 ?_
      replace hw := hw.2
      refine aw_iald C dX11_goesOn_92 (sA_48 S) hw.1 ?_
      replace hw := hw.2
      refine aw_iloadn C dX11_goesOn_93 rfl ?_
      refine aw_aloadn C dX11_goesOn_94 rfl ?_
      refine aw_getR (r := 67) C dX11_goesOn_95 kcX11 (sA_46 S) 25 (by decide) rfl mF_X11_78 ?_
      refine aw_iloadn C dX11_goesOn_98 rfl ?_
      refine aw_iald C dX11_goesOn_99 (sA_67 S) hw.1 ?_
      replace hw := hw.2
      refine aw_callV C dX11_goesOn_100 (t_X11_parts S (G0 48 ((G0 64 (x1 : Int32).toNatClampNeg) : Int32).toNatClampNeg) x1 (G0 67 (x1 : Int32).toNatClampNeg) _ _ hw) mM_X11_273 bX11_parts (sA_46 S) rfl rfl ⟨Nat.le_of_ble_eq_true rfl, Nat.le_of_ble_eq_true rfl, Nat.zero_le _, Nat.zero_le _⟩ _ rfl (Nat.le_of_ble_eq_true rfl) (fun r100 G3 hq => ?_)
      obtain ⟨rfl, hw⟩ := hq
      refine aw_goto (tgt := 122) C dX11_goesOn_103 (by decide) ?_
      exact aw_msk [false, false, false, false, false] (h122 _ hw)
  have h74 : ∀ (rec12 : Int32 → Int32 → Int32 → Gt → Prop) (hrec12 : ∀ (x1 : Int32) (x2 : Int32) (x3 : Int32) (G0 : Gt), rec12 x1 x2 x3 G0 → aw p l e { frames := 2, cells := 0, slots := 0, locals := 46 } s m args below meth c 5 D tA A (MQ below (QC0 D tA ad A sh (fun r G' => r = none ∧ K G')) args s 0 0 A) 0 0 ad 12 [some (.ref 46), some (.int x1), some (.int x2), some (.int x3), none] [] sh G0) (x1 : Int32) (x2 : Int32) (x3 : Int32) (G0 : Gt), w_X11_goesOn_j74 K rec12 x1 x2 x3 G0 → aw p l e { frames := 2, cells := 0, slots := 0, locals := 46 } s m args below meth c 5 D tA A (MQ below (QC0 D tA ad A sh (fun r G' => r = none ∧ K G')) args s 0 0 A) 0 0 ad 74 [some (.ref 46), some (.int x1), some (.int x2), some (.int x3), none] [] sh G0 := by
    intro rec12 hrec12 x1 x2 x3 G0 hw
    unfold w_X11_goesOn_j74 at hw
    refine aw_goto (tgt := 12) C dX11_goesOn_74 (by decide) ?_
    exact aw_msk [true, true, true, true, false] (hrec12 x1 x2 x3 _ hw)
  have h12 : ∀ (n : Nat) (x1 : Int32) (x2 : Int32) (x3 : Int32) (G0 : Gt), w_X11_goesOn_h12 K n x1 x2 x3 G0 → aw p l e { frames := 2, cells := 0, slots := 0, locals := 46 } s m args below meth c 5 D tA A (MQ below (QC0 D tA ad A sh (fun r G' => r = none ∧ K G')) args s 0 0 A) 0 0 ad 12 [some (.ref 46), some (.int x1), some (.int x2), some (.int x3), none] [] sh G0 := by
    intro  n
    induction n with
    | zero => intro x1 x2 x3 G0 hw; exact hw.elim
    | succ n ih =>
      intro x1 x2 x3 G0 hw
      rw [w_X11_goesOn_h12] at hw
      refine aw_aloadn C dX11_goesOn_12 rfl ?_
      refine aw_getR (r := 68) C dX11_goesOn_13 kcX11 (sA_46 S) 26 (by decide) rfl mF_X11_81 ?_
      refine aw_iloadn C dX11_goesOn_16 rfl ?_
      refine aw_iald C dX11_goesOn_17 (sA_68 S) hw.1 ?_
      replace hw := hw.2
      refine aw_if_le C dX11_goesOn_18 77 (by decide) hw (fun hc18 hw => ?_) (fun hc18 hw => ?_)
      · exact aw_msk [true, true, false, true, false] (h77 x1 x3 _ hw)
      · refine aw_iloadn C dX11_goesOn_21 rfl ?_
        refine aw_if_ne C dX11_goesOn_22 77 (by decide) hw (fun hc22 hw => ?_) (fun hc22 hw => ?_)
        · exact aw_msk [true, true, false, true, false] (h77 x1 x3 _ hw)
        · refine aw_aloadn C dX11_goesOn_25 rfl ?_
          refine aw_getR (r := 68) C dX11_goesOn_26 kcX11 (sA_46 S) 26 (by decide) rfl mF_X11_81 ?_
          refine aw_iloadn C dX11_goesOn_29 rfl ?_
          refine aw_iald C dX11_goesOn_30 (sA_68 S) hw.1 ?_
          replace hw := hw.2
          refine aw_bipush (v := 8) C dX11_goesOn_31 (by decide) ?_
          refine aw_irem C dX11_goesOn_33 (by decide) ?_
          refine aw_iconst (v := 1) C dX11_goesOn_34 (by decide) ?_
          refine aw_isub C dX11_goesOn_35 ?_
          refine aw_istore C dX11_goesOn_36 (by decide) rfl ?_
          refine aw_aloadn C dX11_goesOn_38 rfl ?_
          refine aw_getR (r := 68) C dX11_goesOn_39 kcX11 (sA_46 S) 26 (by decide) rfl mF_X11_81 ?_
          refine aw_iloadn C dX11_goesOn_42 rfl ?_
          refine aw_dup2 C dX11_goesOn_43 rfl rfl ?_
          refine aw_iald C dX11_goesOn_44 (sA_68 S) hw.1 ?_
          replace hw := hw.2
          refine aw_bipush (v := 8) C dX11_goesOn_45 (by decide) ?_
          refine aw_idiv C dX11_goesOn_47 (by decide) ?_
          refine aw_iast C dX11_goesOn_48 (sA_68 S) hw.1 hw.2 (fun G4 hw => ?_)
          refine aw_aloadn C dX11_goesOn_49 rfl ?_
          refine aw_getR (r := 60) C dX11_goesOn_50 kcX11 (sA_46 S) 17 (by decide) rfl mF_X11_57 ?_
          refine aw_iconst (v := 4) C dX11_goesOn_53 (by decide) ?_
          refine aw_iloadn C dX11_goesOn_54 rfl ?_
          refine aw_imul C dX11_goesOn_55 ?_
          refine aw_iload C dX11_goesOn_56 rfl ?_
          refine aw_iadd C dX11_goesOn_58 ?_
          refine aw_iald C dX11_goesOn_59 (sA_60 S) hw.1 ?_
          replace hw := hw.2
          refine aw_iconst (v := (-1)) C dX11_goesOn_60 (by decide) ?_
          refine aw_ic_eq C dX11_goesOn_61 74 (by decide) hw (fun hc61 hw => ?_) (fun hc61 hw => ?_)
          · exact aw_msk [true, true, true, true, false] (h74 _ ih x1 x2 x3 _ hw)
          · refine aw_aloadn C dX11_goesOn_64 rfl ?_
            refine aw_getR (r := 61) C dX11_goesOn_65 kcX11 (sA_46 S) 18 (by decide) rfl mF_X11_60 ?_
            refine aw_iloadn C dX11_goesOn_68 rfl ?_
            refine aw_iload C dX11_goesOn_69 rfl ?_
            refine aw_iast C dX11_goesOn_71 (sA_61 S) hw.1 hw.2 (fun G5 hw => ?_)
            refine aw_iconst (v := 1) C dX11_goesOn_72 (by decide) ?_
            refine aw_istoren C dX11_goesOn_73 (by decide) rfl ?_
            exact aw_msk [true, true, true, true, false] (h74 _ ih x1 x2 1 _ hw)
  unfold w_X11_goesOn at hw
  show aw p l e { frames := 2, cells := 0, slots := 0, locals := 46 } s m args below meth c 5 D tA A (MQ below (QC0 D tA ad A sh (fun r G' => r = none ∧ K G')) args s 0 0 A) 0 0 ad 0 [some (.ref 46), some (.int p0), none, none, none] [] sh G0
  refine aw_aloadn C dX11_goesOn_0 rfl ?_
  refine aw_getR (r := 69) C dX11_goesOn_1 kcX11 (sA_46 S) 27 (by decide) rfl mF_X11_84 ?_
  refine aw_iloadn C dX11_goesOn_4 rfl ?_
  refine aw_iald C dX11_goesOn_5 (sA_69 S) hw.1 ?_
  replace hw := hw.2
  refine aw_bipush (v := 8) C dX11_goesOn_6 (by decide) ?_
  refine aw_idiv C dX11_goesOn_8 (by decide) ?_
  refine aw_istoren C dX11_goesOn_9 (by decide) rfl ?_
  refine aw_iconst (v := 0) C dX11_goesOn_10 (by decide) ?_
  refine aw_istoren C dX11_goesOn_11 (by decide) rfl ?_
  obtain ⟨n0, hw⟩ := hw
  exact aw_msk [true, true, true, true, false] (h12 n0 p0 ((G0 69 (p0 : Int32).toNatClampNeg) / 8) 0 _ hw)
def w_X11_generatorEnds_j92 (K : Gt → Prop)  (G0 : Gt) : Prop :=
  K G0
def w_X11_generatorEnds_j52 (K : Gt → Prop) (x2 : Int32) (x3 : Int32) (G0 : Gt) : Prop :=
  pif (x3 = 0) (
    w_X11_comesBack (fun G2 =>
      vp_in x2 1220 ∧
      pt (gu G2 46 57 (G2 65 (x2 : Int32).toNatClampNeg)) fun G3 =>
      pif ((G3 46 41) = 2) (
        w_X11_generatorEnds_j92 K G3) (
        w_X11_ends (fun G4 =>
          w_X11_generatorEnds_j92 K G4) x2 (-1) G3)) x2 G0) (
    w_X11_closes (fun G5 =>
      w_X11_generatorEnds_j92 K G5) G0)
def w_X11_generatorEnds_j20 (K : Gt → Prop) (x1 : Int32) (x2 : Int32) (y0 : Int32) (G0 : Gt) : Prop :=
  vp_in x1 1220 ∧
  vp_in (G0 68 (x1 : Int32).toNatClampNeg) 610 ∧
  pt (gu G0 77 ((G0 68 (x1 : Int32).toNatClampNeg) : Int32).toNatClampNeg 4) fun G1 =>
  pif (y0 = 0) (
    w_X11_generatorEnds_j52 K x2 y0 G1) (
    pif ((G1 46 41) = 2) (
      w_X11_stops (fun G6 =>
        w_X11_generatorEnds_j92 K G6) G1) (
      w_X11_generatorEnds_j52 K x2 y0 G1))
def w_X11_generatorEnds (K : Gt → Prop) (p0 : Int32) (p1 : Int32) (G0 : Gt) : Prop :=
  vp_in p0 1220 ∧
  vp_in (G0 68 (p0 : Int32).toNatClampNeg) 610 ∧
  pif ((G0 77 ((G0 68 (p0 : Int32).toNatClampNeg) : Int32).toNatClampNeg) = 3) (
    w_X11_generatorEnds_j20 K p0 p1 1 G0) (
    w_X11_generatorEnds_j20 K p0 p1 0 G0)
set_option maxHeartbeats 4000000 in
set_option maxRecDepth 100000 in
theorem t_X11_generatorEnds {l : Launch} {sh : Sh} (S : shOK sh) (p0 : Int32) (p1 : Int32) (G0 : Gt) (K : Gt → Prop) (hw : w_X11_generatorEnds K p0 p1 G0) : CT0 l yX11_generatorEnds cX11_generatorEnds 4 none 2 45 [.ref 46, .int p0, .int p1] sh G0 (fun r G' => r = none ∧ K G') := by
  refine CT0_of (by decide) (Nat.le_of_ble_eq_true rfl) rfl ?_
  intro p e s m args below meth c D tA ad A C hr _
  have h92 : ∀ (G0 : Gt), w_X11_generatorEnds_j92 K  G0 → aw p l e { frames := 2, cells := 0, slots := 0, locals := 45 } s m args below meth c 4 D tA A (MQ below (QC0 D tA ad A sh (fun r G' => r = none ∧ K G')) args s 0 0 A) 0 0 ad 92 [none, none, none, none] [] sh G0 := by
    intro   G0 hw
    unfold w_X11_generatorEnds_j92 at hw
    exact aw_return C hr dX11_generatorEnds_92 ⟨rfl, hw⟩
  have h52 : ∀ (x2 : Int32) (x3 : Int32) (G0 : Gt), w_X11_generatorEnds_j52 K x2 x3 G0 → aw p l e { frames := 2, cells := 0, slots := 0, locals := 45 } s m args below meth c 4 D tA A (MQ below (QC0 D tA ad A sh (fun r G' => r = none ∧ K G')) args s 0 0 A) 0 0 ad 52 [some (.ref 46), none, some (.int x2), some (.int x3)] [] sh G0 := by
    intro  x2 x3 G0 hw
    unfold w_X11_generatorEnds_j52 at hw
    refine aw_iloadn C dX11_generatorEnds_52 rfl ?_
    refine aw_if_eq C dX11_generatorEnds_53 63 (by decide) hw (fun hc53 hw => ?_) (fun hc53 hw => ?_)
    · refine aw_aloadn C dX11_generatorEnds_63 rfl ?_
      refine aw_iloadn C dX11_generatorEnds_64 rfl ?_
      refine aw_callV C dX11_generatorEnds_65 (t_X11_comesBack S x2 _ _ hw) mM_X11_337 bX11_comesBack (sA_46 S) rfl rfl ⟨Nat.le_of_ble_eq_true rfl, Nat.le_of_ble_eq_true rfl, Nat.zero_le _, Nat.zero_le _⟩ _ rfl (Nat.le_of_ble_eq_true rfl) (fun r65 G2 hq => ?_)
      obtain ⟨rfl, hw⟩ := hq
      refine aw_aloadn C dX11_generatorEnds_68 rfl ?_
      refine aw_aloadn C dX11_generatorEnds_69 rfl ?_
      refine aw_getR (r := 65) C dX11_generatorEnds_70 kcX11 (sA_46 S) 23 (by decide) rfl mF_X11_72 ?_
      refine aw_iloadn C dX11_generatorEnds_73 rfl ?_
      refine aw_iald C dX11_generatorEnds_74 (sA_65 S) hw.1 ?_
      replace hw := hw.2
      refine aw_putI C dX11_generatorEnds_75 kcX11 (sA_46 S) 57 (by decide) rfl mF_X11_212 rfl rfl rfl hw (fun G3 hw => ?_)
      refine aw_aloadn C dX11_generatorEnds_78 rfl ?_
      refine aw_getI C dX11_generatorEnds_79 kcX11 (sA_46 S) 41 (by decide) rfl mF_X11_202 ?_
      refine aw_iconst (v := 2) C dX11_generatorEnds_82 (by decide) ?_
      refine aw_ic_eq C dX11_generatorEnds_83 92 (by decide) hw (fun hc83 hw => ?_) (fun hc83 hw => ?_)
      · exact aw_msk [false, false, false, false] (h92 _ hw)
      · refine aw_aloadn C dX11_generatorEnds_86 rfl ?_
        refine aw_iloadn C dX11_generatorEnds_87 rfl ?_
        refine aw_iconst (v := (-1)) C dX11_generatorEnds_88 (by decide) ?_
        refine aw_callV C dX11_generatorEnds_89 (t_X11_ends S x2 (-1) _ _ hw) mM_X11_262 bX11_ends (sA_46 S) rfl rfl ⟨Nat.le_of_ble_eq_true rfl, Nat.le_of_ble_eq_true rfl, Nat.zero_le _, Nat.zero_le _⟩ _ rfl (Nat.le_of_ble_eq_true rfl) (fun r89 G4 hq => ?_)
        obtain ⟨rfl, hw⟩ := hq
        exact aw_msk [false, false, false, false] (h92 _ hw)
    · refine aw_aloadn C dX11_generatorEnds_56 rfl ?_
      refine aw_callV C dX11_generatorEnds_57 (t_X11_closes S _ _ hw) mM_X11_380 bX11_closes (sA_46 S) rfl rfl ⟨Nat.le_of_ble_eq_true rfl, Nat.le_of_ble_eq_true rfl, Nat.zero_le _, Nat.zero_le _⟩ _ rfl (Nat.le_of_ble_eq_true rfl) (fun r57 G5 hq => ?_)
      obtain ⟨rfl, hw⟩ := hq
      refine aw_goto (tgt := 92) C dX11_generatorEnds_60 (by decide) ?_
      exact aw_msk [false, false, false, false] (h92 _ hw)
  have h20 : ∀ (x1 : Int32) (x2 : Int32) (y0 : Int32) (G0 : Gt), w_X11_generatorEnds_j20 K x1 x2 y0 G0 → aw p l e { frames := 2, cells := 0, slots := 0, locals := 45 } s m args below meth c 4 D tA A (MQ below (QC0 D tA ad A sh (fun r G' => r = none ∧ K G')) args s 0 0 A) 0 0 ad 20 [some (.ref 46), some (.int x1), some (.int x2), none] [.int y0] sh G0 := by
    intro  x1 x2 y0 G0 hw
    unfold w_X11_generatorEnds_j20 at hw
    refine aw_istoren C dX11_generatorEnds_20 (by decide) rfl ?_
    refine aw_aloadn C dX11_generatorEnds_21 rfl ?_
    refine aw_getR (r := 77) C dX11_generatorEnds_22 kcX11 (sA_46 S) 38 (by decide) rfl mF_X11_108 ?_
    refine aw_aloadn C dX11_generatorEnds_25 rfl ?_
    refine aw_getR (r := 68) C dX11_generatorEnds_26 kcX11 (sA_46 S) 26 (by decide) rfl mF_X11_81 ?_
    refine aw_iloadn C dX11_generatorEnds_29 rfl ?_
    refine aw_iald C dX11_generatorEnds_30 (sA_68 S) hw.1 ?_
    replace hw := hw.2
    refine aw_iconst (v := 4) C dX11_generatorEnds_31 (by decide) ?_
    refine aw_iast C dX11_generatorEnds_32 (sA_77 S) hw.1 hw.2 (fun G1 hw => ?_)
    refine aw_iloadn C dX11_generatorEnds_33 rfl ?_
    refine aw_if_eq C dX11_generatorEnds_34 52 (by decide) hw (fun hc34 hw => ?_) (fun hc34 hw => ?_)
    · exact aw_msk [true, false, true, true] (h52 x2 y0 _ hw)
    · refine aw_aloadn C dX11_generatorEnds_37 rfl ?_
      refine aw_getI C dX11_generatorEnds_38 kcX11 (sA_46 S) 41 (by decide) rfl mF_X11_202 ?_
      refine aw_iconst (v := 2) C dX11_generatorEnds_41 (by decide) ?_
      refine aw_ic_ne C dX11_generatorEnds_42 52 (by decide) hw (fun hc42 hw => ?_) (fun hc42 hw => ?_)
      · exact aw_msk [true, false, true, true] (h52 x2 y0 _ hw)
      · refine aw_aloadn C dX11_generatorEnds_45 rfl ?_
        refine aw_callV C dX11_generatorEnds_46 (t_X11_stops S _ _ hw) mM_X11_375 bX11_stops (sA_46 S) rfl rfl ⟨Nat.le_of_ble_eq_true rfl, Nat.le_of_ble_eq_true rfl, Nat.zero_le _, Nat.zero_le _⟩ _ rfl (Nat.le_of_ble_eq_true rfl) (fun r46 G6 hq => ?_)
        obtain ⟨rfl, hw⟩ := hq
        refine aw_goto (tgt := 92) C dX11_generatorEnds_49 (by decide) ?_
        exact aw_msk [false, false, false, false] (h92 _ hw)
  unfold w_X11_generatorEnds at hw
  show aw p l e { frames := 2, cells := 0, slots := 0, locals := 45 } s m args below meth c 4 D tA A (MQ below (QC0 D tA ad A sh (fun r G' => r = none ∧ K G')) args s 0 0 A) 0 0 ad 0 [some (.ref 46), some (.int p0), some (.int p1), none] [] sh G0
  refine aw_aloadn C dX11_generatorEnds_0 rfl ?_
  refine aw_getR (r := 77) C dX11_generatorEnds_1 kcX11 (sA_46 S) 38 (by decide) rfl mF_X11_108 ?_
  refine aw_aloadn C dX11_generatorEnds_4 rfl ?_
  refine aw_getR (r := 68) C dX11_generatorEnds_5 kcX11 (sA_46 S) 26 (by decide) rfl mF_X11_81 ?_
  refine aw_iloadn C dX11_generatorEnds_8 rfl ?_
  refine aw_iald C dX11_generatorEnds_9 (sA_68 S) hw.1 ?_
  replace hw := hw.2
  refine aw_iald C dX11_generatorEnds_10 (sA_77 S) hw.1 ?_
  replace hw := hw.2
  refine aw_iconst (v := 3) C dX11_generatorEnds_11 (by decide) ?_
  refine aw_ic_ne C dX11_generatorEnds_12 19 (by decide) hw (fun hc12 hw => ?_) (fun hc12 hw => ?_)
  · refine aw_iconst (v := 0) C dX11_generatorEnds_19 (by decide) ?_
    exact aw_msk [true, true, true, false] (h20 p0 p1 0 _ hw)
  · refine aw_iconst (v := 1) C dX11_generatorEnds_15 (by decide) ?_
    refine aw_goto (tgt := 20) C dX11_generatorEnds_16 (by decide) ?_
    exact aw_msk [true, true, true, false] (h20 p0 p1 1 _ hw)
def w_X11_makes_j67 (K : Int32 → Gt → Prop) (y0 : Int32) (G0 : Gt) : Prop :=
  K y0 G0
def w_X11_makes (K : Int32 → Gt → Prop) (p0 : Int32) (p1 : Int32) (p2 : Int32) (G0 : Gt) : Prop :=
  pif (p0 = 4) (
    w_X11_within (fun v2 G1 =>
      K v2 G1) (p1 + p2) G0) (
  pif (p0 = 5) (
    w_X11_within (fun v4 G3 =>
      K v4 G3) (p1 - p2) G0) (
  pif (p0 = 6) (
    w_X11_within (fun v6 G5 =>
      K v6 G5) (p1 * p2) G0) (
  pif (p0 = 7) (
    ¬ p2 = 0 ∧
    K (p1 / p2) G0) (
    pif (p2 ≤ p1) (
      w_X11_makes_j67 K 0 G0) (
      w_X11_makes_j67 K 1 G0)))))
set_option maxHeartbeats 4000000 in
set_option maxRecDepth 100000 in
theorem t_X11_makes {l : Launch} {sh : Sh}  (p0 : Int32) (p1 : Int32) (p2 : Int32) (G0 : Gt) (K : Int32 → Gt → Prop) (hw : w_X11_makes K p0 p1 p2 G0) : CT0 l yX11_makes cX11_makes 3 (some .int) 1 20 [.int p0, .int p1, .int p2] sh G0 (fun r G' => ∃ v, r = some (.int v) ∧ K v G') := by
  refine CT0_of (by decide) (Nat.le_of_ble_eq_true rfl) rfl ?_
  intro p e s m args below meth c D tA ad A C hr _
  have h67 : ∀ (y0 : Int32) (G0 : Gt), w_X11_makes_j67 K y0 G0 → aw p l e { frames := 1, cells := 0, slots := 0, locals := 20 } s m args below meth c 3 D tA A (MQ below (QC0 D tA ad A sh (fun r G' => ∃ v, r = some (.int v) ∧ K v G')) args s 0 0 A) 0 0 ad 67 [none, none, none] [.int y0] sh G0 := by
    intro  y0 G0 hw
    unfold w_X11_makes_j67 at hw
    exact aw_ireturn C hr dX11_makes_67 ⟨_, rfl, hw⟩
  unfold w_X11_makes at hw
  show aw p l e { frames := 1, cells := 0, slots := 0, locals := 20 } s m args below meth c 3 D tA A (MQ below (QC0 D tA ad A sh (fun r G' => ∃ v, r = some (.int v) ∧ K v G')) args s 0 0 A) 0 0 ad 0 [some (.int p0), some (.int p1), some (.int p2)] [] sh G0
  refine aw_iloadn C dX11_makes_0 rfl ?_
  refine sw_if hw (fun ha1_4 hw => ?_) (fun ha1_4 hw => ?_)
  · refine aw_tab C 32 dX11_makes_1 ha1_4 (by decide) (by decide) rfl (by decide) ?_
    refine aw_iloadn C dX11_makes_32 rfl ?_
    refine aw_iloadn C dX11_makes_33 rfl ?_
    refine aw_iadd C dX11_makes_34 ?_
    refine aw_callS C dX11_makes_35 (t_X11_within (p1 + p2) _ _ hw) mM_X11_322 bX11_within rfl rfl ⟨Nat.le_of_ble_eq_true rfl, Nat.le_of_ble_eq_true rfl, Nat.zero_le _, Nat.zero_le _⟩ _ rfl (Nat.le_of_ble_eq_true rfl) (fun r35 G1 hq => ?_)
    obtain ⟨v2, rfl, hw⟩ := hq
    exact aw_ireturn C hr dX11_makes_38 ⟨_, rfl, hw⟩
  refine sw_if hw (fun ha1_5 hw => ?_) (fun ha1_5 hw => ?_)
  · refine aw_tab C 39 dX11_makes_1 ha1_5 (by decide) (by decide) rfl (by decide) ?_
    refine aw_iloadn C dX11_makes_39 rfl ?_
    refine aw_iloadn C dX11_makes_40 rfl ?_
    refine aw_isub C dX11_makes_41 ?_
    refine aw_callS C dX11_makes_42 (t_X11_within (p1 - p2) _ _ hw) mM_X11_322 bX11_within rfl rfl ⟨Nat.le_of_ble_eq_true rfl, Nat.le_of_ble_eq_true rfl, Nat.zero_le _, Nat.zero_le _⟩ _ rfl (Nat.le_of_ble_eq_true rfl) (fun r42 G3 hq => ?_)
    obtain ⟨v4, rfl, hw⟩ := hq
    exact aw_ireturn C hr dX11_makes_45 ⟨_, rfl, hw⟩
  refine sw_if hw (fun ha1_6 hw => ?_) (fun ha1_6 hw => ?_)
  · refine aw_tab C 46 dX11_makes_1 ha1_6 (by decide) (by decide) rfl (by decide) ?_
    refine aw_iloadn C dX11_makes_46 rfl ?_
    refine aw_iloadn C dX11_makes_47 rfl ?_
    refine aw_imul C dX11_makes_48 ?_
    refine aw_callS C dX11_makes_49 (t_X11_within (p1 * p2) _ _ hw) mM_X11_322 bX11_within rfl rfl ⟨Nat.le_of_ble_eq_true rfl, Nat.le_of_ble_eq_true rfl, Nat.zero_le _, Nat.zero_le _⟩ _ rfl (Nat.le_of_ble_eq_true rfl) (fun r49 G5 hq => ?_)
    obtain ⟨v6, rfl, hw⟩ := hq
    exact aw_ireturn C hr dX11_makes_52 ⟨_, rfl, hw⟩
  refine sw_if hw (fun ha1_7 hw => ?_) (fun ha1_7 hw => ?_)
  · refine aw_tab C 53 dX11_makes_1 ha1_7 (by decide) (by decide) rfl (by decide) ?_
    refine aw_iloadn C dX11_makes_53 rfl ?_
    refine aw_iloadn C dX11_makes_54 rfl ?_
    refine aw_idiv C dX11_makes_55 hw.1 ?_
    replace hw := hw.2
    exact aw_ireturn C hr dX11_makes_56 ⟨_, rfl, hw⟩
  refine aw_tabDef C 57 dX11_makes_1 3 (by decide) (by decide) (by decide) (fun i hi h => ?_) (by decide) ?_
  · exact match i, hi, h with
      | 0, _, h => absurd (h.trans (by decide)) ha1_4
      | 1, _, h => absurd (h.trans (by decide)) ha1_5
      | 2, _, h => absurd (h.trans (by decide)) ha1_6
      | 3, _, h => absurd (h.trans (by decide)) ha1_7
      | i + 4, hi, _ => absurd hi (by omega)
  refine aw_iloadn C dX11_makes_57 rfl ?_
  refine aw_iloadn C dX11_makes_58 rfl ?_
  refine aw_ic_ge C dX11_makes_59 66 (by decide) hw (fun hc59 hw => ?_) (fun hc59 hw => ?_)
  · refine aw_iconst (v := 0) C dX11_makes_66 (by decide) ?_
    exact aw_msk [false, false, false] (h67 0 _ hw)
  · refine aw_iconst (v := 1) C dX11_makes_62 (by decide) ?_
    refine aw_goto (tgt := 67) C dX11_makes_63 (by decide) ?_
    exact aw_msk [false, false, false] (h67 1 _ hw)
def w_X11_applies_j96 (K : Gt → Prop)  (G0 : Gt) : Prop :=
  K G0
def w_X11_applies_j14 (K : Gt → Prop) (x1 : Int32) (G0 : Gt) : Prop :=
  w_X11_fails (fun G1 =>
    w_X11_applies_j96 K G1) x1 (-3) G0
def w_X11_applies (K : Gt → Prop) (p0 : Int32) (p1 : Int32) (p2 : Int32) (G0 : Gt) : Prop :=
  pif (p1 < 20000) (
    w_X11_applies_j14 K p0 G0) (
    pif (p1 < 30000) (
      w_X11_calls (fun v3 G2 =>
        pif (v3 = 0) (
          w_X11_applies_j96 K G2) (
          vp_in (p1 - 20000) 610 ∧
          vp_in (p1 - 20000) 610 ∧
          w_X11_opens (fun v5 G4 =>
            vp_in (G2 73 ((p1 - 20000) : Int32).toNatClampNeg) 120 ∧
            vp_in ((8 * v5) + (G4 48 ((G2 73 ((p1 - 20000) : Int32).toNatClampNeg) : Int32).toNatClampNeg)) 4960 ∧
            pt (gu G4 72 (((8 * v5) + (G4 48 ((G2 73 ((p1 - 20000) : Int32).toNatClampNeg) : Int32).toNatClampNeg)) : Int32).toNatClampNeg p2) fun G6 =>
            vp_in (G2 73 ((p1 - 20000) : Int32).toNatClampNeg) 120 ∧
            w_X11_begins (fun v8 G7 =>
              w_X11_applies_j96 K G7) (G6 49 ((G2 73 ((p1 - 20000) : Int32).toNatClampNeg) : Int32).toNatClampNeg) 1 p0 v5 G6) (G2 74 ((p1 - 20000) : Int32).toNatClampNeg) G2)) p0 G0) (
      w_X11_applies_j14 K p0 G0))
set_option maxHeartbeats 4000000 in
set_option maxRecDepth 100000 in
theorem t_X11_applies {l : Launch} {sh : Sh} (S : shOK sh) (p0 : Int32) (p1 : Int32) (p2 : Int32) (G0 : Gt) (K : Gt → Prop) (hw : w_X11_applies K p0 p1 p2 G0) : CT0 l yX11_applies cX11_applies 7 none 2 49 [.ref 46, .int p0, .int p1, .int p2] sh G0 (fun r G' => r = none ∧ K G') := by
  refine CT0_of (by decide) (Nat.le_of_ble_eq_true rfl) rfl ?_
  intro p e s m args below meth c D tA ad A C hr _
  have h96 : ∀ (G0 : Gt), w_X11_applies_j96 K  G0 → aw p l e { frames := 2, cells := 0, slots := 0, locals := 49 } s m args below meth c 7 D tA A (MQ below (QC0 D tA ad A sh (fun r G' => r = none ∧ K G')) args s 0 0 A) 0 0 ad 96 [none, none, none, none, none, none, none] [] sh G0 := by
    intro   G0 hw
    unfold w_X11_applies_j96 at hw
    exact aw_return C hr dX11_applies_96 ⟨rfl, hw⟩
  have h14 : ∀ (x1 : Int32) (G0 : Gt), w_X11_applies_j14 K x1 G0 → aw p l e { frames := 2, cells := 0, slots := 0, locals := 49 } s m args below meth c 7 D tA A (MQ below (QC0 D tA ad A sh (fun r G' => r = none ∧ K G')) args s 0 0 A) 0 0 ad 14 [some (.ref 46), some (.int x1), none, none, none, none, none] [] sh G0 := by
    intro  x1 G0 hw
    unfold w_X11_applies_j14 at hw
    refine aw_aloadn C dX11_applies_14 rfl ?_
    refine aw_iloadn C dX11_applies_15 rfl ?_
    refine aw_bipush (v := (-3)) C dX11_applies_16 (by decide) ?_
    refine aw_callV C dX11_applies_18 (t_X11_fails S x1 (-3) _ _ hw) mM_X11_237 bX11_fails (sA_46 S) rfl rfl ⟨Nat.le_of_ble_eq_true rfl, Nat.le_of_ble_eq_true rfl, Nat.zero_le _, Nat.zero_le _⟩ _ rfl (Nat.le_of_ble_eq_true rfl) (fun r18 G1 hq => ?_)
    obtain ⟨rfl, hw⟩ := hq
    refine aw_goto (tgt := 96) C dX11_applies_21 (by decide) ?_
    exact aw_msk [false, false, false, false, false, false, false] (h96 _ hw)
  unfold w_X11_applies at hw
  show aw p l e { frames := 2, cells := 0, slots := 0, locals := 49 } s m args below meth c 7 D tA A (MQ below (QC0 D tA ad A sh (fun r G' => r = none ∧ K G')) args s 0 0 A) 0 0 ad 0 [some (.ref 46), some (.int p0), some (.int p1), some (.int p2), none, none, none] [] sh G0
  refine aw_iloadn C dX11_applies_0 rfl ?_
  refine aw_sipush (v := 20000) C dX11_applies_1 (by decide) ?_
  refine aw_ic_lt C dX11_applies_4 14 (by decide) hw (fun hc4 hw => ?_) (fun hc4 hw => ?_)
  · exact aw_msk [true, true, false, false, false, false, false] (h14 p0 _ hw)
  · refine aw_iloadn C dX11_applies_7 rfl ?_
    refine aw_sipush (v := 30000) C dX11_applies_8 (by decide) ?_
    refine aw_ic_lt C dX11_applies_11 24 (by decide) hw (fun hc11 hw => ?_) (fun hc11 hw => ?_)
    · refine aw_aloadn C dX11_applies_24 rfl ?_
      refine aw_iloadn C dX11_applies_25 rfl ?_
      refine aw_callV C dX11_applies_26 (t_X11_calls S p0 _ _ hw) mM_X11_253 bX11_calls (sA_46 S) rfl rfl ⟨Nat.le_of_ble_eq_true rfl, Nat.le_of_ble_eq_true rfl, Nat.zero_le _, Nat.zero_le _⟩ _ rfl (Nat.le_of_ble_eq_true rfl) (fun r26 G2 hq => ?_)
      obtain ⟨v3, rfl, hw⟩ := hq
      refine aw_if_eq C dX11_applies_29 96 (by decide) hw (fun hc29 hw => ?_) (fun hc29 hw => ?_)
      · exact aw_msk [false, false, false, false, false, false, false] (h96 _ hw)
      · refine aw_aloadn C dX11_applies_32 rfl ?_
        refine aw_getR (r := 73) C dX11_applies_33 kcX11 (sA_46 S) 33 (by decide) rfl mF_X11_96 ?_
        refine aw_iloadn C dX11_applies_36 rfl ?_
        refine aw_sipush (v := 20000) C dX11_applies_37 (by decide) ?_
        refine aw_isub C dX11_applies_40 ?_
        refine aw_iald C dX11_applies_41 (sA_73 S) hw.1 ?_
        replace hw := hw.2
        refine aw_istore C dX11_applies_42 (by decide) rfl ?_
        refine aw_aloadn C dX11_applies_44 rfl ?_
        refine aw_aloadn C dX11_applies_45 rfl ?_
        refine aw_getR (r := 74) C dX11_applies_46 kcX11 (sA_46 S) 34 (by decide) rfl mF_X11_99 ?_
        refine aw_iloadn C dX11_applies_49 rfl ?_
        refine aw_sipush (v := 20000) C dX11_applies_50 (by decide) ?_
        refine aw_isub C dX11_applies_53 ?_
        refine aw_iald C dX11_applies_54 (sA_74 S) hw.1 ?_
        replace hw := hw.2
        refine aw_callV C dX11_applies_55 (t_X11_opens S (G2 74 ((p1 - 20000) : Int32).toNatClampNeg) _ _ hw) mM_X11_244 bX11_opens (sA_46 S) rfl rfl ⟨Nat.le_of_ble_eq_true rfl, Nat.le_of_ble_eq_true rfl, Nat.zero_le _, Nat.zero_le _⟩ _ rfl (Nat.le_of_ble_eq_true rfl) (fun r55 G4 hq => ?_)
        obtain ⟨v5, rfl, hw⟩ := hq
        refine aw_istore C dX11_applies_58 (by decide) rfl ?_
        refine aw_aloadn C dX11_applies_60 rfl ?_
        refine aw_getR (r := 72) C dX11_applies_61 kcX11 (sA_46 S) 31 (by decide) rfl mF_X11_93 ?_
        refine aw_bipush (v := 8) C dX11_applies_64 (by decide) ?_
        refine aw_iload C dX11_applies_66 rfl ?_
        refine aw_imul C dX11_applies_68 ?_
        refine aw_aloadn C dX11_applies_69 rfl ?_
        refine aw_getR (r := 48) C dX11_applies_70 kcX11 (sA_46 S) 2 (by decide) rfl mF_X11_13 ?_
        refine aw_iload C dX11_applies_73 rfl ?_
        refine aw_iald C dX11_applies_75 (sA_48 S) hw.1 ?_
        replace hw := hw.2
        refine aw_iadd C dX11_applies_76 ?_
        refine aw_iloadn C dX11_applies_77 rfl ?_
        refine aw_iast C dX11_applies_78 (sA_72 S) hw.1 hw.2 (fun G6 hw => ?_)
        refine aw_aloadn C dX11_applies_79 rfl ?_
        refine aw_aloadn C dX11_applies_80 rfl ?_
        refine aw_getR (r := 49) C dX11_applies_81 kcX11 (sA_46 S) 3 (by decide) rfl mF_X11_16 ?_
        refine aw_iload C dX11_applies_84 rfl ?_
        refine aw_iald C dX11_applies_86 (sA_49 S) hw.1 ?_
        replace hw := hw.2
        refine aw_iconst (v := 1) C dX11_applies_87 (by decide) ?_
        refine aw_iloadn C dX11_applies_88 rfl ?_
        refine aw_iload C dX11_applies_89 rfl ?_
        refine aw_callV C dX11_applies_91 (t_X11_begins S (G6 49 ((G2 73 ((p1 - 20000) : Int32).toNatClampNeg) : Int32).toNatClampNeg) 1 p0 v5 _ _ hw) mM_X11_247 bX11_begins (sA_46 S) rfl rfl ⟨Nat.le_of_ble_eq_true rfl, Nat.le_of_ble_eq_true rfl, Nat.zero_le _, Nat.zero_le _⟩ _ rfl (Nat.le_of_ble_eq_true rfl) (fun r91 G7 hq => ?_)
        obtain ⟨v8, rfl, hw⟩ := hq
        refine aw_istore C dX11_applies_94 (by decide) rfl ?_
        exact aw_msk [false, false, false, false, false, false, false] (h96 _ hw)
    · exact aw_msk [true, true, false, false, false, false, false] (h14 p0 _ hw)
def w_X11_yields_j39 (K : Gt → Prop) (x1 : Int32) (G0 : Gt) : Prop :=
  w_X11_fails (fun G3 =>
    K G3) x1 (-6) G0
def w_X11_yields (K : Gt → Prop) (p0 : Int32) (p1 : Int32) (G0 : Gt) : Prop :=
  w_X11_bodyOf (fun v2 G1 =>
    vp_in v2 1220 ∧
    pif ((G1 67 (v2 : Int32).toNatClampNeg) = 2) (
      w_X11_isBound (fun v5 G4 =>
        pif (v5 = 0) (
          vp_in v2 1220 ∧
          vp_in (G4 68 (v2 : Int32).toNatClampNeg) 610 ∧
          pif ((G4 77 ((G4 68 (v2 : Int32).toNatClampNeg) : Int32).toNatClampNeg) = 3) (
            w_X11_yields_j39 K p0 G4) (
            vp_in v2 1220 ∧
            vp_in (G4 68 (v2 : Int32).toNatClampNeg) 610 ∧
            pt (gu G4 77 ((G4 68 (v2 : Int32).toNatClampNeg) : Int32).toNatClampNeg 1) fun G6 =>
            vp_in v2 1220 ∧
            vp_in (G6 68 (v2 : Int32).toNatClampNeg) 610 ∧
            pt (gu G6 78 ((G6 68 (v2 : Int32).toNatClampNeg) : Int32).toNatClampNeg p0) fun G7 =>
            vp_in v2 1220 ∧
            w_X11_comesBack (fun G8 =>
              vp_in v2 1220 ∧
              w_X11_ends (fun G9 =>
                K G9) (G8 65 (v2 : Int32).toNatClampNeg) p1 G8) (G7 65 (v2 : Int32).toNatClampNeg) G7)) (
          w_X11_yields_j39 K p0 G4)) p0 G1) (
      w_X11_yields_j39 K p0 G1)) p0 G0
set_option maxHeartbeats 4000000 in
set_option maxRecDepth 100000 in
theorem t_X11_yields {l : Launch} {sh : Sh} (S : shOK sh) (p0 : Int32) (p1 : Int32) (G0 : Gt) (K : Gt → Prop) (hw : w_X11_yields K p0 p1 G0) : CT0 l yX11_yields cX11_yields 4 none 1 23 [.ref 46, .int p0, .int p1] sh G0 (fun r G' => r = none ∧ K G') := by
  refine CT0_of (by decide) (Nat.le_of_ble_eq_true rfl) rfl ?_
  intro p e s m args below meth c D tA ad A C hr _
  have h39 : ∀ (x1 : Int32) (G0 : Gt), w_X11_yields_j39 K x1 G0 → aw p l e { frames := 1, cells := 0, slots := 0, locals := 23 } s m args below meth c 4 D tA A (MQ below (QC0 D tA ad A sh (fun r G' => r = none ∧ K G')) args s 0 0 A) 0 0 ad 39 [some (.ref 46), some (.int x1), none, none] [] sh G0 := by
    intro  x1 G0 hw
    unfold w_X11_yields_j39 at hw
    refine aw_aloadn C dX11_yields_39 rfl ?_
    refine aw_iloadn C dX11_yields_40 rfl ?_
    refine aw_bipush (v := (-6)) C dX11_yields_41 (by decide) ?_
    refine aw_callV C dX11_yields_43 (t_X11_fails S x1 (-6) _ _ hw) mM_X11_237 bX11_fails (sA_46 S) rfl rfl ⟨Nat.le_of_ble_eq_true rfl, Nat.le_of_ble_eq_true rfl, Nat.zero_le _, Nat.zero_le _⟩ _ rfl (Nat.le_of_ble_eq_true rfl) (fun r43 G3 hq => ?_)
    obtain ⟨rfl, hw⟩ := hq
    exact aw_return C hr dX11_yields_46 ⟨rfl, hw⟩
  unfold w_X11_yields at hw
  show aw p l e { frames := 1, cells := 0, slots := 0, locals := 23 } s m args below meth c 4 D tA A (MQ below (QC0 D tA ad A sh (fun r G' => r = none ∧ K G')) args s 0 0 A) 0 0 ad 0 [some (.ref 46), some (.int p0), some (.int p1), none] [] sh G0
  refine aw_aloadn C dX11_yields_0 rfl ?_
  refine aw_iloadn C dX11_yields_1 rfl ?_
  refine aw_callV C dX11_yields_2 (t_X11_bodyOf S p0 _ _ hw) mM_X11_331 bX11_bodyOf (sA_46 S) rfl rfl ⟨Nat.le_of_ble_eq_true rfl, Nat.le_of_ble_eq_true rfl, Nat.zero_le _, Nat.zero_le _⟩ _ rfl (Nat.le_of_ble_eq_true rfl) (fun r2 G1 hq => ?_)
  obtain ⟨v2, rfl, hw⟩ := hq
  refine aw_istoren C dX11_yields_5 (by decide) rfl ?_
  refine aw_aloadn C dX11_yields_6 rfl ?_
  refine aw_getR (r := 67) C dX11_yields_7 kcX11 (sA_46 S) 25 (by decide) rfl mF_X11_78 ?_
  refine aw_iloadn C dX11_yields_10 rfl ?_
  refine aw_iald C dX11_yields_11 (sA_67 S) hw.1 ?_
  replace hw := hw.2
  refine aw_iconst (v := 2) C dX11_yields_12 (by decide) ?_
  refine aw_ic_ne C dX11_yields_13 39 (by decide) hw (fun hc13 hw => ?_) (fun hc13 hw => ?_)
  · exact aw_msk [true, true, false, false] (h39 p0 _ hw)
  · refine aw_aloadn C dX11_yields_16 rfl ?_
    refine aw_iloadn C dX11_yields_17 rfl ?_
    refine aw_callV C dX11_yields_18 (t_X11_isBound S p0 _ _ hw) mM_X11_334 bX11_isBound (sA_46 S) rfl rfl ⟨Nat.le_of_ble_eq_true rfl, Nat.le_of_ble_eq_true rfl, Nat.zero_le _, Nat.zero_le _⟩ _ rfl (Nat.le_of_ble_eq_true rfl) (fun r18 G4 hq => ?_)
    obtain ⟨v5, rfl, hw⟩ := hq
    refine aw_if_ne C dX11_yields_21 39 (by decide) hw (fun hc21 hw => ?_) (fun hc21 hw => ?_)
    · exact aw_msk [true, true, false, false] (h39 p0 _ hw)
    · refine aw_aloadn C dX11_yields_24 rfl ?_
      refine aw_getR (r := 77) C dX11_yields_25 kcX11 (sA_46 S) 38 (by decide) rfl mF_X11_108 ?_
      refine aw_aloadn C dX11_yields_28 rfl ?_
      refine aw_getR (r := 68) C dX11_yields_29 kcX11 (sA_46 S) 26 (by decide) rfl mF_X11_81 ?_
      refine aw_iloadn C dX11_yields_32 rfl ?_
      refine aw_iald C dX11_yields_33 (sA_68 S) hw.1 ?_
      replace hw := hw.2
      refine aw_iald C dX11_yields_34 (sA_77 S) hw.1 ?_
      replace hw := hw.2
      refine aw_iconst (v := 3) C dX11_yields_35 (by decide) ?_
      refine aw_ic_ne C dX11_yields_36 47 (by decide) hw (fun hc36 hw => ?_) (fun hc36 hw => ?_)
      · refine aw_aloadn C dX11_yields_47 rfl ?_
        refine aw_getR (r := 77) C dX11_yields_48 kcX11 (sA_46 S) 38 (by decide) rfl mF_X11_108 ?_
        refine aw_aloadn C dX11_yields_51 rfl ?_
        refine aw_getR (r := 68) C dX11_yields_52 kcX11 (sA_46 S) 26 (by decide) rfl mF_X11_81 ?_
        refine aw_iloadn C dX11_yields_55 rfl ?_
        refine aw_iald C dX11_yields_56 (sA_68 S) hw.1 ?_
        replace hw := hw.2
        refine aw_iconst (v := 1) C dX11_yields_57 (by decide) ?_
        refine aw_iast C dX11_yields_58 (sA_77 S) hw.1 hw.2 (fun G6 hw => ?_)
        refine aw_aloadn C dX11_yields_59 rfl ?_
        refine aw_getR (r := 78) C dX11_yields_60 kcX11 (sA_46 S) 39 (by decide) rfl mF_X11_111 ?_
        refine aw_aloadn C dX11_yields_63 rfl ?_
        refine aw_getR (r := 68) C dX11_yields_64 kcX11 (sA_46 S) 26 (by decide) rfl mF_X11_81 ?_
        refine aw_iloadn C dX11_yields_67 rfl ?_
        refine aw_iald C dX11_yields_68 (sA_68 S) hw.1 ?_
        replace hw := hw.2
        refine aw_iloadn C dX11_yields_69 rfl ?_
        refine aw_iast C dX11_yields_70 (sA_78 S) hw.1 hw.2 (fun G7 hw => ?_)
        refine aw_aloadn C dX11_yields_71 rfl ?_
        refine aw_aloadn C dX11_yields_72 rfl ?_
        refine aw_getR (r := 65) C dX11_yields_73 kcX11 (sA_46 S) 23 (by decide) rfl mF_X11_72 ?_
        refine aw_iloadn C dX11_yields_76 rfl ?_
        refine aw_iald C dX11_yields_77 (sA_65 S) hw.1 ?_
        replace hw := hw.2
        refine aw_callV C dX11_yields_78 (t_X11_comesBack S (G7 65 (v2 : Int32).toNatClampNeg) _ _ hw) mM_X11_337 bX11_comesBack (sA_46 S) rfl rfl ⟨Nat.le_of_ble_eq_true rfl, Nat.le_of_ble_eq_true rfl, Nat.zero_le _, Nat.zero_le _⟩ _ rfl (Nat.le_of_ble_eq_true rfl) (fun r78 G8 hq => ?_)
        obtain ⟨rfl, hw⟩ := hq
        refine aw_aloadn C dX11_yields_81 rfl ?_
        refine aw_aloadn C dX11_yields_82 rfl ?_
        refine aw_getR (r := 65) C dX11_yields_83 kcX11 (sA_46 S) 23 (by decide) rfl mF_X11_72 ?_
        refine aw_iloadn C dX11_yields_86 rfl ?_
        refine aw_iald C dX11_yields_87 (sA_65 S) hw.1 ?_
        replace hw := hw.2
        refine aw_iloadn C dX11_yields_88 rfl ?_
        refine aw_callV C dX11_yields_89 (t_X11_ends S (G8 65 (v2 : Int32).toNatClampNeg) p1 _ _ hw) mM_X11_262 bX11_ends (sA_46 S) rfl rfl ⟨Nat.le_of_ble_eq_true rfl, Nat.le_of_ble_eq_true rfl, Nat.zero_le _, Nat.zero_le _⟩ _ rfl (Nat.le_of_ble_eq_true rfl) (fun r89 G9 hq => ?_)
        obtain ⟨rfl, hw⟩ := hq
        exact aw_return C hr dX11_yields_92 ⟨rfl, hw⟩
      · exact aw_msk [true, true, false, false] (h39 p0 _ hw)
def w_X11_asksOf_j166 (K : Gt → Prop)  (G0 : Gt) : Prop :=
  K G0
def w_X11_asksOf_j30 (K : Gt → Prop) (x1 : Int32) (G0 : Gt) : Prop :=
  w_X11_fails (fun G1 =>
    w_X11_asksOf_j166 K G1) x1 (-3) G0
def w_X11_asksOf_j81 (K : Gt → Prop) (x1 : Int32) (x3 : Int32) (y0 : Int32) (G0 : Gt) : Prop :=
  vp_in x3 610 ∧
  pt (gu G0 77 (x3 : Int32).toNatClampNeg 2) fun G4 =>
  pif (y0 = 0) (
    vp_in x3 610 ∧
    vp_in (G4 79 (x3 : Int32).toNatClampNeg) 1220 ∧
    pt (gu G4 65 ((G4 79 (x3 : Int32).toNatClampNeg) : Int32).toNatClampNeg x1) fun G5 =>
    vp_in x3 610 ∧
    w_X11_ends (fun G6 =>
      w_X11_asksOf_j166 K G6) (G5 78 (x3 : Int32).toNatClampNeg) 0 G5) (
    vp_in x3 610 ∧
    vp_in (G4 75 (x3 : Int32).toNatClampNeg) 120 ∧
    vp_in x3 610 ∧
    w_X11_opens (fun v8 G7 =>
      w_X11_begins (fun v10 G9 =>
        vp_in x3 610 ∧
        pt (gu G9 79 (x3 : Int32).toNatClampNeg v10) fun G11 =>
        vp_in x3 610 ∧
        vp_in (G11 79 (x3 : Int32).toNatClampNeg) 1220 ∧
        pt (gu G11 68 ((G11 79 (x3 : Int32).toNatClampNeg) : Int32).toNatClampNeg x3) fun G12 =>
        w_X11_asksOf_j166 K G12) (G4 48 ((G4 75 (x3 : Int32).toNatClampNeg) : Int32).toNatClampNeg) 2 x1 v8 G7) (G4 76 (x3 : Int32).toNatClampNeg) G4)
def w_X11_asksOf (K : Gt → Prop) (p0 : Int32) (p1 : Int32) (G0 : Gt) : Prop :=
  pif ((p1 - 30000) < 0) (
    w_X11_asksOf_j30 K p0 G0) (
    vp_in (p1 - 30000) 610 ∧
    pif ((G0 77 ((p1 - 30000) : Int32).toNatClampNeg) = 2) (
      w_X11_asksOf_j30 K p0 G0) (
      vp_in (p1 - 30000) 610 ∧
      pif ((G0 77 ((p1 - 30000) : Int32).toNatClampNeg) = 3) (
        w_X11_asksOf_j30 K p0 G0) (
        vp_in (p1 - 30000) 610 ∧
        pif ((G0 77 ((p1 - 30000) : Int32).toNatClampNeg) = 4) (
          w_X11_ends (fun G13 =>
            w_X11_asksOf_j166 K G13) p0 (-1) G0) (
          w_X11_calls (fun v3 G2 =>
            pif (v3 = 0) (
              w_X11_asksOf_j166 K G2) (
              vp_in (p1 - 30000) 610 ∧
              pif ((G2 77 ((p1 - 30000) : Int32).toNatClampNeg) = 0) (
                w_X11_asksOf_j81 K p0 (p1 - 30000) 1 G2) (
                w_X11_asksOf_j81 K p0 (p1 - 30000) 0 G2))) p0 G0))))
set_option maxHeartbeats 4000000 in
set_option maxRecDepth 100000 in
theorem t_X11_asksOf {l : Launch} {sh : Sh} (S : shOK sh) (p0 : Int32) (p1 : Int32) (G0 : Gt) (K : Gt → Prop) (hw : w_X11_asksOf K p0 p1 G0) : CT0 l yX11_asksOf cX11_asksOf 5 none 2 49 [.ref 46, .int p0, .int p1] sh G0 (fun r G' => r = none ∧ K G') := by
  refine CT0_of (by decide) (Nat.le_of_ble_eq_true rfl) rfl ?_
  intro p e s m args below meth c D tA ad A C hr _
  have h166 : ∀ (G0 : Gt), w_X11_asksOf_j166 K  G0 → aw p l e { frames := 2, cells := 0, slots := 0, locals := 49 } s m args below meth c 5 D tA A (MQ below (QC0 D tA ad A sh (fun r G' => r = none ∧ K G')) args s 0 0 A) 0 0 ad 166 [none, none, none, none, none] [] sh G0 := by
    intro   G0 hw
    unfold w_X11_asksOf_j166 at hw
    exact aw_return C hr dX11_asksOf_166 ⟨rfl, hw⟩
  have h30 : ∀ (x1 : Int32) (G0 : Gt), w_X11_asksOf_j30 K x1 G0 → aw p l e { frames := 2, cells := 0, slots := 0, locals := 49 } s m args below meth c 5 D tA A (MQ below (QC0 D tA ad A sh (fun r G' => r = none ∧ K G')) args s 0 0 A) 0 0 ad 30 [some (.ref 46), some (.int x1), none, none, none] [] sh G0 := by
    intro  x1 G0 hw
    unfold w_X11_asksOf_j30 at hw
    refine aw_aloadn C dX11_asksOf_30 rfl ?_
    refine aw_iloadn C dX11_asksOf_31 rfl ?_
    refine aw_bipush (v := (-3)) C dX11_asksOf_32 (by decide) ?_
    refine aw_callV C dX11_asksOf_34 (t_X11_fails S x1 (-3) _ _ hw) mM_X11_237 bX11_fails (sA_46 S) rfl rfl ⟨Nat.le_of_ble_eq_true rfl, Nat.le_of_ble_eq_true rfl, Nat.zero_le _, Nat.zero_le _⟩ _ rfl (Nat.le_of_ble_eq_true rfl) (fun r34 G1 hq => ?_)
    obtain ⟨rfl, hw⟩ := hq
    refine aw_goto (tgt := 166) C dX11_asksOf_37 (by decide) ?_
    exact aw_msk [false, false, false, false, false] (h166 _ hw)
  have h81 : ∀ (x1 : Int32) (x3 : Int32) (y0 : Int32) (G0 : Gt), w_X11_asksOf_j81 K x1 x3 y0 G0 → aw p l e { frames := 2, cells := 0, slots := 0, locals := 49 } s m args below meth c 5 D tA A (MQ below (QC0 D tA ad A sh (fun r G' => r = none ∧ K G')) args s 0 0 A) 0 0 ad 81 [some (.ref 46), some (.int x1), none, some (.int x3), none] [.int y0] sh G0 := by
    intro  x1 x3 y0 G0 hw
    unfold w_X11_asksOf_j81 at hw
    refine aw_istore C dX11_asksOf_81 (by decide) rfl ?_
    refine aw_aloadn C dX11_asksOf_83 rfl ?_
    refine aw_getR (r := 77) C dX11_asksOf_84 kcX11 (sA_46 S) 38 (by decide) rfl mF_X11_108 ?_
    refine aw_iloadn C dX11_asksOf_87 rfl ?_
    refine aw_iconst (v := 2) C dX11_asksOf_88 (by decide) ?_
    refine aw_iast C dX11_asksOf_89 (sA_77 S) hw.1 hw.2 (fun G4 hw => ?_)
    refine aw_iload C dX11_asksOf_90 rfl ?_
    refine aw_if_eq C dX11_asksOf_92 143 (by decide) hw (fun hc92 hw => ?_) (fun hc92 hw => ?_)
    · refine aw_aloadn C dX11_asksOf_143 rfl ?_
      refine aw_getR (r := 65) C dX11_asksOf_144 kcX11 (sA_46 S) 23 (by decide) rfl mF_X11_72 ?_
      refine aw_aloadn C dX11_asksOf_147 rfl ?_
      refine aw_getR (r := 79) C dX11_asksOf_148 kcX11 (sA_46 S) 40 (by decide) rfl mF_X11_114 ?_
      refine aw_iloadn C dX11_asksOf_151 rfl ?_
      refine aw_iald C dX11_asksOf_152 (sA_79 S) hw.1 ?_
      replace hw := hw.2
      refine aw_iloadn C dX11_asksOf_153 rfl ?_
      refine aw_iast C dX11_asksOf_154 (sA_65 S) hw.1 hw.2 (fun G5 hw => ?_)
      refine aw_aloadn C dX11_asksOf_155 rfl ?_
      refine aw_aloadn C dX11_asksOf_156 rfl ?_
      refine aw_getR (r := 78) C dX11_asksOf_157 kcX11 (sA_46 S) 39 (by decide) rfl mF_X11_111 ?_
      refine aw_iloadn C dX11_asksOf_160 rfl ?_
      refine aw_iald C dX11_asksOf_161 (sA_78 S) hw.1 ?_
      replace hw := hw.2
      refine aw_iconst (v := 0) C dX11_asksOf_162 (by decide) ?_
      refine aw_callV C dX11_asksOf_163 (t_X11_ends S (G5 78 (x3 : Int32).toNatClampNeg) 0 _ _ hw) mM_X11_262 bX11_ends (sA_46 S) rfl rfl ⟨Nat.le_of_ble_eq_true rfl, Nat.le_of_ble_eq_true rfl, Nat.zero_le _, Nat.zero_le _⟩ _ rfl (Nat.le_of_ble_eq_true rfl) (fun r163 G6 hq => ?_)
      obtain ⟨rfl, hw⟩ := hq
      exact aw_msk [false, false, false, false, false] (h166 _ hw)
    · refine aw_aloadn C dX11_asksOf_95 rfl ?_
      refine aw_getR (r := 79) C dX11_asksOf_96 kcX11 (sA_46 S) 40 (by decide) rfl mF_X11_114 ?_
      refine aw_iloadn C dX11_asksOf_99 rfl ?_
      refine aw_aloadn C dX11_asksOf_100 rfl ?_
      refine aw_aloadn C dX11_asksOf_101 rfl ?_
      refine aw_getR (r := 48) C dX11_asksOf_102 kcX11 (sA_46 S) 2 (by decide) rfl mF_X11_13 ?_
      refine aw_aloadn C dX11_asksOf_105 rfl ?_
      refine aw_getR (r := 75) C dX11_asksOf_106 kcX11 (sA_46 S) 36 (by decide) rfl mF_X11_102 ?_
      refine aw_iloadn C dX11_asksOf_109 rfl ?_
      refine aw_iald C dX11_asksOf_110 (sA_75 S) hw.1 ?_
      replace hw := hw.2
      refine aw_iald C dX11_asksOf_111 (sA_48 S) hw.1 ?_
      replace hw := hw.2
      refine aw_iconst (v := 2) C dX11_asksOf_112 (by decide) ?_
      refine aw_iloadn C dX11_asksOf_113 rfl ?_
      refine aw_aloadn C dX11_asksOf_114 rfl ?_
      refine aw_aloadn C dX11_asksOf_115 rfl ?_
      refine aw_getR (r := 76) C dX11_asksOf_116 kcX11 (sA_46 S) 37 (by decide) rfl mF_X11_105 ?_
      refine aw_iloadn C dX11_asksOf_119 rfl ?_
      refine aw_iald C dX11_asksOf_120 (sA_76 S) hw.1 ?_
      replace hw := hw.2
      refine aw_callV C dX11_asksOf_121 (t_X11_opens S (G4 76 (x3 : Int32).toNatClampNeg) _ _ hw) mM_X11_244 bX11_opens (sA_46 S) rfl rfl ⟨Nat.le_of_ble_eq_true rfl, Nat.le_of_ble_eq_true rfl, Nat.zero_le _, Nat.zero_le _⟩ _ rfl (Nat.le_of_ble_eq_true rfl) (fun r121 G7 hq => ?_)
      obtain ⟨v8, rfl, hw⟩ := hq
      refine aw_callV C dX11_asksOf_124 (t_X11_begins S (G4 48 ((G4 75 (x3 : Int32).toNatClampNeg) : Int32).toNatClampNeg) 2 x1 v8 _ _ hw) mM_X11_247 bX11_begins (sA_46 S) rfl rfl ⟨Nat.le_of_ble_eq_true rfl, Nat.le_of_ble_eq_true rfl, Nat.zero_le _, Nat.zero_le _⟩ _ rfl (Nat.le_of_ble_eq_true rfl) (fun r124 G9 hq => ?_)
      obtain ⟨v10, rfl, hw⟩ := hq
      refine aw_iast C dX11_asksOf_127 (sA_79 S) hw.1 hw.2 (fun G11 hw => ?_)
      refine aw_aloadn C dX11_asksOf_128 rfl ?_
      refine aw_getR (r := 68) C dX11_asksOf_129 kcX11 (sA_46 S) 26 (by decide) rfl mF_X11_81 ?_
      refine aw_aloadn C dX11_asksOf_132 rfl ?_
      refine aw_getR (r := 79) C dX11_asksOf_133 kcX11 (sA_46 S) 40 (by decide) rfl mF_X11_114 ?_
      refine aw_iloadn C dX11_asksOf_136 rfl ?_
      refine aw_iald C dX11_asksOf_137 (sA_79 S) hw.1 ?_
      replace hw := hw.2
      refine aw_iloadn C dX11_asksOf_138 rfl ?_
      refine aw_iast C dX11_asksOf_139 (sA_68 S) hw.1 hw.2 (fun G12 hw => ?_)
      refine aw_goto (tgt := 166) C dX11_asksOf_140 (by decide) ?_
      exact aw_msk [false, false, false, false, false] (h166 _ hw)
  unfold w_X11_asksOf at hw
  show aw p l e { frames := 2, cells := 0, slots := 0, locals := 49 } s m args below meth c 5 D tA A (MQ below (QC0 D tA ad A sh (fun r G' => r = none ∧ K G')) args s 0 0 A) 0 0 ad 0 [some (.ref 46), some (.int p0), some (.int p1), none, none] [] sh G0
  refine aw_iloadn C dX11_asksOf_0 rfl ?_
  refine aw_sipush (v := 30000) C dX11_asksOf_1 (by decide) ?_
  refine aw_isub C dX11_asksOf_4 ?_
  refine aw_istoren C dX11_asksOf_5 (by decide) rfl ?_
  refine aw_iloadn C dX11_asksOf_6 rfl ?_
  refine aw_if_lt C dX11_asksOf_7 30 (by decide) hw (fun hc7 hw => ?_) (fun hc7 hw => ?_)
  · exact aw_msk [true, true, false, false, false] (h30 p0 _ hw)
  · refine aw_aloadn C dX11_asksOf_10 rfl ?_
    refine aw_getR (r := 77) C dX11_asksOf_11 kcX11 (sA_46 S) 38 (by decide) rfl mF_X11_108 ?_
    refine aw_iloadn C dX11_asksOf_14 rfl ?_
    refine aw_iald C dX11_asksOf_15 (sA_77 S) hw.1 ?_
    replace hw := hw.2
    refine aw_iconst (v := 2) C dX11_asksOf_16 (by decide) ?_
    refine aw_ic_eq C dX11_asksOf_17 30 (by decide) hw (fun hc17 hw => ?_) (fun hc17 hw => ?_)
    · exact aw_msk [true, true, false, false, false] (h30 p0 _ hw)
    · refine aw_aloadn C dX11_asksOf_20 rfl ?_
      refine aw_getR (r := 77) C dX11_asksOf_21 kcX11 (sA_46 S) 38 (by decide) rfl mF_X11_108 ?_
      refine aw_iloadn C dX11_asksOf_24 rfl ?_
      refine aw_iald C dX11_asksOf_25 (sA_77 S) hw.1 ?_
      replace hw := hw.2
      refine aw_iconst (v := 3) C dX11_asksOf_26 (by decide) ?_
      refine aw_ic_ne C dX11_asksOf_27 40 (by decide) hw (fun hc27 hw => ?_) (fun hc27 hw => ?_)
      · refine aw_aloadn C dX11_asksOf_40 rfl ?_
        refine aw_getR (r := 77) C dX11_asksOf_41 kcX11 (sA_46 S) 38 (by decide) rfl mF_X11_108 ?_
        refine aw_iloadn C dX11_asksOf_44 rfl ?_
        refine aw_iald C dX11_asksOf_45 (sA_77 S) hw.1 ?_
        replace hw := hw.2
        refine aw_iconst (v := 4) C dX11_asksOf_46 (by decide) ?_
        refine aw_ic_ne C dX11_asksOf_47 59 (by decide) hw (fun hc47 hw => ?_) (fun hc47 hw => ?_)
        · refine aw_aloadn C dX11_asksOf_59 rfl ?_
          refine aw_iloadn C dX11_asksOf_60 rfl ?_
          refine aw_callV C dX11_asksOf_61 (t_X11_calls S p0 _ _ hw) mM_X11_253 bX11_calls (sA_46 S) rfl rfl ⟨Nat.le_of_ble_eq_true rfl, Nat.le_of_ble_eq_true rfl, Nat.zero_le _, Nat.zero_le _⟩ _ rfl (Nat.le_of_ble_eq_true rfl) (fun r61 G2 hq => ?_)
          obtain ⟨v3, rfl, hw⟩ := hq
          refine aw_if_eq C dX11_asksOf_64 166 (by decide) hw (fun hc64 hw => ?_) (fun hc64 hw => ?_)
          · exact aw_msk [false, false, false, false, false] (h166 _ hw)
          · refine aw_aloadn C dX11_asksOf_67 rfl ?_
            refine aw_getR (r := 77) C dX11_asksOf_68 kcX11 (sA_46 S) 38 (by decide) rfl mF_X11_108 ?_
            refine aw_iloadn C dX11_asksOf_71 rfl ?_
            refine aw_iald C dX11_asksOf_72 (sA_77 S) hw.1 ?_
            replace hw := hw.2
            refine aw_if_ne C dX11_asksOf_73 80 (by decide) hw (fun hc73 hw => ?_) (fun hc73 hw => ?_)
            · refine aw_iconst (v := 0) C dX11_asksOf_80 (by decide) ?_
              exact aw_msk [true, true, false, true, false] (h81 p0 (p1 - 30000) 0 _ hw)
            · refine aw_iconst (v := 1) C dX11_asksOf_76 (by decide) ?_
              refine aw_goto (tgt := 81) C dX11_asksOf_77 (by decide) ?_
              exact aw_msk [true, true, false, true, false] (h81 p0 (p1 - 30000) 1 _ hw)
        · refine aw_aloadn C dX11_asksOf_50 rfl ?_
          refine aw_iloadn C dX11_asksOf_51 rfl ?_
          refine aw_iconst (v := (-1)) C dX11_asksOf_52 (by decide) ?_
          refine aw_callV C dX11_asksOf_53 (t_X11_ends S p0 (-1) _ _ hw) mM_X11_262 bX11_ends (sA_46 S) rfl rfl ⟨Nat.le_of_ble_eq_true rfl, Nat.le_of_ble_eq_true rfl, Nat.zero_le _, Nat.zero_le _⟩ _ rfl (Nat.le_of_ble_eq_true rfl) (fun r53 G13 hq => ?_)
          obtain ⟨rfl, hw⟩ := hq
          refine aw_goto (tgt := 166) C dX11_asksOf_56 (by decide) ?_
          exact aw_msk [false, false, false, false, false] (h166 _ hw)
      · exact aw_msk [true, true, false, false, false] (h30 p0 _ hw)
def w_X11_putsCursor_j25 (K : Gt → Prop) (x1 : Int32) (G0 : Gt) : Prop :=
  w_X11_fails (fun G3 =>
    K G3) x1 (-4) G0
def w_X11_putsCursor_h35 (K : Gt → Prop) : Nat → Int32 → Int32 → Int32 → Gt → Prop
  | 0, _, _, _, _ => False
  | n + 1, x1, x2, x3, G0 =>
    vp_in ((4 * (G0 46 14)) + x3) 8 ∧
    pif ((G0 60 (((4 * (G0 46 14)) + x3) : Int32).toNatClampNeg) = (-1)) (
      vp_in ((4 * (G0 46 14)) + x3) 8 ∧
      pt (gu G0 60 (((4 * (G0 46 14)) + x3) : Int32).toNatClampNeg x2) fun G6 =>
      w_X11_ends (fun G7 =>
        K G7) x1 x3 G6) (
      (w_X11_putsCursor_h35 K n) x1 x2 (x3 + 1) G0)
def w_X11_putsCursor (K : Gt → Prop) (p0 : Int32) (p1 : Int32) (G0 : Gt) : Prop :=
  vp_in (G0 46 14) 2 ∧
  w_X11_in (fun v2 G1 =>
    pif (v2 = 0) (
      w_X11_putsCursor_j25 K p0 G1) (
      w_X11_places (fun v5 G4 =>
        pif (v5 = 4) (
          w_X11_putsCursor_j25 K p0 G4) (
          ∃ i, w_X11_putsCursor_h35 K i p0 p1 0 G4)) G1)) p1 0 (G0 59 ((G0 46 14) : Int32).toNatClampNeg) G0
set_option maxHeartbeats 4000000 in
set_option maxRecDepth 100000 in
theorem t_X11_putsCursor {l : Launch} {sh : Sh} (S : shOK sh) (p0 : Int32) (p1 : Int32) (G0 : Gt) (K : Gt → Prop) (hw : w_X11_putsCursor K p0 p1 G0) : CT0 l yX11_putsCursor cX11_putsCursor 4 none 1 22 [.ref 46, .int p0, .int p1] sh G0 (fun r G' => r = none ∧ K G') := by
  refine CT0_of (by decide) (Nat.le_of_ble_eq_true rfl) rfl ?_
  intro p e s m args below meth c D tA ad A C hr _
  have h25 : ∀ (x1 : Int32) (G0 : Gt), w_X11_putsCursor_j25 K x1 G0 → aw p l e { frames := 1, cells := 0, slots := 0, locals := 22 } s m args below meth c 4 D tA A (MQ below (QC0 D tA ad A sh (fun r G' => r = none ∧ K G')) args s 0 0 A) 0 0 ad 25 [some (.ref 46), some (.int x1), none, none] [] sh G0 := by
    intro  x1 G0 hw
    unfold w_X11_putsCursor_j25 at hw
    refine aw_aloadn C dX11_putsCursor_25 rfl ?_
    refine aw_iloadn C dX11_putsCursor_26 rfl ?_
    refine aw_bipush (v := (-4)) C dX11_putsCursor_27 (by decide) ?_
    refine aw_callV C dX11_putsCursor_29 (t_X11_fails S x1 (-4) _ _ hw) mM_X11_237 bX11_fails (sA_46 S) rfl rfl ⟨Nat.le_of_ble_eq_true rfl, Nat.le_of_ble_eq_true rfl, Nat.zero_le _, Nat.zero_le _⟩ _ rfl (Nat.le_of_ble_eq_true rfl) (fun r29 G3 hq => ?_)
    obtain ⟨rfl, hw⟩ := hq
    exact aw_return C hr dX11_putsCursor_32 ⟨rfl, hw⟩
  have h35 : ∀ (n : Nat) (x1 : Int32) (x2 : Int32) (x3 : Int32) (G0 : Gt), w_X11_putsCursor_h35 K n x1 x2 x3 G0 → aw p l e { frames := 1, cells := 0, slots := 0, locals := 22 } s m args below meth c 4 D tA A (MQ below (QC0 D tA ad A sh (fun r G' => r = none ∧ K G')) args s 0 0 A) 0 0 ad 35 [some (.ref 46), some (.int x1), some (.int x2), some (.int x3)] [] sh G0 := by
    intro  n
    induction n with
    | zero => intro x1 x2 x3 G0 hw; exact hw.elim
    | succ n ih =>
      intro x1 x2 x3 G0 hw
      rw [w_X11_putsCursor_h35] at hw
      refine aw_aloadn C dX11_putsCursor_35 rfl ?_
      refine aw_getR (r := 60) C dX11_putsCursor_36 kcX11 (sA_46 S) 17 (by decide) rfl mF_X11_57 ?_
      refine aw_iconst (v := 4) C dX11_putsCursor_39 (by decide) ?_
      refine aw_aloadn C dX11_putsCursor_40 rfl ?_
      refine aw_getI C dX11_putsCursor_41 kcX11 (sA_46 S) 14 (by decide) rfl mF_X11_180 ?_
      refine aw_imul C dX11_putsCursor_44 ?_
      refine aw_iloadn C dX11_putsCursor_45 rfl ?_
      refine aw_iadd C dX11_putsCursor_46 ?_
      refine aw_iald C dX11_putsCursor_47 (sA_60 S) hw.1 ?_
      replace hw := hw.2
      refine aw_iconst (v := (-1)) C dX11_putsCursor_48 (by decide) ?_
      refine aw_ic_eq C dX11_putsCursor_49 58 (by decide) hw (fun hc49 hw => ?_) (fun hc49 hw => ?_)
      · refine aw_aloadn C dX11_putsCursor_58 rfl ?_
        refine aw_getR (r := 60) C dX11_putsCursor_59 kcX11 (sA_46 S) 17 (by decide) rfl mF_X11_57 ?_
        refine aw_iconst (v := 4) C dX11_putsCursor_62 (by decide) ?_
        refine aw_aloadn C dX11_putsCursor_63 rfl ?_
        refine aw_getI C dX11_putsCursor_64 kcX11 (sA_46 S) 14 (by decide) rfl mF_X11_180 ?_
        refine aw_imul C dX11_putsCursor_67 ?_
        refine aw_iloadn C dX11_putsCursor_68 rfl ?_
        refine aw_iadd C dX11_putsCursor_69 ?_
        refine aw_iloadn C dX11_putsCursor_70 rfl ?_
        refine aw_iast C dX11_putsCursor_71 (sA_60 S) hw.1 hw.2 (fun G6 hw => ?_)
        refine aw_aloadn C dX11_putsCursor_72 rfl ?_
        refine aw_iloadn C dX11_putsCursor_73 rfl ?_
        refine aw_iloadn C dX11_putsCursor_74 rfl ?_
        refine aw_callV C dX11_putsCursor_75 (t_X11_ends S x1 x3 _ _ hw) mM_X11_262 bX11_ends (sA_46 S) rfl rfl ⟨Nat.le_of_ble_eq_true rfl, Nat.le_of_ble_eq_true rfl, Nat.zero_le _, Nat.zero_le _⟩ _ rfl (Nat.le_of_ble_eq_true rfl) (fun r75 G7 hq => ?_)
        obtain ⟨rfl, hw⟩ := hq
        exact aw_return C hr dX11_putsCursor_78 ⟨rfl, hw⟩
      · refine aw_iinc (w := (x3 + 1)) C dX11_putsCursor_52 rfl rfl (by decide) rfl ?_
        refine aw_goto (tgt := 35) C dX11_putsCursor_55 (by decide) ?_
        exact aw_msk [true, true, true, true] (ih x1 x2 (x3 + 1) _ hw)
  unfold w_X11_putsCursor at hw
  show aw p l e { frames := 1, cells := 0, slots := 0, locals := 22 } s m args below meth c 4 D tA A (MQ below (QC0 D tA ad A sh (fun r G' => r = none ∧ K G')) args s 0 0 A) 0 0 ad 0 [some (.ref 46), some (.int p0), some (.int p1), none] [] sh G0
  refine aw_iloadn C dX11_putsCursor_0 rfl ?_
  refine aw_iconst (v := 0) C dX11_putsCursor_1 (by decide) ?_
  refine aw_aloadn C dX11_putsCursor_2 rfl ?_
  refine aw_getR (r := 59) C dX11_putsCursor_3 kcX11 (sA_46 S) 16 (by decide) rfl mF_X11_54 ?_
  refine aw_aloadn C dX11_putsCursor_6 rfl ?_
  refine aw_getI C dX11_putsCursor_7 kcX11 (sA_46 S) 14 (by decide) rfl mF_X11_180 ?_
  refine aw_iald C dX11_putsCursor_10 (sA_59 S) hw.1 ?_
  replace hw := hw.2
  refine aw_callS C dX11_putsCursor_11 (t_X11_in p1 0 (G0 59 ((G0 46 14) : Int32).toNatClampNeg) _ _ hw) mM_X11_136 bX11_in rfl rfl ⟨Nat.le_of_ble_eq_true rfl, Nat.le_of_ble_eq_true rfl, Nat.zero_le _, Nat.zero_le _⟩ _ rfl (Nat.le_of_ble_eq_true rfl) (fun r11 G1 hq => ?_)
  obtain ⟨v2, rfl, hw⟩ := hq
  refine aw_if_eq C dX11_putsCursor_14 25 (by decide) hw (fun hc14 hw => ?_) (fun hc14 hw => ?_)
  · exact aw_msk [true, true, false, false] (h25 p0 _ hw)
  · refine aw_aloadn C dX11_putsCursor_17 rfl ?_
    refine aw_callV C dX11_putsCursor_18 (t_X11_places S _ _ hw) mM_X11_259 bX11_places (sA_46 S) rfl rfl ⟨Nat.le_of_ble_eq_true rfl, Nat.le_of_ble_eq_true rfl, Nat.zero_le _, Nat.zero_le _⟩ _ rfl (Nat.le_of_ble_eq_true rfl) (fun r18 G4 hq => ?_)
    obtain ⟨v5, rfl, hw⟩ := hq
    refine aw_iconst (v := 4) C dX11_putsCursor_21 (by decide) ?_
    refine aw_ic_ne C dX11_putsCursor_22 33 (by decide) hw (fun hc22 hw => ?_) (fun hc22 hw => ?_)
    · refine aw_iconst (v := 0) C dX11_putsCursor_33 (by decide) ?_
      refine aw_istoren C dX11_putsCursor_34 (by decide) rfl ?_
      obtain ⟨n0, hw⟩ := hw
      exact aw_msk [true, true, true, true] (h35 n0 p0 p1 0 _ hw)
    · exact aw_msk [true, true, false, false] (h25 p0 _ hw)
def w_X11_next_j16 (K : Int32 → Gt → Prop) (y1 : Int32) (G0 : Gt) : Prop :=
  w_X11_tells (fun v2 G1 =>
    K v2 G1) y1 G0
def w_X11_next (K : Int32 → Gt → Prop) (G0 : Gt) : Prop :=
  pif ((G0 46 52) = 0) (
    w_X11_next_j16 K (-1) G0) (
    w_X11_next_j16 K (G0 46 54) G0)
set_option maxHeartbeats 4000000 in
set_option maxRecDepth 100000 in
theorem t_X11_next {l : Launch} {sh : Sh} (S : shOK sh) (G0 : Gt) (K : Int32 → Gt → Prop) (hw : w_X11_next K G0) : CT0 l yX11_next cX11_next 1 (some .int) 1 21 [.ref 46] sh G0 (fun r G' => ∃ v, r = some (.int v) ∧ K v G') := by
  refine CT0_of (by decide) (Nat.le_of_ble_eq_true rfl) rfl ?_
  intro p e s m args below meth c D tA ad A C hr _
  have h16 : ∀ (y1 : Int32) (G0 : Gt), w_X11_next_j16 K y1 G0 → aw p l e { frames := 1, cells := 0, slots := 0, locals := 21 } s m args below meth c 1 D tA A (MQ below (QC0 D tA ad A sh (fun r G' => ∃ v, r = some (.int v) ∧ K v G')) args s 0 0 A) 0 0 ad 16 [none] [.int y1, .ref 46] sh G0 := by
    intro  y1 G0 hw
    unfold w_X11_next_j16 at hw
    refine aw_callV C dX11_next_16 (t_X11_tells S y1 _ _ hw) mM_X11_447 bX11_tells (sA_46 S) rfl rfl ⟨Nat.le_of_ble_eq_true rfl, Nat.le_of_ble_eq_true rfl, Nat.zero_le _, Nat.zero_le _⟩ _ rfl (Nat.le_of_ble_eq_true rfl) (fun r16 G1 hq => ?_)
    obtain ⟨v2, rfl, hw⟩ := hq
    exact aw_ireturn C hr dX11_next_19 ⟨_, rfl, hw⟩
  unfold w_X11_next at hw
  show aw p l e { frames := 1, cells := 0, slots := 0, locals := 21 } s m args below meth c 1 D tA A (MQ below (QC0 D tA ad A sh (fun r G' => ∃ v, r = some (.int v) ∧ K v G')) args s 0 0 A) 0 0 ad 0 [some (.ref 46)] [] sh G0
  refine aw_aloadn C dX11_next_0 rfl ?_
  refine aw_aloadn C dX11_next_1 rfl ?_
  refine aw_getI C dX11_next_2 kcX11 (sA_46 S) 52 (by decide) rfl mF_X11_173 ?_
  refine aw_if_eq C dX11_next_5 15 (by decide) hw (fun hc5 hw => ?_) (fun hc5 hw => ?_)
  · refine aw_iconst (v := (-1)) C dX11_next_15 (by decide) ?_
    exact aw_msk [false] (h16 (-1) _ hw)
  · refine aw_aloadn C dX11_next_8 rfl ?_
    refine aw_getI C dX11_next_9 kcX11 (sA_46 S) 54 (by decide) rfl mF_X11_193 ?_
    refine aw_goto (tgt := 16) C dX11_next_12 (by decide) ?_
    exact aw_msk [false] (h16 (G0 46 54) _ hw)
def w_X11_node_j241 (K : Int32 → Gt → Prop) (x1 : Int32) (x2 : Int32) (x3 : Int32) (x4 : Int32) (x9 : Int32) (y1 : Int32) (y2 : Int32) (y3 : Int32) (G0 : Gt) : Prop :=
  w_X11_goes (fun v4 G3 =>
    pif (v4 = 0) (
      K 0 G3) (
      vp_in (G3 46 0) 120 ∧
      pt (gu G3 47 ((G3 46 0) : Int32).toNatClampNeg x1) fun G5 =>
      vp_in (G5 46 0) 120 ∧
      pt (gu G5 48 ((G5 46 0) : Int32).toNatClampNeg x2) fun G6 =>
      vp_in (G6 46 0) 120 ∧
      pt (gu G6 49 ((G6 46 0) : Int32).toNatClampNeg x3) fun G7 =>
      vp_in (G7 46 0) 120 ∧
      pt (gu G7 50 ((G7 46 0) : Int32).toNatClampNeg x4) fun G8 =>
      vp_in (G8 46 0) 120 ∧
      pt (gu G8 51 ((G8 46 0) : Int32).toNatClampNeg x9) fun G9 =>
      pt (gu G9 46 0 ((G9 46 0) + 1)) fun G10 =>
      K ((G10 46 0) - 1) G10)) y1 y2 y3 G0
def w_X11_node_j240 (K : Int32 → Gt → Prop) (x1 : Int32) (x2 : Int32) (x3 : Int32) (x4 : Int32) (x9 : Int32) (y1 : Int32) (y2 : Int32) (G0 : Gt) : Prop :=
  w_X11_node_j241 K x1 x2 x3 x4 x9 y1 y2 0 G0
def w_X11_node_j212 (K : Int32 → Gt → Prop) (x1 : Int32) (x2 : Int32) (x3 : Int32) (x4 : Int32) (x7 : Int32) (x8 : Int32) (y0 : Int32) (G0 : Gt) : Prop :=
  pif (120 ≤ (G0 46 0)) (
    w_X11_node_j240 K x1 x2 x3 x4 y0 x7 x8 G0) (
    pif (150 < y0) (
      w_X11_node_j240 K x1 x2 x3 x4 y0 x7 x8 G0) (
      w_X11_node_j241 K x1 x2 x3 x4 y0 x7 x8 1 G0))
def w_X11_node_j211 (K : Int32 → Gt → Prop) (x1 : Int32) (x2 : Int32) (x3 : Int32) (x4 : Int32) (x7 : Int32) (x8 : Int32) (G0 : Gt) : Prop :=
  w_X11_node_j212 K x1 x2 x3 x4 x7 x8 0 G0
def w_X11_node_j158 (K : Int32 → Gt → Prop) (x1 : Int32) (x2 : Int32) (x3 : Int32) (x4 : Int32) (x6 : Int32) (x7 : Int32) (y0 : Int32) (G0 : Gt) : Prop :=
  pif (x7 = 0) (
    w_X11_node_j211 K x1 x2 x3 x4 x7 y0 G0) (
    pif (y0 = 0) (
      w_X11_node_j211 K x1 x2 x3 x4 x7 y0 G0) (
      w_X11_sizeOf (fun v12 G11 =>
        w_X11_sizeOf (fun v14 G13 =>
          w_X11_sizeOf (fun v16 G15 =>
            w_X11_node_j212 K x1 x2 x3 x4 x7 y0 (((1 + v12) + v14) + v16) G15) (x6 - x6 / 10 * 10) x4 G13) ((x6 / 10) - (x6 / 10) / 10 * 10) x3 G11) (x6 / 100) x2 G0))
def w_X11_node_j157 (K : Int32 → Gt → Prop) (x1 : Int32) (x2 : Int32) (x3 : Int32) (x4 : Int32) (x6 : Int32) (x7 : Int32) (G0 : Gt) : Prop :=
  w_X11_node_j158 K x1 x2 x3 x4 x6 x7 0 G0
def w_X11_node_j153 (K : Int32 → Gt → Prop) (x1 : Int32) (x2 : Int32) (x3 : Int32) (x4 : Int32) (x6 : Int32) (x7 : Int32) (G0 : Gt) : Prop :=
  w_X11_node_j158 K x1 x2 x3 x4 x6 x7 1 G0
def w_X11_node_j89 (K : Int32 → Gt → Prop) (x1 : Int32) (x2 : Int32) (x3 : Int32) (x4 : Int32) (x5 : Int32) (x6 : Int32) (y0 : Int32) (G0 : Gt) : Prop :=
  pif (x5 = 0) (
    w_X11_node_j157 K x1 x2 x3 x4 x6 y0 G0) (
    w_X11_canBe (fun v18 G17 =>
      pif (v18 = 0) (
        w_X11_node_j157 K x1 x2 x3 x4 x6 y0 G17) (
        w_X11_canBe (fun v20 G19 =>
          pif (v20 = 0) (
            w_X11_node_j157 K x1 x2 x3 x4 x6 y0 G19) (
            w_X11_canBe (fun v22 G21 =>
              pif (v22 = 0) (
                w_X11_node_j157 K x1 x2 x3 x4 x6 y0 G21) (
                pif (x1 = 18) (
                  pif (x3 = (-1)) (
                    pif (x4 = (-1)) (
                      w_X11_node_j153 K x1 x2 x3 x4 x6 y0 G21) (
                      w_X11_node_j157 K x1 x2 x3 x4 x6 y0 G21)) (
                    w_X11_node_j153 K x1 x2 x3 x4 x6 y0 G21)) (
                  w_X11_node_j153 K x1 x2 x3 x4 x6 y0 G21))) (x6 - x6 / 10 * 10) x4 G19)) ((x6 / 10) - (x6 / 10) / 10 * 10) x3 G17)) (x6 / 100) x2 G0)
def w_X11_node_j84 (K : Int32 → Gt → Prop) (x1 : Int32) (x2 : Int32) (x3 : Int32) (x4 : Int32) (x5 : Int32) (x6 : Int32) (G0 : Gt) : Prop :=
  w_X11_node_j89 K x1 x2 x3 x4 x5 x6 1 G0
def w_X11_node_j88 (K : Int32 → Gt → Prop) (x1 : Int32) (x2 : Int32) (x3 : Int32) (x4 : Int32) (x5 : Int32) (x6 : Int32) (G0 : Gt) : Prop :=
  w_X11_node_j89 K x1 x2 x3 x4 x5 x6 0 G0
def w_X11_node_j78 (K : Int32 → Gt → Prop) (x1 : Int32) (x2 : Int32) (x3 : Int32) (x4 : Int32) (x5 : Int32) (x6 : Int32) (y1 : Int32) (y2 : Int32) (y3 : Int32) (G0 : Gt) : Prop :=
  w_X11_canBeNode (fun v28 G27 =>
    pif (v28 = 0) (
      w_X11_node_j88 K x1 x2 x3 x4 x5 x6 G27) (
      w_X11_node_j84 K x1 x2 x3 x4 x5 x6 G27)) y1 y2 y3 G0
def w_X11_node_j22 (K : Int32 → Gt → Prop) (x1 : Int32) (x2 : Int32) (x3 : Int32) (x4 : Int32) (x5 : Int32) (y0 : Int32) (G0 : Gt) : Prop :=
  pif (x5 = 0) (
    w_X11_node_j84 K x1 x2 x3 x4 x5 y0 G0) (
    w_X11_canBeNode (fun v24 G23 =>
      pif (v24 = 0) (
        w_X11_node_j88 K x1 x2 x3 x4 x5 y0 G23) (
        w_X11_canBeNode (fun v26 G25 =>
          pif (v26 = 0) (
            w_X11_node_j88 K x1 x2 x3 x4 x5 y0 G25) (
            pif (x3 = (-1)) (
              w_X11_node_j78 K x1 x2 x3 x4 x5 y0 (y0 - y0 / 10 * 10) x4 0 G25) (
              w_X11_node_j78 K x1 x2 x3 x4 x5 y0 (y0 - y0 / 10 * 10) x4 1 G25))) ((y0 / 10) - (y0 / 10) / 10 * 10) x3 1 G23)) (y0 / 100) x2 1 G0)
def w_X11_node (K : Int32 → Gt → Prop) (p0 : Int32) (p1 : Int32) (p2 : Int32) (p3 : Int32) (G0 : Gt) : Prop :=
  w_X11_in (fun v2 G1 =>
    pif (v2 = 0) (
      w_X11_node_j22 K p0 p1 p2 p3 v2 0 G1) (
      w_X11_partsOf (fun v30 G29 =>
        w_X11_node_j22 K p0 p1 p2 p3 v2 v30 G29) p0 G1)) p0 0 39 G0
set_option maxHeartbeats 4000000 in
set_option maxRecDepth 100000 in
theorem t_X11_node {l : Launch} {sh : Sh} (S : shOK sh) (p0 : Int32) (p1 : Int32) (p2 : Int32) (p3 : Int32) (G0 : Gt) (K : Int32 → Gt → Prop) (hw : w_X11_node K p0 p1 p2 p3 G0) : CT0 l yX11_node cX11_node 10 (some .int) 3 67 [.ref 46, .int p0, .int p1, .int p2, .int p3] sh G0 (fun r G' => ∃ v, r = some (.int v) ∧ K v G') := by
  refine CT0_of (by decide) (Nat.le_of_ble_eq_true rfl) rfl ?_
  intro p e s m args below meth c D tA ad A C hr _
  have h241 : ∀ (x1 : Int32) (x2 : Int32) (x3 : Int32) (x4 : Int32) (x9 : Int32) (y1 : Int32) (y2 : Int32) (y3 : Int32) (G0 : Gt), w_X11_node_j241 K x1 x2 x3 x4 x9 y1 y2 y3 G0 → aw p l e { frames := 3, cells := 0, slots := 0, locals := 67 } s m args below meth c 10 D tA A (MQ below (QC0 D tA ad A sh (fun r G' => ∃ v, r = some (.int v) ∧ K v G')) args s 0 0 A) 0 0 ad 241 [some (.ref 46), some (.int x1), some (.int x2), some (.int x3), some (.int x4), none, none, none, none, some (.int x9)] [.int y3, .int y2, .int y1, .ref 46] sh G0 := by
    intro  x1 x2 x3 x4 x9 y1 y2 y3 G0 hw
    unfold w_X11_node_j241 at hw
    refine aw_callV C dX11_node_241 (t_X11_goes S y1 y2 y3 _ _ hw) mM_X11_169 bX11_goes (sA_46 S) rfl rfl ⟨Nat.le_of_ble_eq_true rfl, Nat.le_of_ble_eq_true rfl, Nat.zero_le _, Nat.zero_le _⟩ _ rfl (Nat.le_of_ble_eq_true rfl) (fun r241 G3 hq => ?_)
    obtain ⟨v4, rfl, hw⟩ := hq
    refine aw_if_ne C dX11_node_244 249 (by decide) hw (fun hc244 hw => ?_) (fun hc244 hw => ?_)
    · refine aw_aloadn C dX11_node_249 rfl ?_
      refine aw_getR (r := 47) C dX11_node_250 kcX11 (sA_46 S) 1 (by decide) rfl mF_X11_7 ?_
      refine aw_aloadn C dX11_node_253 rfl ?_
      refine aw_getI C dX11_node_254 kcX11 (sA_46 S) 0 (by decide) rfl mF_X11_133 ?_
      refine aw_iloadn C dX11_node_257 rfl ?_
      refine aw_iast C dX11_node_258 (sA_47 S) hw.1 hw.2 (fun G5 hw => ?_)
      refine aw_aloadn C dX11_node_259 rfl ?_
      refine aw_getR (r := 48) C dX11_node_260 kcX11 (sA_46 S) 2 (by decide) rfl mF_X11_13 ?_
      refine aw_aloadn C dX11_node_263 rfl ?_
      refine aw_getI C dX11_node_264 kcX11 (sA_46 S) 0 (by decide) rfl mF_X11_133 ?_
      refine aw_iloadn C dX11_node_267 rfl ?_
      refine aw_iast C dX11_node_268 (sA_48 S) hw.1 hw.2 (fun G6 hw => ?_)
      refine aw_aloadn C dX11_node_269 rfl ?_
      refine aw_getR (r := 49) C dX11_node_270 kcX11 (sA_46 S) 3 (by decide) rfl mF_X11_16 ?_
      refine aw_aloadn C dX11_node_273 rfl ?_
      refine aw_getI C dX11_node_274 kcX11 (sA_46 S) 0 (by decide) rfl mF_X11_133 ?_
      refine aw_iloadn C dX11_node_277 rfl ?_
      refine aw_iast C dX11_node_278 (sA_49 S) hw.1 hw.2 (fun G7 hw => ?_)
      refine aw_aloadn C dX11_node_279 rfl ?_
      refine aw_getR (r := 50) C dX11_node_280 kcX11 (sA_46 S) 4 (by decide) rfl mF_X11_19 ?_
      refine aw_aloadn C dX11_node_283 rfl ?_
      refine aw_getI C dX11_node_284 kcX11 (sA_46 S) 0 (by decide) rfl mF_X11_133 ?_
      refine aw_iload C dX11_node_287 rfl ?_
      refine aw_iast C dX11_node_289 (sA_50 S) hw.1 hw.2 (fun G8 hw => ?_)
      refine aw_aloadn C dX11_node_290 rfl ?_
      refine aw_getR (r := 51) C dX11_node_291 kcX11 (sA_46 S) 5 (by decide) rfl mF_X11_22 ?_
      refine aw_aloadn C dX11_node_294 rfl ?_
      refine aw_getI C dX11_node_295 kcX11 (sA_46 S) 0 (by decide) rfl mF_X11_133 ?_
      refine aw_iload C dX11_node_298 rfl ?_
      refine aw_iast C dX11_node_300 (sA_51 S) hw.1 hw.2 (fun G9 hw => ?_)
      refine aw_aloadn C dX11_node_301 rfl ?_
      refine aw_dup C dX11_node_302 rfl ?_
      refine aw_getI C dX11_node_303 kcX11 (sA_46 S) 0 (by decide) rfl mF_X11_133 ?_
      refine aw_iconst (v := 1) C dX11_node_306 (by decide) ?_
      refine aw_iadd C dX11_node_307 ?_
      refine aw_putI C dX11_node_308 kcX11 (sA_46 S) 0 (by decide) rfl mF_X11_133 rfl rfl rfl hw (fun G10 hw => ?_)
      refine aw_aloadn C dX11_node_311 rfl ?_
      refine aw_getI C dX11_node_312 kcX11 (sA_46 S) 0 (by decide) rfl mF_X11_133 ?_
      refine aw_iconst (v := 1) C dX11_node_315 (by decide) ?_
      refine aw_isub C dX11_node_316 ?_
      exact aw_ireturn C hr dX11_node_317 ⟨_, rfl, hw⟩
    · refine aw_iconst (v := 0) C dX11_node_247 (by decide) ?_
      exact aw_ireturn C hr dX11_node_248 ⟨_, rfl, hw⟩
  have h240 : ∀ (x1 : Int32) (x2 : Int32) (x3 : Int32) (x4 : Int32) (x9 : Int32) (y1 : Int32) (y2 : Int32) (G0 : Gt), w_X11_node_j240 K x1 x2 x3 x4 x9 y1 y2 G0 → aw p l e { frames := 3, cells := 0, slots := 0, locals := 67 } s m args below meth c 10 D tA A (MQ below (QC0 D tA ad A sh (fun r G' => ∃ v, r = some (.int v) ∧ K v G')) args s 0 0 A) 0 0 ad 240 [some (.ref 46), some (.int x1), some (.int x2), some (.int x3), some (.int x4), none, none, none, none, some (.int x9)] [.int y2, .int y1, .ref 46] sh G0 := by
    intro  x1 x2 x3 x4 x9 y1 y2 G0 hw
    unfold w_X11_node_j240 at hw
    refine aw_iconst (v := 0) C dX11_node_240 (by decide) ?_
    exact aw_msk [true, true, true, true, true, false, false, false, false, true] (h241 x1 x2 x3 x4 x9 y1 y2 0 _ hw)
  have h212 : ∀ (x1 : Int32) (x2 : Int32) (x3 : Int32) (x4 : Int32) (x7 : Int32) (x8 : Int32) (y0 : Int32) (G0 : Gt), w_X11_node_j212 K x1 x2 x3 x4 x7 x8 y0 G0 → aw p l e { frames := 3, cells := 0, slots := 0, locals := 67 } s m args below meth c 10 D tA A (MQ below (QC0 D tA ad A sh (fun r G' => ∃ v, r = some (.int v) ∧ K v G')) args s 0 0 A) 0 0 ad 212 [some (.ref 46), some (.int x1), some (.int x2), some (.int x3), some (.int x4), none, none, some (.int x7), some (.int x8), none] [.int y0] sh G0 := by
    intro  x1 x2 x3 x4 x7 x8 y0 G0 hw
    unfold w_X11_node_j212 at hw
    refine aw_istore C dX11_node_212 (by decide) rfl ?_
    refine aw_aloadn C dX11_node_214 rfl ?_
    refine aw_iload C dX11_node_215 rfl ?_
    refine aw_iload C dX11_node_217 rfl ?_
    refine aw_aloadn C dX11_node_219 rfl ?_
    refine aw_getI C dX11_node_220 kcX11 (sA_46 S) 0 (by decide) rfl mF_X11_133 ?_
    refine aw_bipush (v := 120) C dX11_node_223 (by decide) ?_
    refine aw_ic_ge C dX11_node_225 240 (by decide) hw (fun hc225 hw => ?_) (fun hc225 hw => ?_)
    · exact aw_msk [true, true, true, true, true, false, false, false, false, true] (h240 x1 x2 x3 x4 y0 x7 x8 _ hw)
    · refine aw_iload C dX11_node_228 rfl ?_
      refine aw_sipush (v := 150) C dX11_node_230 (by decide) ?_
      refine aw_ic_gt C dX11_node_233 240 (by decide) hw (fun hc233 hw => ?_) (fun hc233 hw => ?_)
      · exact aw_msk [true, true, true, true, true, false, false, false, false, true] (h240 x1 x2 x3 x4 y0 x7 x8 _ hw)
      · refine aw_iconst (v := 1) C dX11_node_236 (by decide) ?_
        refine aw_goto (tgt := 241) C dX11_node_237 (by decide) ?_
        exact aw_msk [true, true, true, true, true, false, false, false, false, true] (h241 x1 x2 x3 x4 y0 x7 x8 1 _ hw)
  have h211 : ∀ (x1 : Int32) (x2 : Int32) (x3 : Int32) (x4 : Int32) (x7 : Int32) (x8 : Int32) (G0 : Gt), w_X11_node_j211 K x1 x2 x3 x4 x7 x8 G0 → aw p l e { frames := 3, cells := 0, slots := 0, locals := 67 } s m args below meth c 10 D tA A (MQ below (QC0 D tA ad A sh (fun r G' => ∃ v, r = some (.int v) ∧ K v G')) args s 0 0 A) 0 0 ad 211 [some (.ref 46), some (.int x1), some (.int x2), some (.int x3), some (.int x4), none, none, some (.int x7), some (.int x8), none] [] sh G0 := by
    intro  x1 x2 x3 x4 x7 x8 G0 hw
    unfold w_X11_node_j211 at hw
    refine aw_iconst (v := 0) C dX11_node_211 (by decide) ?_
    exact aw_msk [true, true, true, true, true, false, false, true, true, false] (h212 x1 x2 x3 x4 x7 x8 0 _ hw)
  have h158 : ∀ (x1 : Int32) (x2 : Int32) (x3 : Int32) (x4 : Int32) (x6 : Int32) (x7 : Int32) (y0 : Int32) (G0 : Gt), w_X11_node_j158 K x1 x2 x3 x4 x6 x7 y0 G0 → aw p l e { frames := 3, cells := 0, slots := 0, locals := 67 } s m args below meth c 10 D tA A (MQ below (QC0 D tA ad A sh (fun r G' => ∃ v, r = some (.int v) ∧ K v G')) args s 0 0 A) 0 0 ad 158 [some (.ref 46), some (.int x1), some (.int x2), some (.int x3), some (.int x4), none, some (.int x6), some (.int x7), none, none] [.int y0] sh G0 := by
    intro  x1 x2 x3 x4 x6 x7 y0 G0 hw
    unfold w_X11_node_j158 at hw
    refine aw_istore C dX11_node_158 (by decide) rfl ?_
    refine aw_iload C dX11_node_160 rfl ?_
    refine aw_if_eq C dX11_node_162 211 (by decide) hw (fun hc162 hw => ?_) (fun hc162 hw => ?_)
    · exact aw_msk [true, true, true, true, true, false, false, true, true, false] (h211 x1 x2 x3 x4 x7 y0 _ hw)
    · refine aw_iload C dX11_node_165 rfl ?_
      refine aw_if_eq C dX11_node_167 211 (by decide) hw (fun hc167 hw => ?_) (fun hc167 hw => ?_)
      · exact aw_msk [true, true, true, true, true, false, false, true, true, false] (h211 x1 x2 x3 x4 x7 y0 _ hw)
      · refine aw_iconst (v := 1) C dX11_node_170 (by decide) ?_
        refine aw_aloadn C dX11_node_171 rfl ?_
        refine aw_iload C dX11_node_172 rfl ?_
        refine aw_bipush (v := 100) C dX11_node_174 (by decide) ?_
        refine aw_idiv C dX11_node_176 (by decide) ?_
        refine aw_iloadn C dX11_node_177 rfl ?_
        refine aw_callV C dX11_node_178 (t_X11_sizeOf S (x6 / 100) x2 _ _ hw) mM_X11_165 bX11_sizeOf (sA_46 S) rfl rfl ⟨Nat.le_of_ble_eq_true rfl, Nat.le_of_ble_eq_true rfl, Nat.zero_le _, Nat.zero_le _⟩ _ rfl (Nat.le_of_ble_eq_true rfl) (fun r178 G11 hq => ?_)
        obtain ⟨v12, rfl, hw⟩ := hq
        refine aw_iadd C dX11_node_181 ?_
        refine aw_aloadn C dX11_node_182 rfl ?_
        refine aw_iload C dX11_node_183 rfl ?_
        refine aw_bipush (v := 10) C dX11_node_185 (by decide) ?_
        refine aw_idiv C dX11_node_187 (by decide) ?_
        refine aw_bipush (v := 10) C dX11_node_188 (by decide) ?_
        refine aw_irem C dX11_node_190 (by decide) ?_
        refine aw_iloadn C dX11_node_191 rfl ?_
        refine aw_callV C dX11_node_192 (t_X11_sizeOf S ((x6 / 10) - (x6 / 10) / 10 * 10) x3 _ _ hw) mM_X11_165 bX11_sizeOf (sA_46 S) rfl rfl ⟨Nat.le_of_ble_eq_true rfl, Nat.le_of_ble_eq_true rfl, Nat.zero_le _, Nat.zero_le _⟩ _ rfl (Nat.le_of_ble_eq_true rfl) (fun r192 G13 hq => ?_)
        obtain ⟨v14, rfl, hw⟩ := hq
        refine aw_iadd C dX11_node_195 ?_
        refine aw_aloadn C dX11_node_196 rfl ?_
        refine aw_iload C dX11_node_197 rfl ?_
        refine aw_bipush (v := 10) C dX11_node_199 (by decide) ?_
        refine aw_irem C dX11_node_201 (by decide) ?_
        refine aw_iload C dX11_node_202 rfl ?_
        refine aw_callV C dX11_node_204 (t_X11_sizeOf S (x6 - x6 / 10 * 10) x4 _ _ hw) mM_X11_165 bX11_sizeOf (sA_46 S) rfl rfl ⟨Nat.le_of_ble_eq_true rfl, Nat.le_of_ble_eq_true rfl, Nat.zero_le _, Nat.zero_le _⟩ _ rfl (Nat.le_of_ble_eq_true rfl) (fun r204 G15 hq => ?_)
        obtain ⟨v16, rfl, hw⟩ := hq
        refine aw_iadd C dX11_node_207 ?_
        refine aw_goto (tgt := 212) C dX11_node_208 (by decide) ?_
        exact aw_msk [true, true, true, true, true, false, false, true, true, false] (h212 x1 x2 x3 x4 x7 y0 (((1 + v12) + v14) + v16) _ hw)
  have h157 : ∀ (x1 : Int32) (x2 : Int32) (x3 : Int32) (x4 : Int32) (x6 : Int32) (x7 : Int32) (G0 : Gt), w_X11_node_j157 K x1 x2 x3 x4 x6 x7 G0 → aw p l e { frames := 3, cells := 0, slots := 0, locals := 67 } s m args below meth c 10 D tA A (MQ below (QC0 D tA ad A sh (fun r G' => ∃ v, r = some (.int v) ∧ K v G')) args s 0 0 A) 0 0 ad 157 [some (.ref 46), some (.int x1), some (.int x2), some (.int x3), some (.int x4), none, some (.int x6), some (.int x7), none, none] [] sh G0 := by
    intro  x1 x2 x3 x4 x6 x7 G0 hw
    unfold w_X11_node_j157 at hw
    refine aw_iconst (v := 0) C dX11_node_157 (by decide) ?_
    exact aw_msk [true, true, true, true, true, false, true, true, false, false] (h158 x1 x2 x3 x4 x6 x7 0 _ hw)
  have h153 : ∀ (x1 : Int32) (x2 : Int32) (x3 : Int32) (x4 : Int32) (x6 : Int32) (x7 : Int32) (G0 : Gt), w_X11_node_j153 K x1 x2 x3 x4 x6 x7 G0 → aw p l e { frames := 3, cells := 0, slots := 0, locals := 67 } s m args below meth c 10 D tA A (MQ below (QC0 D tA ad A sh (fun r G' => ∃ v, r = some (.int v) ∧ K v G')) args s 0 0 A) 0 0 ad 153 [some (.ref 46), some (.int x1), some (.int x2), some (.int x3), some (.int x4), none, some (.int x6), some (.int x7), none, none] [] sh G0 := by
    intro  x1 x2 x3 x4 x6 x7 G0 hw
    unfold w_X11_node_j153 at hw
    refine aw_iconst (v := 1) C dX11_node_153 (by decide) ?_
    refine aw_goto (tgt := 158) C dX11_node_154 (by decide) ?_
    exact aw_msk [true, true, true, true, true, false, true, true, false, false] (h158 x1 x2 x3 x4 x6 x7 1 _ hw)
  have h89 : ∀ (x1 : Int32) (x2 : Int32) (x3 : Int32) (x4 : Int32) (x5 : Int32) (x6 : Int32) (y0 : Int32) (G0 : Gt), w_X11_node_j89 K x1 x2 x3 x4 x5 x6 y0 G0 → aw p l e { frames := 3, cells := 0, slots := 0, locals := 67 } s m args below meth c 10 D tA A (MQ below (QC0 D tA ad A sh (fun r G' => ∃ v, r = some (.int v) ∧ K v G')) args s 0 0 A) 0 0 ad 89 [some (.ref 46), some (.int x1), some (.int x2), some (.int x3), some (.int x4), some (.int x5), some (.int x6), none, none, none] [.int y0] sh G0 := by
    intro  x1 x2 x3 x4 x5 x6 y0 G0 hw
    unfold w_X11_node_j89 at hw
    refine aw_istore C dX11_node_89 (by decide) rfl ?_
    refine aw_iload C dX11_node_91 rfl ?_
    refine aw_if_eq C dX11_node_93 157 (by decide) hw (fun hc93 hw => ?_) (fun hc93 hw => ?_)
    · exact aw_msk [true, true, true, true, true, false, true, true, false, false] (h157 x1 x2 x3 x4 x6 y0 _ hw)
    · refine aw_iload C dX11_node_96 rfl ?_
      refine aw_bipush (v := 100) C dX11_node_98 (by decide) ?_
      refine aw_idiv C dX11_node_100 (by decide) ?_
      refine aw_iloadn C dX11_node_101 rfl ?_
      refine aw_callS C dX11_node_102 (t_X11_canBe (x6 / 100) x2 _ _ hw) mM_X11_161 bX11_canBe rfl rfl ⟨Nat.le_of_ble_eq_true rfl, Nat.le_of_ble_eq_true rfl, Nat.zero_le _, Nat.zero_le _⟩ _ rfl (Nat.le_of_ble_eq_true rfl) (fun r102 G17 hq => ?_)
      obtain ⟨v18, rfl, hw⟩ := hq
      refine aw_if_eq C dX11_node_105 157 (by decide) hw (fun hc105 hw => ?_) (fun hc105 hw => ?_)
      · exact aw_msk [true, true, true, true, true, false, true, true, false, false] (h157 x1 x2 x3 x4 x6 y0 _ hw)
      · refine aw_iload C dX11_node_108 rfl ?_
        refine aw_bipush (v := 10) C dX11_node_110 (by decide) ?_
        refine aw_idiv C dX11_node_112 (by decide) ?_
        refine aw_bipush (v := 10) C dX11_node_113 (by decide) ?_
        refine aw_irem C dX11_node_115 (by decide) ?_
        refine aw_iloadn C dX11_node_116 rfl ?_
        refine aw_callS C dX11_node_117 (t_X11_canBe ((x6 / 10) - (x6 / 10) / 10 * 10) x3 _ _ hw) mM_X11_161 bX11_canBe rfl rfl ⟨Nat.le_of_ble_eq_true rfl, Nat.le_of_ble_eq_true rfl, Nat.zero_le _, Nat.zero_le _⟩ _ rfl (Nat.le_of_ble_eq_true rfl) (fun r117 G19 hq => ?_)
        obtain ⟨v20, rfl, hw⟩ := hq
        refine aw_if_eq C dX11_node_120 157 (by decide) hw (fun hc120 hw => ?_) (fun hc120 hw => ?_)
        · exact aw_msk [true, true, true, true, true, false, true, true, false, false] (h157 x1 x2 x3 x4 x6 y0 _ hw)
        · refine aw_iload C dX11_node_123 rfl ?_
          refine aw_bipush (v := 10) C dX11_node_125 (by decide) ?_
          refine aw_irem C dX11_node_127 (by decide) ?_
          refine aw_iload C dX11_node_128 rfl ?_
          refine aw_callS C dX11_node_130 (t_X11_canBe (x6 - x6 / 10 * 10) x4 _ _ hw) mM_X11_161 bX11_canBe rfl rfl ⟨Nat.le_of_ble_eq_true rfl, Nat.le_of_ble_eq_true rfl, Nat.zero_le _, Nat.zero_le _⟩ _ rfl (Nat.le_of_ble_eq_true rfl) (fun r130 G21 hq => ?_)
          obtain ⟨v22, rfl, hw⟩ := hq
          refine aw_if_eq C dX11_node_133 157 (by decide) hw (fun hc133 hw => ?_) (fun hc133 hw => ?_)
          · exact aw_msk [true, true, true, true, true, false, true, true, false, false] (h157 x1 x2 x3 x4 x6 y0 _ hw)
          · refine aw_iloadn C dX11_node_136 rfl ?_
            refine aw_bipush (v := 18) C dX11_node_137 (by decide) ?_
            refine aw_ic_ne C dX11_node_139 153 (by decide) hw (fun hc139 hw => ?_) (fun hc139 hw => ?_)
            · exact aw_msk [true, true, true, true, true, false, true, true, false, false] (h153 x1 x2 x3 x4 x6 y0 _ hw)
            · refine aw_iloadn C dX11_node_142 rfl ?_
              refine aw_iconst (v := (-1)) C dX11_node_143 (by decide) ?_
              refine aw_ic_ne C dX11_node_144 153 (by decide) hw (fun hc144 hw => ?_) (fun hc144 hw => ?_)
              · exact aw_msk [true, true, true, true, true, false, true, true, false, false] (h153 x1 x2 x3 x4 x6 y0 _ hw)
              · refine aw_iload C dX11_node_147 rfl ?_
                refine aw_iconst (v := (-1)) C dX11_node_149 (by decide) ?_
                refine aw_ic_ne C dX11_node_150 157 (by decide) hw (fun hc150 hw => ?_) (fun hc150 hw => ?_)
                · exact aw_msk [true, true, true, true, true, false, true, true, false, false] (h157 x1 x2 x3 x4 x6 y0 _ hw)
                · exact aw_msk [true, true, true, true, true, false, true, true, false, false] (h153 x1 x2 x3 x4 x6 y0 _ hw)
  have h84 : ∀ (x1 : Int32) (x2 : Int32) (x3 : Int32) (x4 : Int32) (x5 : Int32) (x6 : Int32) (G0 : Gt), w_X11_node_j84 K x1 x2 x3 x4 x5 x6 G0 → aw p l e { frames := 3, cells := 0, slots := 0, locals := 67 } s m args below meth c 10 D tA A (MQ below (QC0 D tA ad A sh (fun r G' => ∃ v, r = some (.int v) ∧ K v G')) args s 0 0 A) 0 0 ad 84 [some (.ref 46), some (.int x1), some (.int x2), some (.int x3), some (.int x4), some (.int x5), some (.int x6), none, none, none] [] sh G0 := by
    intro  x1 x2 x3 x4 x5 x6 G0 hw
    unfold w_X11_node_j84 at hw
    refine aw_iconst (v := 1) C dX11_node_84 (by decide) ?_
    refine aw_goto (tgt := 89) C dX11_node_85 (by decide) ?_
    exact aw_msk [true, true, true, true, true, true, true, false, false, false] (h89 x1 x2 x3 x4 x5 x6 1 _ hw)
  have h88 : ∀ (x1 : Int32) (x2 : Int32) (x3 : Int32) (x4 : Int32) (x5 : Int32) (x6 : Int32) (G0 : Gt), w_X11_node_j88 K x1 x2 x3 x4 x5 x6 G0 → aw p l e { frames := 3, cells := 0, slots := 0, locals := 67 } s m args below meth c 10 D tA A (MQ below (QC0 D tA ad A sh (fun r G' => ∃ v, r = some (.int v) ∧ K v G')) args s 0 0 A) 0 0 ad 88 [some (.ref 46), some (.int x1), some (.int x2), some (.int x3), some (.int x4), some (.int x5), some (.int x6), none, none, none] [] sh G0 := by
    intro  x1 x2 x3 x4 x5 x6 G0 hw
    unfold w_X11_node_j88 at hw
    refine aw_iconst (v := 0) C dX11_node_88 (by decide) ?_
    exact aw_msk [true, true, true, true, true, true, true, false, false, false] (h89 x1 x2 x3 x4 x5 x6 0 _ hw)
  have h78 : ∀ (x1 : Int32) (x2 : Int32) (x3 : Int32) (x4 : Int32) (x5 : Int32) (x6 : Int32) (y1 : Int32) (y2 : Int32) (y3 : Int32) (G0 : Gt), w_X11_node_j78 K x1 x2 x3 x4 x5 x6 y1 y2 y3 G0 → aw p l e { frames := 3, cells := 0, slots := 0, locals := 67 } s m args below meth c 10 D tA A (MQ below (QC0 D tA ad A sh (fun r G' => ∃ v, r = some (.int v) ∧ K v G')) args s 0 0 A) 0 0 ad 78 [some (.ref 46), some (.int x1), some (.int x2), some (.int x3), some (.int x4), some (.int x5), some (.int x6), none, none, none] [.int y3, .int y2, .int y1, .ref 46] sh G0 := by
    intro  x1 x2 x3 x4 x5 x6 y1 y2 y3 G0 hw
    unfold w_X11_node_j78 at hw
    refine aw_callV C dX11_node_78 (t_X11_canBeNode S y1 y2 y3 _ _ hw) mM_X11_157 bX11_canBeNode (sA_46 S) rfl rfl ⟨Nat.le_of_ble_eq_true rfl, Nat.le_of_ble_eq_true rfl, Nat.zero_le _, Nat.zero_le _⟩ _ rfl (Nat.le_of_ble_eq_true rfl) (fun r78 G27 hq => ?_)
    obtain ⟨v28, rfl, hw⟩ := hq
    refine aw_if_eq C dX11_node_81 88 (by decide) hw (fun hc81 hw => ?_) (fun hc81 hw => ?_)
    · exact aw_msk [true, true, true, true, true, true, true, false, false, false] (h88 x1 x2 x3 x4 x5 x6 _ hw)
    · exact aw_msk [true, true, true, true, true, true, true, false, false, false] (h84 x1 x2 x3 x4 x5 x6 _ hw)
  have h22 : ∀ (x1 : Int32) (x2 : Int32) (x3 : Int32) (x4 : Int32) (x5 : Int32) (y0 : Int32) (G0 : Gt), w_X11_node_j22 K x1 x2 x3 x4 x5 y0 G0 → aw p l e { frames := 3, cells := 0, slots := 0, locals := 67 } s m args below meth c 10 D tA A (MQ below (QC0 D tA ad A sh (fun r G' => ∃ v, r = some (.int v) ∧ K v G')) args s 0 0 A) 0 0 ad 22 [some (.ref 46), some (.int x1), some (.int x2), some (.int x3), some (.int x4), some (.int x5), none, none, none, none] [.int y0] sh G0 := by
    intro  x1 x2 x3 x4 x5 y0 G0 hw
    unfold w_X11_node_j22 at hw
    refine aw_istore C dX11_node_22 (by decide) rfl ?_
    refine aw_iload C dX11_node_24 rfl ?_
    refine aw_if_eq C dX11_node_26 84 (by decide) hw (fun hc26 hw => ?_) (fun hc26 hw => ?_)
    · exact aw_msk [true, true, true, true, true, true, true, false, false, false] (h84 x1 x2 x3 x4 x5 y0 _ hw)
    · refine aw_aloadn C dX11_node_29 rfl ?_
      refine aw_iload C dX11_node_30 rfl ?_
      refine aw_bipush (v := 100) C dX11_node_32 (by decide) ?_
      refine aw_idiv C dX11_node_34 (by decide) ?_
      refine aw_iloadn C dX11_node_35 rfl ?_
      refine aw_iconst (v := 1) C dX11_node_36 (by decide) ?_
      refine aw_callV C dX11_node_37 (t_X11_canBeNode S (y0 / 100) x2 1 _ _ hw) mM_X11_157 bX11_canBeNode (sA_46 S) rfl rfl ⟨Nat.le_of_ble_eq_true rfl, Nat.le_of_ble_eq_true rfl, Nat.zero_le _, Nat.zero_le _⟩ _ rfl (Nat.le_of_ble_eq_true rfl) (fun r37 G23 hq => ?_)
      obtain ⟨v24, rfl, hw⟩ := hq
      refine aw_if_eq C dX11_node_40 88 (by decide) hw (fun hc40 hw => ?_) (fun hc40 hw => ?_)
      · exact aw_msk [true, true, true, true, true, true, true, false, false, false] (h88 x1 x2 x3 x4 x5 y0 _ hw)
      · refine aw_aloadn C dX11_node_43 rfl ?_
        refine aw_iload C dX11_node_44 rfl ?_
        refine aw_bipush (v := 10) C dX11_node_46 (by decide) ?_
        refine aw_idiv C dX11_node_48 (by decide) ?_
        refine aw_bipush (v := 10) C dX11_node_49 (by decide) ?_
        refine aw_irem C dX11_node_51 (by decide) ?_
        refine aw_iloadn C dX11_node_52 rfl ?_
        refine aw_iconst (v := 1) C dX11_node_53 (by decide) ?_
        refine aw_callV C dX11_node_54 (t_X11_canBeNode S ((y0 / 10) - (y0 / 10) / 10 * 10) x3 1 _ _ hw) mM_X11_157 bX11_canBeNode (sA_46 S) rfl rfl ⟨Nat.le_of_ble_eq_true rfl, Nat.le_of_ble_eq_true rfl, Nat.zero_le _, Nat.zero_le _⟩ _ rfl (Nat.le_of_ble_eq_true rfl) (fun r54 G25 hq => ?_)
        obtain ⟨v26, rfl, hw⟩ := hq
        refine aw_if_eq C dX11_node_57 88 (by decide) hw (fun hc57 hw => ?_) (fun hc57 hw => ?_)
        · exact aw_msk [true, true, true, true, true, true, true, false, false, false] (h88 x1 x2 x3 x4 x5 y0 _ hw)
        · refine aw_aloadn C dX11_node_60 rfl ?_
          refine aw_iload C dX11_node_61 rfl ?_
          refine aw_bipush (v := 10) C dX11_node_63 (by decide) ?_
          refine aw_irem C dX11_node_65 (by decide) ?_
          refine aw_iload C dX11_node_66 rfl ?_
          refine aw_iloadn C dX11_node_68 rfl ?_
          refine aw_iconst (v := (-1)) C dX11_node_69 (by decide) ?_
          refine aw_ic_eq C dX11_node_70 77 (by decide) hw (fun hc70 hw => ?_) (fun hc70 hw => ?_)
          · refine aw_iconst (v := 0) C dX11_node_77 (by decide) ?_
            exact aw_msk [true, true, true, true, true, true, true, false, false, false] (h78 x1 x2 x3 x4 x5 y0 (y0 - y0 / 10 * 10) x4 0 _ hw)
          · refine aw_iconst (v := 1) C dX11_node_73 (by decide) ?_
            refine aw_goto (tgt := 78) C dX11_node_74 (by decide) ?_
            exact aw_msk [true, true, true, true, true, true, true, false, false, false] (h78 x1 x2 x3 x4 x5 y0 (y0 - y0 / 10 * 10) x4 1 _ hw)
  unfold w_X11_node at hw
  show aw p l e { frames := 3, cells := 0, slots := 0, locals := 67 } s m args below meth c 10 D tA A (MQ below (QC0 D tA ad A sh (fun r G' => ∃ v, r = some (.int v) ∧ K v G')) args s 0 0 A) 0 0 ad 0 [some (.ref 46), some (.int p0), some (.int p1), some (.int p2), some (.int p3), none, none, none, none, none] [] sh G0
  refine aw_iloadn C dX11_node_0 rfl ?_
  refine aw_iconst (v := 0) C dX11_node_1 (by decide) ?_
  refine aw_bipush (v := 39) C dX11_node_2 (by decide) ?_
  refine aw_callS C dX11_node_4 (t_X11_in p0 0 39 _ _ hw) mM_X11_136 bX11_in rfl rfl ⟨Nat.le_of_ble_eq_true rfl, Nat.le_of_ble_eq_true rfl, Nat.zero_le _, Nat.zero_le _⟩ _ rfl (Nat.le_of_ble_eq_true rfl) (fun r4 G1 hq => ?_)
  obtain ⟨v2, rfl, hw⟩ := hq
  refine aw_istore C dX11_node_7 (by decide) rfl ?_
  refine aw_iload C dX11_node_9 rfl ?_
  refine aw_if_eq C dX11_node_11 21 (by decide) hw (fun hc11 hw => ?_) (fun hc11 hw => ?_)
  · refine aw_iconst (v := 0) C dX11_node_21 (by decide) ?_
    exact aw_msk [true, true, true, true, true, true, false, false, false, false] (h22 p0 p1 p2 p3 v2 0 _ hw)
  · refine aw_iloadn C dX11_node_14 rfl ?_
    refine aw_callS C dX11_node_15 (t_X11_partsOf p0 _ _ hw) mM_X11_153 bX11_partsOf rfl rfl ⟨Nat.le_of_ble_eq_true rfl, Nat.le_of_ble_eq_true rfl, Nat.zero_le _, Nat.zero_le _⟩ _ rfl (Nat.le_of_ble_eq_true rfl) (fun r15 G29 hq => ?_)
    obtain ⟨v30, rfl, hw⟩ := hq
    refine aw_goto (tgt := 22) C dX11_node_18 (by decide) ?_
    exact aw_msk [true, true, true, true, true, true, false, false, false, false] (h22 p0 p1 p2 p3 v2 v30 _ hw)
def w_X11_prepares (K : Gt → Prop) (p0 : Int32) (G0 : Gt) : Prop :=
  w_X11_keeps (fun G1 =>
    pt (gu G1 46 21 0) fun G2 =>
    pt (gu G2 46 29 0) fun G3 =>
    pt (gu G3 46 32 0) fun G4 =>
    pt (gu G4 46 35 0) fun G5 =>
    pt (gu G5 46 47 0) fun G6 =>
    pt (gu G6 46 49 (-1)) fun G7 =>
    pt (gu G7 46 50 0) fun G8 =>
    pt (gu G8 46 51 0) fun G9 =>
    pt (gu G9 46 53 0) fun G10 =>
    pt (gu G10 46 58 0) fun G11 =>
    pt (gu G11 46 59 (G11 46 13)) fun G12 =>
    pt (gu G12 46 62 0) fun G13 =>
    pt (gu G13 46 63 50000) fun G14 =>
    pt (gu G14 46 64 0) fun G15 =>
    w_X11_opens (fun v17 G16 =>
      w_X11_begins (fun v19 G18 =>
        K G18) p0 0 (-1) v17 G16) (-1) G15) G0
set_option maxHeartbeats 4000000 in
set_option maxRecDepth 100000 in
theorem t_X11_prepares {l : Launch} {sh : Sh} (S : shOK sh) (p0 : Int32) (G0 : Gt) (K : Gt → Prop) (hw : w_X11_prepares K p0 G0) : CT0 l yX11_prepares cX11_prepares 3 none 2 49 [.ref 46, .int p0] sh G0 (fun r G' => r = none ∧ K G') := by
  refine CT0_of (by decide) (Nat.le_of_ble_eq_true rfl) rfl ?_
  intro p e s m args below meth c D tA ad A C hr _
  unfold w_X11_prepares at hw
  show aw p l e { frames := 2, cells := 0, slots := 0, locals := 49 } s m args below meth c 3 D tA A (MQ below (QC0 D tA ad A sh (fun r G' => r = none ∧ K G')) args s 0 0 A) 0 0 ad 0 [some (.ref 46), some (.int p0), none] [] sh G0
  refine aw_aloadn C dX11_prepares_0 rfl ?_
  refine aw_callV C dX11_prepares_1 (t_X11_keeps S _ _ hw) mM_X11_401 bX11_keeps (sA_46 S) rfl rfl ⟨Nat.le_of_ble_eq_true rfl, Nat.le_of_ble_eq_true rfl, Nat.zero_le _, Nat.zero_le _⟩ _ rfl (Nat.le_of_ble_eq_true rfl) (fun r1 G1 hq => ?_)
  obtain ⟨rfl, hw⟩ := hq
  refine aw_aloadn C dX11_prepares_4 rfl ?_
  refine aw_iconst (v := 0) C dX11_prepares_5 (by decide) ?_
  refine aw_putI C dX11_prepares_6 kcX11 (sA_46 S) 21 (by decide) rfl mF_X11_190 rfl rfl rfl hw (fun G2 hw => ?_)
  refine aw_aloadn C dX11_prepares_9 rfl ?_
  refine aw_iconst (v := 0) C dX11_prepares_10 (by decide) ?_
  refine aw_putI C dX11_prepares_11 kcX11 (sA_46 S) 29 (by decide) rfl mF_X11_186 rfl rfl rfl hw (fun G3 hw => ?_)
  refine aw_aloadn C dX11_prepares_14 rfl ?_
  refine aw_iconst (v := 0) C dX11_prepares_15 (by decide) ?_
  refine aw_putI C dX11_prepares_16 kcX11 (sA_46 S) 32 (by decide) rfl mF_X11_289 rfl rfl rfl hw (fun G4 hw => ?_)
  refine aw_aloadn C dX11_prepares_19 rfl ?_
  refine aw_iconst (v := 0) C dX11_prepares_20 (by decide) ?_
  refine aw_putI C dX11_prepares_21 kcX11 (sA_46 S) 35 (by decide) rfl mF_X11_292 rfl rfl rfl hw (fun G5 hw => ?_)
  refine aw_aloadn C dX11_prepares_24 rfl ?_
  refine aw_iconst (v := 0) C dX11_prepares_25 (by decide) ?_
  refine aw_putI C dX11_prepares_26 kcX11 (sA_46 S) 47 (by decide) rfl mF_X11_373 rfl rfl rfl hw (fun G6 hw => ?_)
  refine aw_aloadn C dX11_prepares_29 rfl ?_
  refine aw_iconst (v := (-1)) C dX11_prepares_30 (by decide) ?_
  refine aw_putI C dX11_prepares_31 kcX11 (sA_46 S) 49 (by decide) rfl mF_X11_221 rfl rfl rfl hw (fun G7 hw => ?_)
  refine aw_aloadn C dX11_prepares_34 rfl ?_
  refine aw_iconst (v := 0) C dX11_prepares_35 (by decide) ?_
  refine aw_putI C dX11_prepares_36 kcX11 (sA_46 S) 50 (by decide) rfl mF_X11_234 rfl rfl rfl hw (fun G8 hw => ?_)
  refine aw_aloadn C dX11_prepares_39 rfl ?_
  refine aw_iconst (v := 0) C dX11_prepares_40 (by decide) ?_
  refine aw_putI C dX11_prepares_41 kcX11 (sA_46 S) 51 (by decide) rfl mF_X11_241 rfl rfl rfl hw (fun G9 hw => ?_)
  refine aw_aloadn C dX11_prepares_44 rfl ?_
  refine aw_iconst (v := 0) C dX11_prepares_45 (by decide) ?_
  refine aw_putI C dX11_prepares_46 kcX11 (sA_46 S) 53 (by decide) rfl mF_X11_389 rfl rfl rfl hw (fun G10 hw => ?_)
  refine aw_aloadn C dX11_prepares_49 rfl ?_
  refine aw_iconst (v := 0) C dX11_prepares_50 (by decide) ?_
  refine aw_putI C dX11_prepares_51 kcX11 (sA_46 S) 58 (by decide) rfl mF_X11_404 rfl rfl rfl hw (fun G11 hw => ?_)
  refine aw_aloadn C dX11_prepares_54 rfl ?_
  refine aw_aloadn C dX11_prepares_55 rfl ?_
  refine aw_getI C dX11_prepares_56 kcX11 (sA_46 S) 13 (by decide) rfl mF_X11_48 ?_
  refine aw_putI C dX11_prepares_59 kcX11 (sA_46 S) 59 (by decide) rfl mF_X11_407 rfl rfl rfl hw (fun G12 hw => ?_)
  refine aw_aloadn C dX11_prepares_62 rfl ?_
  refine aw_iconst (v := 0) C dX11_prepares_63 (by decide) ?_
  refine aw_putI C dX11_prepares_64 kcX11 (sA_46 S) 62 (by decide) rfl mF_X11_377 rfl rfl rfl hw (fun G13 hw => ?_)
  refine aw_aloadn C dX11_prepares_67 rfl ?_
  refine aw_ldc (v := 50000) C dX11_prepares_68 mK_X11_123 ?_
  refine aw_putI C dX11_prepares_70 kcX11 (sA_46 S) 63 (by decide) rfl mF_X11_392 rfl rfl rfl hw (fun G14 hw => ?_)
  refine aw_aloadn C dX11_prepares_73 rfl ?_
  refine aw_iconst (v := 0) C dX11_prepares_74 (by decide) ?_
  refine aw_putI C dX11_prepares_75 kcX11 (sA_46 S) 64 (by decide) rfl mF_X11_395 rfl rfl rfl hw (fun G15 hw => ?_)
  refine aw_aloadn C dX11_prepares_78 rfl ?_
  refine aw_iloadn C dX11_prepares_79 rfl ?_
  refine aw_iconst (v := 0) C dX11_prepares_80 (by decide) ?_
  refine aw_iconst (v := (-1)) C dX11_prepares_81 (by decide) ?_
  refine aw_aloadn C dX11_prepares_82 rfl ?_
  refine aw_iconst (v := (-1)) C dX11_prepares_83 (by decide) ?_
  refine aw_callV C dX11_prepares_84 (t_X11_opens S (-1) _ _ hw) mM_X11_244 bX11_opens (sA_46 S) rfl rfl ⟨Nat.le_of_ble_eq_true rfl, Nat.le_of_ble_eq_true rfl, Nat.zero_le _, Nat.zero_le _⟩ _ rfl (Nat.le_of_ble_eq_true rfl) (fun r84 G16 hq => ?_)
  obtain ⟨v17, rfl, hw⟩ := hq
  refine aw_callV C dX11_prepares_87 (t_X11_begins S p0 0 (-1) v17 _ _ hw) mM_X11_247 bX11_begins (sA_46 S) rfl rfl ⟨Nat.le_of_ble_eq_true rfl, Nat.le_of_ble_eq_true rfl, Nat.zero_le _, Nat.zero_le _⟩ _ rfl (Nat.le_of_ble_eq_true rfl) (fun r87 G18 hq => ?_)
  obtain ⟨v19, rfl, hw⟩ := hq
  refine aw_istoren C dX11_prepares_90 (by decide) rfl ?_
  exact aw_return C hr dX11_prepares_91 ⟨rfl, hw⟩
def w_X11_callsSlot_j70 (K : Gt → Prop) (y1 : Int32) (y2 : Int32) (G0 : Gt) : Prop :=
  w_X11_fails (fun G2 =>
    K G2) y1 y2 G0
def w_X11_callsSlot_j49 (K : Gt → Prop) (x1 : Int32) (x2 : Int32) (y1 : Int32) (G0 : Gt) : Prop :=
  bz y1 ∧
  pt (gu G0 46 51 y1) fun G1 =>
  vp_in x2 6 ∧
  pif ((G1 54 (x2 : Int32).toNatClampNeg) = (-1)) (
    w_X11_callsSlot_j70 K x1 (-1) G1) (
    w_X11_callsSlot_j70 K x1 (-3) G1)
def w_X11_callsSlot_j48 (K : Gt → Prop) (x1 : Int32) (x2 : Int32) (G0 : Gt) : Prop :=
  w_X11_callsSlot_j49 K x1 x2 0 G0
def w_X11_callsSlot_j20 (K : Gt → Prop) (x1 : Int32) (x2 : Int32) (G0 : Gt) : Prop :=
  pif ((G0 46 51) = 0) (
    w_X11_callsSlot_j48 K x1 x2 G0) (
    vp_in x1 1220 ∧
    vp_in (G0 64 (x1 : Int32).toNatClampNeg) 120 ∧
    pif ((G0 47 ((G0 64 (x1 : Int32).toNatClampNeg) : Int32).toNatClampNeg) = 29) (
      w_X11_callsSlot_j48 K x1 x2 G0) (
      w_X11_callsSlot_j49 K x1 x2 1 G0))
def w_X11_callsSlot_j215 (K : Gt → Prop)  (G0 : Gt) : Prop :=
  K G0
def w_X11_callsSlot_j209 (K : Gt → Prop) (x1 : Int32) (x2 : Int32) (G0 : Gt) : Prop :=
  w_X11_enters (fun G6 =>
    w_X11_callsSlot_j215 K G6) x1 x2 G0
def w_X11_callsSlot_j151 (K : Gt → Prop) (x1 : Int32) (x2 : Int32) (x3 : Int32) (x6 : Int32) (G0 : Gt) : Prop :=
  vp_in x2 6 ∧
  pif ((G0 53 (x2 : Int32).toNatClampNeg) = 2) (
    pif (2 ≤ x3) (
      w_X11_callsSlot_j209 K x1 x2 G0) (
      vp_in x2 6 ∧
      pif ((G0 55 (x2 : Int32).toNatClampNeg) = (-1)) (
        w_X11_callsSlot_j209 K x1 x2 G0) (
        vp_in ((8 * x6) + 1) 4960 ∧
        pt (gu G0 72 (((8 * x6) + 1) : Int32).toNatClampNeg (-100000)) fun G7 =>
        vp_in x2 6 ∧
        w_X11_begins (fun v9 G8 =>
          w_X11_callsSlot_j215 K G8) (G7 55 (x2 : Int32).toNatClampNeg) 3 x1 x6 G7))) (
    w_X11_callsSlot_j209 K x1 x2 G0)
def w_X11_callsSlot_j150 (K : Gt → Prop) (x1 : Int32) (x2 : Int32) (x3 : Int32) (x6 : Int32) (y1 : Int32) (y2 : Int32) (G0 : Gt) : Prop :=
  vp_in y1 4960 ∧
  pt (gu G0 72 (y1 : Int32).toNatClampNeg y2) fun G10 =>
  w_X11_callsSlot_j151 K x1 x2 x3 x6 G10
def w_X11_callsSlot_j118 (K : Gt → Prop) (x1 : Int32) (x2 : Int32) (x3 : Int32) (x5 : Int32) (x6 : Int32) (G0 : Gt) : Prop :=
  vp_in x2 6 ∧
  pif ((G0 53 (x2 : Int32).toNatClampNeg) = 2) (
    pif (x3 ≤ 1) (
      w_X11_callsSlot_j150 K x1 x2 x3 x6 ((8 * x6) + 1) 0 G0) (
      w_X11_callsSlot_j150 K x1 x2 x3 x6 ((8 * x6) + 1) x5 G0)) (
    w_X11_callsSlot_j151 K x1 x2 x3 x6 G0)
def w_X11_callsSlot_j117 (K : Gt → Prop) (x1 : Int32) (x2 : Int32) (x3 : Int32) (x5 : Int32) (x6 : Int32) (y1 : Int32) (y2 : Int32) (G0 : Gt) : Prop :=
  vp_in y1 4960 ∧
  pt (gu G0 72 (y1 : Int32).toNatClampNeg y2) fun G11 =>
  w_X11_callsSlot_j118 K x1 x2 x3 x5 x6 G11
def w_X11_callsSlot (K : Gt → Prop) (p0 : Int32) (p1 : Int32) (p2 : Int32) (p3 : Int32) (p4 : Int32) (G0 : Gt) : Prop :=
  vp_in p1 6 ∧
  pif ((G0 54 (p1 : Int32).toNatClampNeg) = (-1)) (
    w_X11_callsSlot_j20 K p0 p1 G0) (
    vp_in p1 6 ∧
    pif (p2 ≤ (G0 53 (p1 : Int32).toNatClampNeg)) (
      w_X11_opens (fun v4 G3 =>
        vp_in p0 1220 ∧
        pt (gu G3 69 (p0 : Int32).toNatClampNeg v4) fun G5 =>
        vp_in p1 6 ∧
        pif ((G5 53 (p1 : Int32).toNatClampNeg) ≤ 0) (
          w_X11_callsSlot_j118 K p0 p1 p2 p4 v4 G5) (
          pif (p2 ≤ 0) (
            w_X11_callsSlot_j117 K p0 p1 p2 p4 v4 (8 * v4) 0 G5) (
            w_X11_callsSlot_j117 K p0 p1 p2 p4 v4 (8 * v4) p3 G5))) (-1) G0) (
      w_X11_callsSlot_j20 K p0 p1 G0))
set_option maxHeartbeats 4000000 in
set_option maxRecDepth 100000 in
theorem t_X11_callsSlot {l : Launch} {sh : Sh} (S : shOK sh) (p0 : Int32) (p1 : Int32) (p2 : Int32) (p3 : Int32) (p4 : Int32) (G0 : Gt) (K : Gt → Prop) (hw : w_X11_callsSlot K p0 p1 p2 p3 p4 G0) : CT0 l yX11_callsSlot cX11_callsSlot 8 none 3 72 [.ref 46, .int p0, .int p1, .int p2, .int p3, .int p4] sh G0 (fun r G' => r = none ∧ K G') := by
  refine CT0_of (by decide) (Nat.le_of_ble_eq_true rfl) rfl ?_
  intro p e s m args below meth c D tA ad A C hr _
  have h70 : ∀ (y1 : Int32) (y2 : Int32) (G0 : Gt), w_X11_callsSlot_j70 K y1 y2 G0 → aw p l e { frames := 3, cells := 0, slots := 0, locals := 72 } s m args below meth c 8 D tA A (MQ below (QC0 D tA ad A sh (fun r G' => r = none ∧ K G')) args s 0 0 A) 0 0 ad 70 [none, none, none, none, none, none, none, none] [.int y2, .int y1, .ref 46] sh G0 := by
    intro  y1 y2 G0 hw
    unfold w_X11_callsSlot_j70 at hw
    refine aw_callV C dX11_callsSlot_70 (t_X11_fails S y1 y2 _ _ hw) mM_X11_237 bX11_fails (sA_46 S) rfl rfl ⟨Nat.le_of_ble_eq_true rfl, Nat.le_of_ble_eq_true rfl, Nat.zero_le _, Nat.zero_le _⟩ _ rfl (Nat.le_of_ble_eq_true rfl) (fun r70 G2 hq => ?_)
    obtain ⟨rfl, hw⟩ := hq
    exact aw_return C hr dX11_callsSlot_73 ⟨rfl, hw⟩
  have h49 : ∀ (x1 : Int32) (x2 : Int32) (y1 : Int32) (G0 : Gt), w_X11_callsSlot_j49 K x1 x2 y1 G0 → aw p l e { frames := 3, cells := 0, slots := 0, locals := 72 } s m args below meth c 8 D tA A (MQ below (QC0 D tA ad A sh (fun r G' => r = none ∧ K G')) args s 0 0 A) 0 0 ad 49 [some (.ref 46), some (.int x1), some (.int x2), none, none, none, none, none] [.int y1, .ref 46] sh G0 := by
    intro  x1 x2 y1 G0 hw
    unfold w_X11_callsSlot_j49 at hw
    refine aw_putI C dX11_callsSlot_49 kcX11 (sA_46 S) 51 (by decide) rfl mF_X11_241 rfl (bz_n hw.1) (bz_f hw.1) hw.2 (fun G1 hw => ?_)
    refine aw_aloadn C dX11_callsSlot_52 rfl ?_
    refine aw_iloadn C dX11_callsSlot_53 rfl ?_
    refine aw_aloadn C dX11_callsSlot_54 rfl ?_
    refine aw_getR (r := 54) C dX11_callsSlot_55 kcX11 (sA_46 S) 8 (by decide) rfl mF_X11_32 ?_
    refine aw_iloadn C dX11_callsSlot_58 rfl ?_
    refine aw_iald C dX11_callsSlot_59 (sA_54 S) hw.1 ?_
    replace hw := hw.2
    refine aw_iconst (v := (-1)) C dX11_callsSlot_60 (by decide) ?_
    refine aw_ic_ne C dX11_callsSlot_61 68 (by decide) hw (fun hc61 hw => ?_) (fun hc61 hw => ?_)
    · refine aw_bipush (v := (-3)) C dX11_callsSlot_68 (by decide) ?_
      exact aw_msk [false, false, false, false, false, false, false, false] (h70 x1 (-3) _ hw)
    · refine aw_iconst (v := (-1)) C dX11_callsSlot_64 (by decide) ?_
      refine aw_goto (tgt := 70) C dX11_callsSlot_65 (by decide) ?_
      exact aw_msk [false, false, false, false, false, false, false, false] (h70 x1 (-1) _ hw)
  have h48 : ∀ (x1 : Int32) (x2 : Int32) (G0 : Gt), w_X11_callsSlot_j48 K x1 x2 G0 → aw p l e { frames := 3, cells := 0, slots := 0, locals := 72 } s m args below meth c 8 D tA A (MQ below (QC0 D tA ad A sh (fun r G' => r = none ∧ K G')) args s 0 0 A) 0 0 ad 48 [some (.ref 46), some (.int x1), some (.int x2), none, none, none, none, none] [.ref 46] sh G0 := by
    intro  x1 x2 G0 hw
    unfold w_X11_callsSlot_j48 at hw
    refine aw_iconst (v := 0) C dX11_callsSlot_48 (by decide) ?_
    exact aw_msk [true, true, true, false, false, false, false, false] (h49 x1 x2 0 _ hw)
  have h20 : ∀ (x1 : Int32) (x2 : Int32) (G0 : Gt), w_X11_callsSlot_j20 K x1 x2 G0 → aw p l e { frames := 3, cells := 0, slots := 0, locals := 72 } s m args below meth c 8 D tA A (MQ below (QC0 D tA ad A sh (fun r G' => r = none ∧ K G')) args s 0 0 A) 0 0 ad 20 [some (.ref 46), some (.int x1), some (.int x2), none, none, none, none, none] [] sh G0 := by
    intro  x1 x2 G0 hw
    unfold w_X11_callsSlot_j20 at hw
    refine aw_aloadn C dX11_callsSlot_20 rfl ?_
    refine aw_aloadn C dX11_callsSlot_21 rfl ?_
    refine aw_getI C dX11_callsSlot_22 kcX11 (sA_46 S) 51 (by decide) rfl mF_X11_241 ?_
    refine aw_if_eq C dX11_callsSlot_25 48 (by decide) hw (fun hc25 hw => ?_) (fun hc25 hw => ?_)
    · exact aw_msk [true, true, true, false, false, false, false, false] (h48 x1 x2 _ hw)
    · refine aw_aloadn C dX11_callsSlot_28 rfl ?_
      refine aw_getR (r := 47) C dX11_callsSlot_29 kcX11 (sA_46 S) 1 (by decide) rfl mF_X11_7 ?_
      refine aw_aloadn C dX11_callsSlot_32 rfl ?_
      refine aw_getR (r := 64) C dX11_callsSlot_33 kcX11 (sA_46 S) 22 (by decide) rfl mF_X11_69 ?_
      refine aw_iloadn C dX11_callsSlot_36 rfl ?_
      refine aw_iald C dX11_callsSlot_37 (sA_64 S) hw.1 ?_
      replace hw := hw.2
      refine aw_iald C dX11_callsSlot_38 (sA_47 S) hw.1 ?_
      replace hw := hw.2
      refine aw_bipush (v := 29) C dX11_callsSlot_39 (by decide) ?_
      refine aw_ic_eq C dX11_callsSlot_41 48 (by decide) hw (fun hc41 hw => ?_) (fun hc41 hw => ?_)
      · exact aw_msk [true, true, true, false, false, false, false, false] (h48 x1 x2 _ hw)
      · refine aw_iconst (v := 1) C dX11_callsSlot_44 (by decide) ?_
        refine aw_goto (tgt := 49) C dX11_callsSlot_45 (by decide) ?_
        exact aw_msk [true, true, true, false, false, false, false, false] (h49 x1 x2 1 _ hw)
  have h215 : ∀ (G0 : Gt), w_X11_callsSlot_j215 K  G0 → aw p l e { frames := 3, cells := 0, slots := 0, locals := 72 } s m args below meth c 8 D tA A (MQ below (QC0 D tA ad A sh (fun r G' => r = none ∧ K G')) args s 0 0 A) 0 0 ad 215 [none, none, none, none, none, none, none, none] [] sh G0 := by
    intro   G0 hw
    unfold w_X11_callsSlot_j215 at hw
    exact aw_return C hr dX11_callsSlot_215 ⟨rfl, hw⟩
  have h209 : ∀ (x1 : Int32) (x2 : Int32) (G0 : Gt), w_X11_callsSlot_j209 K x1 x2 G0 → aw p l e { frames := 3, cells := 0, slots := 0, locals := 72 } s m args below meth c 8 D tA A (MQ below (QC0 D tA ad A sh (fun r G' => r = none ∧ K G')) args s 0 0 A) 0 0 ad 209 [some (.ref 46), some (.int x1), some (.int x2), none, none, none, none, none] [] sh G0 := by
    intro  x1 x2 G0 hw
    unfold w_X11_callsSlot_j209 at hw
    refine aw_aloadn C dX11_callsSlot_209 rfl ?_
    refine aw_iloadn C dX11_callsSlot_210 rfl ?_
    refine aw_iloadn C dX11_callsSlot_211 rfl ?_
    refine aw_callV C dX11_callsSlot_212 (t_X11_enters S x1 x2 _ _ hw) mM_X11_250 bX11_enters (sA_46 S) rfl rfl ⟨Nat.le_of_ble_eq_true rfl, Nat.le_of_ble_eq_true rfl, Nat.zero_le _, Nat.zero_le _⟩ _ rfl (Nat.le_of_ble_eq_true rfl) (fun r212 G6 hq => ?_)
    obtain ⟨rfl, hw⟩ := hq
    exact aw_msk [false, false, false, false, false, false, false, false] (h215 _ hw)
  have h151 : ∀ (x1 : Int32) (x2 : Int32) (x3 : Int32) (x6 : Int32) (G0 : Gt), w_X11_callsSlot_j151 K x1 x2 x3 x6 G0 → aw p l e { frames := 3, cells := 0, slots := 0, locals := 72 } s m args below meth c 8 D tA A (MQ below (QC0 D tA ad A sh (fun r G' => r = none ∧ K G')) args s 0 0 A) 0 0 ad 151 [some (.ref 46), some (.int x1), some (.int x2), some (.int x3), none, none, some (.int x6), none] [] sh G0 := by
    intro  x1 x2 x3 x6 G0 hw
    unfold w_X11_callsSlot_j151 at hw
    refine aw_aloadn C dX11_callsSlot_151 rfl ?_
    refine aw_getR (r := 53) C dX11_callsSlot_152 kcX11 (sA_46 S) 7 (by decide) rfl mF_X11_29 ?_
    refine aw_iloadn C dX11_callsSlot_155 rfl ?_
    refine aw_iald C dX11_callsSlot_156 (sA_53 S) hw.1 ?_
    replace hw := hw.2
    refine aw_iconst (v := 2) C dX11_callsSlot_157 (by decide) ?_
    refine aw_ic_ne C dX11_callsSlot_158 209 (by decide) hw (fun hc158 hw => ?_) (fun hc158 hw => ?_)
    · exact aw_msk [true, true, true, false, false, false, false, false] (h209 x1 x2 _ hw)
    · refine aw_iloadn C dX11_callsSlot_161 rfl ?_
      refine aw_iconst (v := 2) C dX11_callsSlot_162 (by decide) ?_
      refine aw_ic_ge C dX11_callsSlot_163 209 (by decide) hw (fun hc163 hw => ?_) (fun hc163 hw => ?_)
      · exact aw_msk [true, true, true, false, false, false, false, false] (h209 x1 x2 _ hw)
      · refine aw_aloadn C dX11_callsSlot_166 rfl ?_
        refine aw_getR (r := 55) C dX11_callsSlot_167 kcX11 (sA_46 S) 9 (by decide) rfl mF_X11_35 ?_
        refine aw_iloadn C dX11_callsSlot_170 rfl ?_
        refine aw_iald C dX11_callsSlot_171 (sA_55 S) hw.1 ?_
        replace hw := hw.2
        refine aw_iconst (v := (-1)) C dX11_callsSlot_172 (by decide) ?_
        refine aw_ic_eq C dX11_callsSlot_173 209 (by decide) hw (fun hc173 hw => ?_) (fun hc173 hw => ?_)
        · exact aw_msk [true, true, true, false, false, false, false, false] (h209 x1 x2 _ hw)
        · refine aw_aloadn C dX11_callsSlot_176 rfl ?_
          refine aw_getR (r := 72) C dX11_callsSlot_177 kcX11 (sA_46 S) 31 (by decide) rfl mF_X11_93 ?_
          refine aw_bipush (v := 8) C dX11_callsSlot_180 (by decide) ?_
          refine aw_iload C dX11_callsSlot_182 rfl ?_
          refine aw_imul C dX11_callsSlot_184 ?_
          refine aw_iconst (v := 1) C dX11_callsSlot_185 (by decide) ?_
          refine aw_iadd C dX11_callsSlot_186 ?_
          refine aw_ldc (v := (-100000)) C dX11_callsSlot_187 mK_X11_189 ?_
          refine aw_iast C dX11_callsSlot_189 (sA_72 S) hw.1 hw.2 (fun G7 hw => ?_)
          refine aw_aloadn C dX11_callsSlot_190 rfl ?_
          refine aw_aloadn C dX11_callsSlot_191 rfl ?_
          refine aw_getR (r := 55) C dX11_callsSlot_192 kcX11 (sA_46 S) 9 (by decide) rfl mF_X11_35 ?_
          refine aw_iloadn C dX11_callsSlot_195 rfl ?_
          refine aw_iald C dX11_callsSlot_196 (sA_55 S) hw.1 ?_
          replace hw := hw.2
          refine aw_iconst (v := 3) C dX11_callsSlot_197 (by decide) ?_
          refine aw_iloadn C dX11_callsSlot_198 rfl ?_
          refine aw_iload C dX11_callsSlot_199 rfl ?_
          refine aw_callV C dX11_callsSlot_201 (t_X11_begins S (G7 55 (x2 : Int32).toNatClampNeg) 3 x1 x6 _ _ hw) mM_X11_247 bX11_begins (sA_46 S) rfl rfl ⟨Nat.le_of_ble_eq_true rfl, Nat.le_of_ble_eq_true rfl, Nat.zero_le _, Nat.zero_le _⟩ _ rfl (Nat.le_of_ble_eq_true rfl) (fun r201 G8 hq => ?_)
          obtain ⟨v9, rfl, hw⟩ := hq
          refine aw_istore C dX11_callsSlot_204 (by decide) rfl ?_
          refine aw_goto (tgt := 215) C dX11_callsSlot_206 (by decide) ?_
          exact aw_msk [false, false, false, false, false, false, false, false] (h215 _ hw)
  have h150 : ∀ (x1 : Int32) (x2 : Int32) (x3 : Int32) (x6 : Int32) (y1 : Int32) (y2 : Int32) (G0 : Gt), w_X11_callsSlot_j150 K x1 x2 x3 x6 y1 y2 G0 → aw p l e { frames := 3, cells := 0, slots := 0, locals := 72 } s m args below meth c 8 D tA A (MQ below (QC0 D tA ad A sh (fun r G' => r = none ∧ K G')) args s 0 0 A) 0 0 ad 150 [some (.ref 46), some (.int x1), some (.int x2), some (.int x3), none, none, some (.int x6), none] [.int y2, .int y1, .ref 72] sh G0 := by
    intro  x1 x2 x3 x6 y1 y2 G0 hw
    unfold w_X11_callsSlot_j150 at hw
    refine aw_iast C dX11_callsSlot_150 (sA_72 S) hw.1 hw.2 (fun G10 hw => ?_)
    exact aw_msk [true, true, true, true, false, false, true, false] (h151 x1 x2 x3 x6 _ hw)
  have h118 : ∀ (x1 : Int32) (x2 : Int32) (x3 : Int32) (x5 : Int32) (x6 : Int32) (G0 : Gt), w_X11_callsSlot_j118 K x1 x2 x3 x5 x6 G0 → aw p l e { frames := 3, cells := 0, slots := 0, locals := 72 } s m args below meth c 8 D tA A (MQ below (QC0 D tA ad A sh (fun r G' => r = none ∧ K G')) args s 0 0 A) 0 0 ad 118 [some (.ref 46), some (.int x1), some (.int x2), some (.int x3), none, some (.int x5), some (.int x6), none] [] sh G0 := by
    intro  x1 x2 x3 x5 x6 G0 hw
    unfold w_X11_callsSlot_j118 at hw
    refine aw_aloadn C dX11_callsSlot_118 rfl ?_
    refine aw_getR (r := 53) C dX11_callsSlot_119 kcX11 (sA_46 S) 7 (by decide) rfl mF_X11_29 ?_
    refine aw_iloadn C dX11_callsSlot_122 rfl ?_
    refine aw_iald C dX11_callsSlot_123 (sA_53 S) hw.1 ?_
    replace hw := hw.2
    refine aw_iconst (v := 2) C dX11_callsSlot_124 (by decide) ?_
    refine aw_ic_ne C dX11_callsSlot_125 151 (by decide) hw (fun hc125 hw => ?_) (fun hc125 hw => ?_)
    · exact aw_msk [true, true, true, true, false, false, true, false] (h151 x1 x2 x3 x6 _ hw)
    · refine aw_aloadn C dX11_callsSlot_128 rfl ?_
      refine aw_getR (r := 72) C dX11_callsSlot_129 kcX11 (sA_46 S) 31 (by decide) rfl mF_X11_93 ?_
      refine aw_bipush (v := 8) C dX11_callsSlot_132 (by decide) ?_
      refine aw_iload C dX11_callsSlot_134 rfl ?_
      refine aw_imul C dX11_callsSlot_136 ?_
      refine aw_iconst (v := 1) C dX11_callsSlot_137 (by decide) ?_
      refine aw_iadd C dX11_callsSlot_138 ?_
      refine aw_iloadn C dX11_callsSlot_139 rfl ?_
      refine aw_iconst (v := 1) C dX11_callsSlot_140 (by decide) ?_
      refine aw_ic_le C dX11_callsSlot_141 149 (by decide) hw (fun hc141 hw => ?_) (fun hc141 hw => ?_)
      · refine aw_iconst (v := 0) C dX11_callsSlot_149 (by decide) ?_
        exact aw_msk [true, true, true, true, false, false, true, false] (h150 x1 x2 x3 x6 ((8 * x6) + 1) 0 _ hw)
      · refine aw_iload C dX11_callsSlot_144 rfl ?_
        refine aw_goto (tgt := 150) C dX11_callsSlot_146 (by decide) ?_
        exact aw_msk [true, true, true, true, false, false, true, false] (h150 x1 x2 x3 x6 ((8 * x6) + 1) x5 _ hw)
  have h117 : ∀ (x1 : Int32) (x2 : Int32) (x3 : Int32) (x5 : Int32) (x6 : Int32) (y1 : Int32) (y2 : Int32) (G0 : Gt), w_X11_callsSlot_j117 K x1 x2 x3 x5 x6 y1 y2 G0 → aw p l e { frames := 3, cells := 0, slots := 0, locals := 72 } s m args below meth c 8 D tA A (MQ below (QC0 D tA ad A sh (fun r G' => r = none ∧ K G')) args s 0 0 A) 0 0 ad 117 [some (.ref 46), some (.int x1), some (.int x2), some (.int x3), none, some (.int x5), some (.int x6), none] [.int y2, .int y1, .ref 72] sh G0 := by
    intro  x1 x2 x3 x5 x6 y1 y2 G0 hw
    unfold w_X11_callsSlot_j117 at hw
    refine aw_iast C dX11_callsSlot_117 (sA_72 S) hw.1 hw.2 (fun G11 hw => ?_)
    exact aw_msk [true, true, true, true, false, true, true, false] (h118 x1 x2 x3 x5 x6 _ hw)
  unfold w_X11_callsSlot at hw
  show aw p l e { frames := 3, cells := 0, slots := 0, locals := 72 } s m args below meth c 8 D tA A (MQ below (QC0 D tA ad A sh (fun r G' => r = none ∧ K G')) args s 0 0 A) 0 0 ad 0 [some (.ref 46), some (.int p0), some (.int p1), some (.int p2), some (.int p3), some (.int p4), none, none] [] sh G0
  refine aw_aloadn C dX11_callsSlot_0 rfl ?_
  refine aw_getR (r := 54) C dX11_callsSlot_1 kcX11 (sA_46 S) 8 (by decide) rfl mF_X11_32 ?_
  refine aw_iloadn C dX11_callsSlot_4 rfl ?_
  refine aw_iald C dX11_callsSlot_5 (sA_54 S) hw.1 ?_
  replace hw := hw.2
  refine aw_iconst (v := (-1)) C dX11_callsSlot_6 (by decide) ?_
  refine aw_ic_eq C dX11_callsSlot_7 20 (by decide) hw (fun hc7 hw => ?_) (fun hc7 hw => ?_)
  · exact aw_msk [true, true, true, false, false, false, false, false] (h20 p0 p1 _ hw)
  · refine aw_iloadn C dX11_callsSlot_10 rfl ?_
    refine aw_aloadn C dX11_callsSlot_11 rfl ?_
    refine aw_getR (r := 53) C dX11_callsSlot_12 kcX11 (sA_46 S) 7 (by decide) rfl mF_X11_29 ?_
    refine aw_iloadn C dX11_callsSlot_15 rfl ?_
    refine aw_iald C dX11_callsSlot_16 (sA_53 S) hw.1 ?_
    replace hw := hw.2
    refine aw_ic_le C dX11_callsSlot_17 74 (by decide) hw (fun hc17 hw => ?_) (fun hc17 hw => ?_)
    · refine aw_aloadn C dX11_callsSlot_74 rfl ?_
      refine aw_iconst (v := (-1)) C dX11_callsSlot_75 (by decide) ?_
      refine aw_callV C dX11_callsSlot_76 (t_X11_opens S (-1) _ _ hw) mM_X11_244 bX11_opens (sA_46 S) rfl rfl ⟨Nat.le_of_ble_eq_true rfl, Nat.le_of_ble_eq_true rfl, Nat.zero_le _, Nat.zero_le _⟩ _ rfl (Nat.le_of_ble_eq_true rfl) (fun r76 G3 hq => ?_)
      obtain ⟨v4, rfl, hw⟩ := hq
      refine aw_istore C dX11_callsSlot_79 (by decide) rfl ?_
      refine aw_aloadn C dX11_callsSlot_81 rfl ?_
      refine aw_getR (r := 69) C dX11_callsSlot_82 kcX11 (sA_46 S) 27 (by decide) rfl mF_X11_84 ?_
      refine aw_iloadn C dX11_callsSlot_85 rfl ?_
      refine aw_iload C dX11_callsSlot_86 rfl ?_
      refine aw_iast C dX11_callsSlot_88 (sA_69 S) hw.1 hw.2 (fun G5 hw => ?_)
      refine aw_aloadn C dX11_callsSlot_89 rfl ?_
      refine aw_getR (r := 53) C dX11_callsSlot_90 kcX11 (sA_46 S) 7 (by decide) rfl mF_X11_29 ?_
      refine aw_iloadn C dX11_callsSlot_93 rfl ?_
      refine aw_iald C dX11_callsSlot_94 (sA_53 S) hw.1 ?_
      replace hw := hw.2
      refine aw_if_le C dX11_callsSlot_95 118 (by decide) hw (fun hc95 hw => ?_) (fun hc95 hw => ?_)
      · exact aw_msk [true, true, true, true, false, true, true, false] (h118 p0 p1 p2 p4 v4 _ hw)
      · refine aw_aloadn C dX11_callsSlot_98 rfl ?_
        refine aw_getR (r := 72) C dX11_callsSlot_99 kcX11 (sA_46 S) 31 (by decide) rfl mF_X11_93 ?_
        refine aw_bipush (v := 8) C dX11_callsSlot_102 (by decide) ?_
        refine aw_iload C dX11_callsSlot_104 rfl ?_
        refine aw_imul C dX11_callsSlot_106 ?_
        refine aw_iloadn C dX11_callsSlot_107 rfl ?_
        refine aw_if_le C dX11_callsSlot_108 116 (by decide) hw (fun hc108 hw => ?_) (fun hc108 hw => ?_)
        · refine aw_iconst (v := 0) C dX11_callsSlot_116 (by decide) ?_
          exact aw_msk [true, true, true, true, false, true, true, false] (h117 p0 p1 p2 p4 v4 (8 * v4) 0 _ hw)
        · refine aw_iload C dX11_callsSlot_111 rfl ?_
          refine aw_goto (tgt := 117) C dX11_callsSlot_113 (by decide) ?_
          exact aw_msk [true, true, true, true, false, true, true, false] (h117 p0 p1 p2 p4 v4 (8 * v4) p3 _ hw)
    · exact aw_msk [true, true, true, false, false, false, false, false] (h20 p0 p1 _ hw)
