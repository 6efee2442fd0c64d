def w_X11_bodyEnds_j256 (K : Gt → Prop)  (G0 : Gt) : Prop :=
  K G0
def w_X11_bodyEnds_j158 (K : Gt → Prop) (y1 : Int32) (y2 : Int32) (G0 : Gt) : Prop :=
  w_X11_ends (fun G7 =>
    w_X11_bodyEnds_j256 K G7) y1 y2 G0
def w_X11_bodyEnds_j113 (K : Gt → Prop) (x2 : Int32) (x3 : Int32) (y1 : Int32) (G0 : Gt) : Prop :=
  bz y1 ∧
  pt (gu G0 46 51 y1) fun G4 =>
  w_X11_comesBack (fun G5 =>
    vp_in x2 1220 ∧
    pt (gu G5 46 57 (G5 65 (x2 : Int32).toNatClampNeg)) fun G6 =>
    pif ((G6 46 41) = 2) (
      w_X11_bodyEnds_j256 K G6) (
      pif (x3 = 0) (
        w_X11_bodyEnds_j158 K x2 (G6 46 42) G6) (
        vp_in x2 1220 ∧
        w_X11_bodyEnds_j158 K x2 (G6 68 (x2 : Int32).toNatClampNeg) G6))) x2 G4
def w_X11_bodyEnds_j112 (K : Gt → Prop) (x2 : Int32) (x3 : Int32) (G0 : Gt) : Prop :=
  w_X11_bodyEnds_j113 K x2 x3 0 G0
def w_X11_bodyEnds_j95 (K : Gt → Prop) (x2 : Int32) (y0 : Int32) (G0 : Gt) : Prop :=
  pif ((G0 46 51) = 0) (
    w_X11_bodyEnds_j112 K x2 y0 G0) (
    pif (y0 = 0) (
      w_X11_bodyEnds_j113 K x2 y0 1 G0) (
      w_X11_bodyEnds_j112 K x2 y0 G0))
def w_X11_bodyEnds_j201 (K : Gt → Prop) (x2 : Int32) (y1 : Int32) (G0 : Gt) : Prop :=
  bz y1 ∧
  pt (gu G0 46 51 y1) fun G12 =>
  vp_in x2 1220 ∧
  pt (gu G12 46 57 (G12 65 (x2 : Int32).toNatClampNeg)) fun G13 =>
  w_X11_bodyEnds_j256 K G13
def w_X11_bodyEnds_j200 (K : Gt → Prop) (x2 : Int32) (G0 : Gt) : Prop :=
  w_X11_bodyEnds_j201 K x2 0 G0
def w_X11_bodyEnds_j250 (K : Gt → Prop) (x1 : Int32) (x2 : Int32) (G0 : Gt) : Prop :=
  w_X11_generatorEnds (fun G14 =>
    w_X11_bodyEnds_j256 K G14) x1 x2 G0
def w_X11_bodyEnds (K : Gt → Prop) (p0 : Int32) (G0 : Gt) : Prop :=
  vp_in p0 1220 ∧
  vp_in p0 1220 ∧
  pif ((G0 67 (p0 : Int32).toNatClampNeg) = 0) (
    pif ((G0 46 41) = 2) (
      w_X11_stops (fun G3 =>
        w_X11_bodyEnds_j256 K G3) G0) (
      pt (gu G0 46 62 (G0 46 42)) fun G1 =>
      w_X11_closes (fun G2 =>
        w_X11_bodyEnds_j256 K G2) G1)) (
  pif ((G0 67 (p0 : Int32).toNatClampNeg) = 1) (
    vp_in (G0 65 (p0 : Int32).toNatClampNeg) 1220 ∧
    vp_in (G0 64 ((G0 65 (p0 : Int32).toNatClampNeg) : Int32).toNatClampNeg) 120 ∧
    pif ((G0 47 ((G0 64 ((G0 65 (p0 : Int32).toNatClampNeg) : Int32).toNatClampNeg) : Int32).toNatClampNeg) = 29) (
      w_X11_bodyEnds_j95 K (G0 65 (p0 : Int32).toNatClampNeg) 1 G0) (
      w_X11_bodyEnds_j95 K (G0 65 (p0 : Int32).toNatClampNeg) 0 G0)) (
  pif ((G0 67 (p0 : Int32).toNatClampNeg) = 3) (
    pif ((G0 46 41) = 2) (
      pif ((G0 46 51) = 0) (
        w_X11_bodyEnds_j200 K (G0 65 (p0 : Int32).toNatClampNeg) G0) (
        vp_in (G0 65 (p0 : Int32).toNatClampNeg) 1220 ∧
        vp_in (G0 64 ((G0 65 (p0 : Int32).toNatClampNeg) : Int32).toNatClampNeg) 120 ∧
        pif ((G0 47 ((G0 64 ((G0 65 (p0 : Int32).toNatClampNeg) : Int32).toNatClampNeg) : Int32).toNatClampNeg) = 29) (
          w_X11_bodyEnds_j200 K (G0 65 (p0 : Int32).toNatClampNeg) G0) (
          w_X11_bodyEnds_j201 K (G0 65 (p0 : Int32).toNatClampNeg) 1 G0))) (
      vp_in (G0 65 (p0 : Int32).toNatClampNeg) 1220 ∧
      vp_in ((8 * (G0 69 ((G0 65 (p0 : Int32).toNatClampNeg) : Int32).toNatClampNeg)) + 1) 4960 ∧
      pt (gu G0 72 (((8 * (G0 69 ((G0 65 (p0 : Int32).toNatClampNeg) : Int32).toNatClampNeg)) + 1) : Int32).toNatClampNeg (G0 46 42)) fun G8 =>
      w_X11_slotOf (fun v10 G9 =>
        w_X11_enters (fun G11 =>
          w_X11_bodyEnds_j256 K G11) (G0 65 (p0 : Int32).toNatClampNeg) v10 G9) (G0 65 (p0 : Int32).toNatClampNeg) G8)) (
    w_X11_bodyEnds_j250 K p0 (G0 65 (p0 : Int32).toNatClampNeg) G0)))
set_option maxHeartbeats 4000000 in
set_option maxRecDepth 100000 in
theorem t_X11_bodyEnds {l : Launch} {sh : Sh} (S : shOK sh) (p0 : Int32) (G0 : Gt) (K : Gt → Prop) (hw : w_X11_bodyEnds K p0 G0) : CT0 l yX11_bodyEnds cX11_bodyEnds 4 none 3 72 [.ref 46, .int p0] sh G0 (fun r G' => r = none ∧ K G') := by
  refine CT0_of (by decide) (Nat.le_of_ble_eq_true rfl) rfl ?_
  intro p e s m args below meth c D tA ad A C hr _
  have h256 : ∀ (G0 : Gt), w_X11_bodyEnds_j256 K  G0 → aw p l e { frames := 3, cells := 0, slots := 0, locals := 72 } s m args below meth c 4 D tA A (MQ below (QC0 D tA ad A sh (fun r G' => r = none ∧ K G')) args s 0 0 A) 0 0 ad 256 [none, none, none, none] [] sh G0 := by
    intro   G0 hw
    unfold w_X11_bodyEnds_j256 at hw
    exact aw_return C hr dX11_bodyEnds_256 ⟨rfl, hw⟩
  have h158 : ∀ (y1 : Int32) (y2 : Int32) (G0 : Gt), w_X11_bodyEnds_j158 K y1 y2 G0 → aw p l e { frames := 3, cells := 0, slots := 0, locals := 72 } s m args below meth c 4 D tA A (MQ below (QC0 D tA ad A sh (fun r G' => r = none ∧ K G')) args s 0 0 A) 0 0 ad 158 [none, none, none, none] [.int y2, .int y1, .ref 46] sh G0 := by
    intro  y1 y2 G0 hw
    unfold w_X11_bodyEnds_j158 at hw
    refine aw_callV C dX11_bodyEnds_158 (t_X11_ends S y1 y2 _ _ hw) mM_X11_262 bX11_ends (sA_46 S) rfl rfl ⟨Nat.le_of_ble_eq_true rfl, Nat.le_of_ble_eq_true rfl, Nat.zero_le _, Nat.zero_le _⟩ _ rfl (Nat.le_of_ble_eq_true rfl) (fun r158 G7 hq => ?_)
    obtain ⟨rfl, hw⟩ := hq
    refine aw_goto (tgt := 256) C dX11_bodyEnds_161 (by decide) ?_
    exact aw_msk [false, false, false, false] (h256 _ hw)
  have h113 : ∀ (x2 : Int32) (x3 : Int32) (y1 : Int32) (G0 : Gt), w_X11_bodyEnds_j113 K x2 x3 y1 G0 → aw p l e { frames := 3, cells := 0, slots := 0, locals := 72 } s m args below meth c 4 D tA A (MQ below (QC0 D tA ad A sh (fun r G' => r = none ∧ K G')) args s 0 0 A) 0 0 ad 113 [some (.ref 46), none, some (.int x2), some (.int x3)] [.int y1, .ref 46] sh G0 := by
    intro  x2 x3 y1 G0 hw
    unfold w_X11_bodyEnds_j113 at hw
    refine aw_putI C dX11_bodyEnds_113 kcX11 (sA_46 S) 51 (by decide) rfl mF_X11_241 rfl (bz_n hw.1) (bz_f hw.1) hw.2 (fun G4 hw => ?_)
    refine aw_aloadn C dX11_bodyEnds_116 rfl ?_
    refine aw_iloadn C dX11_bodyEnds_117 rfl ?_
    refine aw_callV C dX11_bodyEnds_118 (t_X11_comesBack S x2 _ _ hw) mM_X11_337 bX11_comesBack (sA_46 S) rfl rfl ⟨Nat.le_of_ble_eq_true rfl, Nat.le_of_ble_eq_true rfl, Nat.zero_le _, Nat.zero_le _⟩ _ rfl (Nat.le_of_ble_eq_true rfl) (fun r118 G5 hq => ?_)
    obtain ⟨rfl, hw⟩ := hq
    refine aw_aloadn C dX11_bodyEnds_121 rfl ?_
    refine aw_aloadn C dX11_bodyEnds_122 rfl ?_
    refine aw_getR (r := 65) C dX11_bodyEnds_123 kcX11 (sA_46 S) 23 (by decide) rfl mF_X11_72 ?_
    refine aw_iloadn C dX11_bodyEnds_126 rfl ?_
    refine aw_iald C dX11_bodyEnds_127 (sA_65 S) hw.1 ?_
    replace hw := hw.2
    refine aw_putI C dX11_bodyEnds_128 kcX11 (sA_46 S) 57 (by decide) rfl mF_X11_212 rfl rfl rfl hw (fun G6 hw => ?_)
    refine aw_aloadn C dX11_bodyEnds_131 rfl ?_
    refine aw_getI C dX11_bodyEnds_132 kcX11 (sA_46 S) 41 (by decide) rfl mF_X11_202 ?_
    refine aw_iconst (v := 2) C dX11_bodyEnds_135 (by decide) ?_
    refine aw_ic_eq C dX11_bodyEnds_136 256 (by decide) hw (fun hc136 hw => ?_) (fun hc136 hw => ?_)
    · exact aw_msk [false, false, false, false] (h256 _ hw)
    · refine aw_aloadn C dX11_bodyEnds_139 rfl ?_
      refine aw_iloadn C dX11_bodyEnds_140 rfl ?_
      refine aw_iloadn C dX11_bodyEnds_141 rfl ?_
      refine aw_if_eq C dX11_bodyEnds_142 154 (by decide) hw (fun hc142 hw => ?_) (fun hc142 hw => ?_)
      · refine aw_aloadn C dX11_bodyEnds_154 rfl ?_
        refine aw_getI C dX11_bodyEnds_155 kcX11 (sA_46 S) 42 (by decide) rfl mF_X11_209 ?_
        exact aw_msk [false, false, false, false] (h158 x2 (G6 46 42) _ hw)
      · refine aw_aloadn C dX11_bodyEnds_145 rfl ?_
        refine aw_getR (r := 68) C dX11_bodyEnds_146 kcX11 (sA_46 S) 26 (by decide) rfl mF_X11_81 ?_
        refine aw_iloadn C dX11_bodyEnds_149 rfl ?_
        refine aw_iald C dX11_bodyEnds_150 (sA_68 S) hw.1 ?_
        replace hw := hw.2
        refine aw_goto (tgt := 158) C dX11_bodyEnds_151 (by decide) ?_
        exact aw_msk [false, false, false, false] (h158 x2 (G6 68 (x2 : Int32).toNatClampNeg) _ hw)
  have h112 : ∀ (x2 : Int32) (x3 : Int32) (G0 : Gt), w_X11_bodyEnds_j112 K x2 x3 G0 → aw p l e { frames := 3, cells := 0, slots := 0, locals := 72 } s m args below meth c 4 D tA A (MQ below (QC0 D tA ad A sh (fun r G' => r = none ∧ K G')) args s 0 0 A) 0 0 ad 112 [some (.ref 46), none, some (.int x2), some (.int x3)] [.ref 46] sh G0 := by
    intro  x2 x3 G0 hw
    unfold w_X11_bodyEnds_j112 at hw
    refine aw_iconst (v := 0) C dX11_bodyEnds_112 (by decide) ?_
    exact aw_msk [true, false, true, true] (h113 x2 x3 0 _ hw)
  have h95 : ∀ (x2 : Int32) (y0 : Int32) (G0 : Gt), w_X11_bodyEnds_j95 K x2 y0 G0 → aw p l e { frames := 3, cells := 0, slots := 0, locals := 72 } s m args below meth c 4 D tA A (MQ below (QC0 D tA ad A sh (fun r G' => r = none ∧ K G')) args s 0 0 A) 0 0 ad 95 [some (.ref 46), none, some (.int x2), none] [.int y0] sh G0 := by
    intro  x2 y0 G0 hw
    unfold w_X11_bodyEnds_j95 at hw
    refine aw_istoren C dX11_bodyEnds_95 (by decide) rfl ?_
    refine aw_aloadn C dX11_bodyEnds_96 rfl ?_
    refine aw_aloadn C dX11_bodyEnds_97 rfl ?_
    refine aw_getI C dX11_bodyEnds_98 kcX11 (sA_46 S) 51 (by decide) rfl mF_X11_241 ?_
    refine aw_if_eq C dX11_bodyEnds_101 112 (by decide) hw (fun hc101 hw => ?_) (fun hc101 hw => ?_)
    · exact aw_msk [true, false, true, true] (h112 x2 y0 _ hw)
    · refine aw_iloadn C dX11_bodyEnds_104 rfl ?_
      refine aw_if_ne C dX11_bodyEnds_105 112 (by decide) hw (fun hc105 hw => ?_) (fun hc105 hw => ?_)
      · exact aw_msk [true, false, true, true] (h112 x2 y0 _ hw)
      · refine aw_iconst (v := 1) C dX11_bodyEnds_108 (by decide) ?_
        refine aw_goto (tgt := 113) C dX11_bodyEnds_109 (by decide) ?_
        exact aw_msk [true, false, true, true] (h113 x2 y0 1 _ hw)
  have h201 : ∀ (x2 : Int32) (y1 : Int32) (G0 : Gt), w_X11_bodyEnds_j201 K x2 y1 G0 → aw p l e { frames := 3, cells := 0, slots := 0, locals := 72 } s m args below meth c 4 D tA A (MQ below (QC0 D tA ad A sh (fun r G' => r = none ∧ K G')) args s 0 0 A) 0 0 ad 201 [some (.ref 46), none, some (.int x2), none] [.int y1, .ref 46] sh G0 := by
    intro  x2 y1 G0 hw
    unfold w_X11_bodyEnds_j201 at hw
    refine aw_putI C dX11_bodyEnds_201 kcX11 (sA_46 S) 51 (by decide) rfl mF_X11_241 rfl (bz_n hw.1) (bz_f hw.1) hw.2 (fun G12 hw => ?_)
    refine aw_aloadn C dX11_bodyEnds_204 rfl ?_
    refine aw_aloadn C dX11_bodyEnds_205 rfl ?_
    refine aw_getR (r := 65) C dX11_bodyEnds_206 kcX11 (sA_46 S) 23 (by decide) rfl mF_X11_72 ?_
    refine aw_iloadn C dX11_bodyEnds_209 rfl ?_
    refine aw_iald C dX11_bodyEnds_210 (sA_65 S) hw.1 ?_
    replace hw := hw.2
    refine aw_putI C dX11_bodyEnds_211 kcX11 (sA_46 S) 57 (by decide) rfl mF_X11_212 rfl rfl rfl hw (fun G13 hw => ?_)
    refine aw_goto (tgt := 256) C dX11_bodyEnds_214 (by decide) ?_
    exact aw_msk [false, false, false, false] (h256 _ hw)
  have h200 : ∀ (x2 : Int32) (G0 : Gt), w_X11_bodyEnds_j200 K x2 G0 → aw p l e { frames := 3, cells := 0, slots := 0, locals := 72 } s m args below meth c 4 D tA A (MQ below (QC0 D tA ad A sh (fun r G' => r = none ∧ K G')) args s 0 0 A) 0 0 ad 200 [some (.ref 46), none, some (.int x2), none] [.ref 46] sh G0 := by
    intro  x2 G0 hw
    unfold w_X11_bodyEnds_j200 at hw
    refine aw_iconst (v := 0) C dX11_bodyEnds_200 (by decide) ?_
    exact aw_msk [true, false, true, false] (h201 x2 0 _ hw)
  have h250 : ∀ (x1 : Int32) (x2 : Int32) (G0 : Gt), w_X11_bodyEnds_j250 K x1 x2 G0 → aw p l e { frames := 3, cells := 0, slots := 0, locals := 72 } s m args below meth c 4 D tA A (MQ below (QC0 D tA ad A sh (fun r G' => r = none ∧ K G')) args s 0 0 A) 0 0 ad 250 [some (.ref 46), some (.int x1), some (.int x2), none] [] sh G0 := by
    intro  x1 x2 G0 hw
    unfold w_X11_bodyEnds_j250 at hw
    refine aw_aloadn C dX11_bodyEnds_250 rfl ?_
    refine aw_iloadn C dX11_bodyEnds_251 rfl ?_
    refine aw_iloadn C dX11_bodyEnds_252 rfl ?_
    refine aw_callV C dX11_bodyEnds_253 (t_X11_generatorEnds S x1 x2 _ _ hw) mM_X11_386 bX11_generatorEnds (sA_46 S) rfl rfl ⟨Nat.le_of_ble_eq_true rfl, Nat.le_of_ble_eq_true rfl, Nat.zero_le _, Nat.zero_le _⟩ _ rfl (Nat.le_of_ble_eq_true rfl) (fun r253 G14 hq => ?_)
    obtain ⟨rfl, hw⟩ := hq
    exact aw_msk [false, false, false, false] (h256 _ hw)
  unfold w_X11_bodyEnds at hw
  show aw p l e { frames := 3, cells := 0, slots := 0, locals := 72 } s m args below meth c 4 D tA A (MQ below (QC0 D tA ad A sh (fun r G' => r = none ∧ K G')) args s 0 0 A) 0 0 ad 0 [some (.ref 46), some (.int p0), none, none] [] sh G0
  refine aw_aloadn C dX11_bodyEnds_0 rfl ?_
  refine aw_getR (r := 65) C dX11_bodyEnds_1 kcX11 (sA_46 S) 23 (by decide) rfl mF_X11_72 ?_
  refine aw_iloadn C dX11_bodyEnds_4 rfl ?_
  refine aw_iald C dX11_bodyEnds_5 (sA_65 S) hw.1 ?_
  replace hw := hw.2
  refine aw_istoren C dX11_bodyEnds_6 (by decide) rfl ?_
  refine aw_aloadn C dX11_bodyEnds_7 rfl ?_
  refine aw_getR (r := 67) C dX11_bodyEnds_8 kcX11 (sA_46 S) 25 (by decide) rfl mF_X11_78 ?_
  refine aw_iloadn C dX11_bodyEnds_11 rfl ?_
  refine aw_iald C dX11_bodyEnds_12 (sA_67 S) hw.1 ?_
  replace hw := hw.2
  refine sw_if hw (fun ha13_0 hw => ?_) (fun ha13_0 hw => ?_)
  · refine aw_tab C 44 dX11_bodyEnds_13 ha13_0 (by decide) (by decide) rfl (by decide) ?_
    refine aw_aloadn C dX11_bodyEnds_44 rfl ?_
    refine aw_getI C dX11_bodyEnds_45 kcX11 (sA_46 S) 41 (by decide) rfl mF_X11_202 ?_
    refine aw_iconst (v := 2) C dX11_bodyEnds_48 (by decide) ?_
    refine aw_ic_ne C dX11_bodyEnds_49 59 (by decide) hw (fun hc49 hw => ?_) (fun hc49 hw => ?_)
    · refine aw_aloadn C dX11_bodyEnds_59 rfl ?_
      refine aw_aloadn C dX11_bodyEnds_60 rfl ?_
      refine aw_getI C dX11_bodyEnds_61 kcX11 (sA_46 S) 42 (by decide) rfl mF_X11_209 ?_
      refine aw_putI C dX11_bodyEnds_64 kcX11 (sA_46 S) 62 (by decide) rfl mF_X11_377 rfl rfl rfl hw (fun G1 hw => ?_)
      refine aw_aloadn C dX11_bodyEnds_67 rfl ?_
      refine aw_callV C dX11_bodyEnds_68 (t_X11_closes S _ _ hw) mM_X11_380 bX11_closes (sA_46 S) rfl rfl ⟨Nat.le_of_ble_eq_true rfl, Nat.le_of_ble_eq_true rfl, Nat.zero_le _, Nat.zero_le _⟩ _ rfl (Nat.le_of_ble_eq_true rfl) (fun r68 G2 hq => ?_)
      obtain ⟨rfl, hw⟩ := hq
      refine aw_goto (tgt := 256) C dX11_bodyEnds_71 (by decide) ?_
      exact aw_msk [false, false, false, false] (h256 _ hw)
    · refine aw_aloadn C dX11_bodyEnds_52 rfl ?_
      refine aw_callV C dX11_bodyEnds_53 (t_X11_stops S _ _ hw) mM_X11_375 bX11_stops (sA_46 S) rfl rfl ⟨Nat.le_of_ble_eq_true rfl, Nat.le_of_ble_eq_true rfl, Nat.zero_le _, Nat.zero_le _⟩ _ rfl (Nat.le_of_ble_eq_true rfl) (fun r53 G3 hq => ?_)
      obtain ⟨rfl, hw⟩ := hq
      refine aw_goto (tgt := 256) C dX11_bodyEnds_56 (by decide) ?_
      exact aw_msk [false, false, false, false] (h256 _ hw)
  refine sw_if hw (fun ha13_1 hw => ?_) (fun ha13_1 hw => ?_)
  · refine aw_tab C 74 dX11_bodyEnds_13 ha13_1 (by decide) (by decide) rfl (by decide) ?_
    refine aw_aloadn C dX11_bodyEnds_74 rfl ?_
    refine aw_getR (r := 47) C dX11_bodyEnds_75 kcX11 (sA_46 S) 1 (by decide) rfl mF_X11_7 ?_
    refine aw_aloadn C dX11_bodyEnds_78 rfl ?_
    refine aw_getR (r := 64) C dX11_bodyEnds_79 kcX11 (sA_46 S) 22 (by decide) rfl mF_X11_69 ?_
    refine aw_iloadn C dX11_bodyEnds_82 rfl ?_
    refine aw_iald C dX11_bodyEnds_83 (sA_64 S) hw.1 ?_
    replace hw := hw.2
    refine aw_iald C dX11_bodyEnds_84 (sA_47 S) hw.1 ?_
    replace hw := hw.2
    refine aw_bipush (v := 29) C dX11_bodyEnds_85 (by decide) ?_
    refine aw_ic_ne C dX11_bodyEnds_87 94 (by decide) hw (fun hc87 hw => ?_) (fun hc87 hw => ?_)
    · refine aw_iconst (v := 0) C dX11_bodyEnds_94 (by decide) ?_
      exact aw_msk [true, false, true, false] (h95 (G0 65 (p0 : Int32).toNatClampNeg) 0 _ hw)
    · refine aw_iconst (v := 1) C dX11_bodyEnds_90 (by decide) ?_
      refine aw_goto (tgt := 95) C dX11_bodyEnds_91 (by decide) ?_
      exact aw_msk [true, false, true, false] (h95 (G0 65 (p0 : Int32).toNatClampNeg) 1 _ hw)
  refine sw_if hw (fun ha13_3 hw => ?_) (fun ha13_3 hw => ?_)
  · refine aw_tab C 164 dX11_bodyEnds_13 ha13_3 (by decide) (by decide) rfl (by decide) ?_
    refine aw_aloadn C dX11_bodyEnds_164 rfl ?_
    refine aw_getI C dX11_bodyEnds_165 kcX11 (sA_46 S) 41 (by decide) rfl mF_X11_202 ?_
    refine aw_iconst (v := 2) C dX11_bodyEnds_168 (by decide) ?_
    refine aw_ic_ne C dX11_bodyEnds_169 217 (by decide) hw (fun hc169 hw => ?_) (fun hc169 hw => ?_)
    · refine aw_aloadn C dX11_bodyEnds_217 rfl ?_
      refine aw_getR (r := 72) C dX11_bodyEnds_218 kcX11 (sA_46 S) 31 (by decide) rfl mF_X11_93 ?_
      refine aw_bipush (v := 8) C dX11_bodyEnds_221 (by decide) ?_
      refine aw_aloadn C dX11_bodyEnds_223 rfl ?_
      refine aw_getR (r := 69) C dX11_bodyEnds_224 kcX11 (sA_46 S) 27 (by decide) rfl mF_X11_84 ?_
      refine aw_iloadn C dX11_bodyEnds_227 rfl ?_
      refine aw_iald C dX11_bodyEnds_228 (sA_69 S) hw.1 ?_
      replace hw := hw.2
      refine aw_imul C dX11_bodyEnds_229 ?_
      refine aw_iconst (v := 1) C dX11_bodyEnds_230 (by decide) ?_
      refine aw_iadd C dX11_bodyEnds_231 ?_
      refine aw_aloadn C dX11_bodyEnds_232 rfl ?_
      refine aw_getI C dX11_bodyEnds_233 kcX11 (sA_46 S) 42 (by decide) rfl mF_X11_209 ?_
      refine aw_iast C dX11_bodyEnds_236 (sA_72 S) hw.1 hw.2 (fun G8 hw => ?_)
      refine aw_aloadn C dX11_bodyEnds_237 rfl ?_
      refine aw_iloadn C dX11_bodyEnds_238 rfl ?_
      refine aw_aloadn C dX11_bodyEnds_239 rfl ?_
      refine aw_iloadn C dX11_bodyEnds_240 rfl ?_
      refine aw_callV C dX11_bodyEnds_241 (t_X11_slotOf S (G0 65 (p0 : Int32).toNatClampNeg) _ _ hw) mM_X11_383 bX11_slotOf (sA_46 S) rfl rfl ⟨Nat.le_of_ble_eq_true rfl, Nat.le_of_ble_eq_true rfl, Nat.zero_le _, Nat.zero_le _⟩ _ rfl (Nat.le_of_ble_eq_true rfl) (fun r241 G9 hq => ?_)
      obtain ⟨v10, rfl, hw⟩ := hq
      refine aw_callV C dX11_bodyEnds_244 (t_X11_enters S (G0 65 (p0 : Int32).toNatClampNeg) v10 _ _ hw) mM_X11_250 bX11_enters (sA_46 S) rfl rfl ⟨Nat.le_of_ble_eq_true rfl, Nat.le_of_ble_eq_true rfl, Nat.zero_le _, Nat.zero_le _⟩ _ rfl (Nat.le_of_ble_eq_true rfl) (fun r244 G11 hq => ?_)
      obtain ⟨rfl, hw⟩ := hq
      refine aw_goto (tgt := 256) C dX11_bodyEnds_247 (by decide) ?_
      exact aw_msk [false, false, false, false] (h256 _ hw)
    · refine aw_aloadn C dX11_bodyEnds_172 rfl ?_
      refine aw_aloadn C dX11_bodyEnds_173 rfl ?_
      refine aw_getI C dX11_bodyEnds_174 kcX11 (sA_46 S) 51 (by decide) rfl mF_X11_241 ?_
      refine aw_if_eq C dX11_bodyEnds_177 200 (by decide) hw (fun hc177 hw => ?_) (fun hc177 hw => ?_)
      · exact aw_msk [true, false, true, false] (h200 (G0 65 (p0 : Int32).toNatClampNeg) _ hw)
      · refine aw_aloadn C dX11_bodyEnds_180 rfl ?_
        refine aw_getR (r := 47) C dX11_bodyEnds_181 kcX11 (sA_46 S) 1 (by decide) rfl mF_X11_7 ?_
        refine aw_aloadn C dX11_bodyEnds_184 rfl ?_
        refine aw_getR (r := 64) C dX11_bodyEnds_185 kcX11 (sA_46 S) 22 (by decide) rfl mF_X11_69 ?_
        refine aw_iloadn C dX11_bodyEnds_188 rfl ?_
        refine aw_iald C dX11_bodyEnds_189 (sA_64 S) hw.1 ?_
        replace hw := hw.2
        refine aw_iald C dX11_bodyEnds_190 (sA_47 S) hw.1 ?_
        replace hw := hw.2
        refine aw_bipush (v := 29) C dX11_bodyEnds_191 (by decide) ?_
        refine aw_ic_eq C dX11_bodyEnds_193 200 (by decide) hw (fun hc193 hw => ?_) (fun hc193 hw => ?_)
        · exact aw_msk [true, false, true, false] (h200 (G0 65 (p0 : Int32).toNatClampNeg) _ hw)
        · refine aw_iconst (v := 1) C dX11_bodyEnds_196 (by decide) ?_
          refine aw_goto (tgt := 201) C dX11_bodyEnds_197 (by decide) ?_
          exact aw_msk [true, false, true, false] (h201 (G0 65 (p0 : Int32).toNatClampNeg) 1 _ hw)
  refine aw_tabDef C 250 dX11_bodyEnds_13 3 (by decide) (by decide) (by decide) (fun i hi h => ?_) (by decide) ?_
  · exact match i, hi, h with
      | 0, _, h => absurd (h.trans (by decide)) ha13_0
      | 1, _, h => absurd (h.trans (by decide)) ha13_1
      | 2, _, h => rfl
      | 3, _, h => absurd (h.trans (by decide)) ha13_3
      | i + 4, hi, _ => absurd hi (by omega)
  exact aw_msk [true, true, true, false] (h250 p0 (G0 65 (p0 : Int32).toNatClampNeg) _ hw)
def w_X11_reckons_j83 (K : Gt → Prop)  (G0 : Gt) : Prop :=
  K G0
def w_X11_reckons_j40 (K : Gt → Prop) (x1 : Int32) (G0 : Gt) : Prop :=
  w_X11_fails (fun G3 =>
    w_X11_reckons_j83 K G3) x1 (-3) G0
def w_X11_reckons_j71 (K : Gt → Prop) (x1 : Int32) (x2 : Int32) (x3 : Int32) (x4 : Int32) (G0 : Gt) : Prop :=
  w_X11_makes (fun v7 G6 =>
    w_X11_ends (fun G8 =>
      w_X11_reckons_j83 K G8) x1 v7 G6) x2 x3 x4 G0
def w_X11_reckons_j19 (K : Gt → Prop) (y1 : Int32) (y2 : Int32) (G0 : Gt) : Prop :=
  w_X11_ends (fun G10 =>
    w_X11_reckons_j83 K G10) y1 y2 G0
def w_X11_reckons (K : Gt → Prop) (p0 : Int32) (p1 : Int32) (p2 : Int32) (p3 : Int32) (G0 : Gt) : Prop :=
  pif (p1 = 9) (
    pif (p2 = p3) (
      w_X11_reckons_j19 K p0 1 G0) (
      w_X11_reckons_j19 K p0 0 G0)) (
    w_X11_isNumber (fun v2 G1 =>
      pif (v2 = 0) (
        w_X11_reckons_j40 K p0 G1) (
        w_X11_isNumber (fun v5 G4 =>
          pif (v5 = 0) (
            w_X11_reckons_j40 K p0 G4) (
            pif (p1 = 7) (
              pif (p3 = 0) (
                w_X11_fails (fun G9 =>
                  w_X11_reckons_j83 K G9) p0 (-2) G4) (
                w_X11_reckons_j71 K p0 p1 p2 p3 G4)) (
              w_X11_reckons_j71 K p0 p1 p2 p3 G4))) p3 G1)) p2 G0)
set_option maxHeartbeats 4000000 in
set_option maxRecDepth 100000 in
theorem t_X11_reckons {l : Launch} {sh : Sh} (S : shOK sh) (p0 : Int32) (p1 : Int32) (p2 : Int32) (p3 : Int32) (G0 : Gt) (K : Gt → Prop) (hw : w_X11_reckons K p0 p1 p2 p3 G0) : CT0 l yX11_reckons cX11_reckons 5 none 2 42 [.ref 46, .int p0, .int p1, .int p2, .int p3] sh G0 (fun r G' => r = none ∧ K G') := by
  refine CT0_of (by decide) (Nat.le_of_ble_eq_true rfl) rfl ?_
  intro p e s m args below meth c D tA ad A C hr _
  have h83 : ∀ (G0 : Gt), w_X11_reckons_j83 K  G0 → aw p l e { frames := 2, cells := 0, slots := 0, locals := 42 } s m args below meth c 5 D tA A (MQ below (QC0 D tA ad A sh (fun r G' => r = none ∧ K G')) args s 0 0 A) 0 0 ad 83 [none, none, none, none, none] [] sh G0 := by
    intro   G0 hw
    unfold w_X11_reckons_j83 at hw
    exact aw_return C hr dX11_reckons_83 ⟨rfl, hw⟩
  have h40 : ∀ (x1 : Int32) (G0 : Gt), w_X11_reckons_j40 K x1 G0 → aw p l e { frames := 2, cells := 0, slots := 0, locals := 42 } s m args below meth c 5 D tA A (MQ below (QC0 D tA ad A sh (fun r G' => r = none ∧ K G')) args s 0 0 A) 0 0 ad 40 [some (.ref 46), some (.int x1), none, none, none] [] sh G0 := by
    intro  x1 G0 hw
    unfold w_X11_reckons_j40 at hw
    refine aw_aloadn C dX11_reckons_40 rfl ?_
    refine aw_iloadn C dX11_reckons_41 rfl ?_
    refine aw_bipush (v := (-3)) C dX11_reckons_42 (by decide) ?_
    refine aw_callV C dX11_reckons_44 (t_X11_fails S x1 (-3) _ _ hw) mM_X11_237 bX11_fails (sA_46 S) rfl rfl ⟨Nat.le_of_ble_eq_true rfl, Nat.le_of_ble_eq_true rfl, Nat.zero_le _, Nat.zero_le _⟩ _ rfl (Nat.le_of_ble_eq_true rfl) (fun r44 G3 hq => ?_)
    obtain ⟨rfl, hw⟩ := hq
    refine aw_goto (tgt := 83) C dX11_reckons_47 (by decide) ?_
    exact aw_msk [false, false, false, false, false] (h83 _ hw)
  have h71 : ∀ (x1 : Int32) (x2 : Int32) (x3 : Int32) (x4 : Int32) (G0 : Gt), w_X11_reckons_j71 K x1 x2 x3 x4 G0 → aw p l e { frames := 2, cells := 0, slots := 0, locals := 42 } s m args below meth c 5 D tA A (MQ below (QC0 D tA ad A sh (fun r G' => r = none ∧ K G')) args s 0 0 A) 0 0 ad 71 [some (.ref 46), some (.int x1), some (.int x2), some (.int x3), some (.int x4)] [] sh G0 := by
    intro  x1 x2 x3 x4 G0 hw
    unfold w_X11_reckons_j71 at hw
    refine aw_aloadn C dX11_reckons_71 rfl ?_
    refine aw_iloadn C dX11_reckons_72 rfl ?_
    refine aw_iloadn C dX11_reckons_73 rfl ?_
    refine aw_iloadn C dX11_reckons_74 rfl ?_
    refine aw_iload C dX11_reckons_75 rfl ?_
    refine aw_callS C dX11_reckons_77 (t_X11_makes x2 x3 x4 _ _ hw) mM_X11_327 bX11_makes rfl rfl ⟨Nat.le_of_ble_eq_true rfl, Nat.le_of_ble_eq_true rfl, Nat.zero_le _, Nat.zero_le _⟩ _ rfl (Nat.le_of_ble_eq_true rfl) (fun r77 G6 hq => ?_)
    obtain ⟨v7, rfl, hw⟩ := hq
    refine aw_callV C dX11_reckons_80 (t_X11_ends S x1 v7 _ _ hw) mM_X11_262 bX11_ends (sA_46 S) rfl rfl ⟨Nat.le_of_ble_eq_true rfl, Nat.le_of_ble_eq_true rfl, Nat.zero_le _, Nat.zero_le _⟩ _ rfl (Nat.le_of_ble_eq_true rfl) (fun r80 G8 hq => ?_)
    obtain ⟨rfl, hw⟩ := hq
    exact aw_msk [false, false, false, false, false] (h83 _ hw)
  have h19 : ∀ (y1 : Int32) (y2 : Int32) (G0 : Gt), w_X11_reckons_j19 K y1 y2 G0 → aw p l e { frames := 2, cells := 0, slots := 0, locals := 42 } s m args below meth c 5 D tA A (MQ below (QC0 D tA ad A sh (fun r G' => r = none ∧ K G')) args s 0 0 A) 0 0 ad 19 [none, none, none, none, none] [.int y2, .int y1, .ref 46] sh G0 := by
    intro  y1 y2 G0 hw
    unfold w_X11_reckons_j19 at hw
    refine aw_callV C dX11_reckons_19 (t_X11_ends S y1 y2 _ _ hw) mM_X11_262 bX11_ends (sA_46 S) rfl rfl ⟨Nat.le_of_ble_eq_true rfl, Nat.le_of_ble_eq_true rfl, Nat.zero_le _, Nat.zero_le _⟩ _ rfl (Nat.le_of_ble_eq_true rfl) (fun r19 G10 hq => ?_)
    obtain ⟨rfl, hw⟩ := hq
    refine aw_goto (tgt := 83) C dX11_reckons_22 (by decide) ?_
    exact aw_msk [false, false, false, false, false] (h83 _ hw)
  unfold w_X11_reckons at hw
  show aw p l e { frames := 2, cells := 0, slots := 0, locals := 42 } s m args below meth c 5 D tA A (MQ below (QC0 D tA ad A sh (fun r G' => r = none ∧ K G')) args s 0 0 A) 0 0 ad 0 [some (.ref 46), some (.int p0), some (.int p1), some (.int p2), some (.int p3)] [] sh G0
  refine aw_iloadn C dX11_reckons_0 rfl ?_
  refine aw_bipush (v := 9) C dX11_reckons_1 (by decide) ?_
  refine aw_ic_ne C dX11_reckons_3 25 (by decide) hw (fun hc3 hw => ?_) (fun hc3 hw => ?_)
  · refine aw_iloadn C dX11_reckons_25 rfl ?_
    refine aw_callS C dX11_reckons_26 (t_X11_isNumber p2 _ _ hw) mM_X11_324 bX11_isNumber rfl rfl ⟨Nat.le_of_ble_eq_true rfl, Nat.le_of_ble_eq_true rfl, Nat.zero_le _, Nat.zero_le _⟩ _ rfl (Nat.le_of_ble_eq_true rfl) (fun r26 G1 hq => ?_)
    obtain ⟨v2, rfl, hw⟩ := hq
    refine aw_if_eq C dX11_reckons_29 40 (by decide) hw (fun hc29 hw => ?_) (fun hc29 hw => ?_)
    · exact aw_msk [true, true, false, false, false] (h40 p0 _ hw)
    · refine aw_iload C dX11_reckons_32 rfl ?_
      refine aw_callS C dX11_reckons_34 (t_X11_isNumber p3 _ _ hw) mM_X11_324 bX11_isNumber rfl rfl ⟨Nat.le_of_ble_eq_true rfl, Nat.le_of_ble_eq_true rfl, Nat.zero_le _, Nat.zero_le _⟩ _ rfl (Nat.le_of_ble_eq_true rfl) (fun r34 G4 hq => ?_)
      obtain ⟨v5, rfl, hw⟩ := hq
      refine aw_if_ne C dX11_reckons_37 50 (by decide) hw (fun hc37 hw => ?_) (fun hc37 hw => ?_)
      · refine aw_iloadn C dX11_reckons_50 rfl ?_
        refine aw_bipush (v := 7) C dX11_reckons_51 (by decide) ?_
        refine aw_ic_ne C dX11_reckons_53 71 (by decide) hw (fun hc53 hw => ?_) (fun hc53 hw => ?_)
        · exact aw_msk [true, true, true, true, true] (h71 p0 p1 p2 p3 _ hw)
        · refine aw_iload C dX11_reckons_56 rfl ?_
          refine aw_if_ne C dX11_reckons_58 71 (by decide) hw (fun hc58 hw => ?_) (fun hc58 hw => ?_)
          · exact aw_msk [true, true, true, true, true] (h71 p0 p1 p2 p3 _ hw)
          · refine aw_aloadn C dX11_reckons_61 rfl ?_
            refine aw_iloadn C dX11_reckons_62 rfl ?_
            refine aw_bipush (v := (-2)) C dX11_reckons_63 (by decide) ?_
            refine aw_callV C dX11_reckons_65 (t_X11_fails S p0 (-2) _ _ hw) mM_X11_237 bX11_fails (sA_46 S) rfl rfl ⟨Nat.le_of_ble_eq_true rfl, Nat.le_of_ble_eq_true rfl, Nat.zero_le _, Nat.zero_le _⟩ _ rfl (Nat.le_of_ble_eq_true rfl) (fun r65 G9 hq => ?_)
            obtain ⟨rfl, hw⟩ := hq
            refine aw_goto (tgt := 83) C dX11_reckons_68 (by decide) ?_
            exact aw_msk [false, false, false, false, false] (h83 _ hw)
      · exact aw_msk [true, true, false, false, false] (h40 p0 _ hw)
  · refine aw_aloadn C dX11_reckons_6 rfl ?_
    refine aw_iloadn C dX11_reckons_7 rfl ?_
    refine aw_iloadn C dX11_reckons_8 rfl ?_
    refine aw_iload C dX11_reckons_9 rfl ?_
    refine aw_ic_ne C dX11_reckons_11 18 (by decide) hw (fun hc11 hw => ?_) (fun hc11 hw => ?_)
    · refine aw_iconst (v := 0) C dX11_reckons_18 (by decide) ?_
      exact aw_msk [false, false, false, false, false] (h19 p0 0 _ hw)
    · refine aw_iconst (v := 1) C dX11_reckons_14 (by decide) ?_
      refine aw_goto (tgt := 19) C dX11_reckons_15 (by decide) ?_
      exact aw_msk [false, false, false, false, false] (h19 p0 1 _ hw)
def w_X11_hasArgument_j74 (K : Gt → Prop)  (G0 : Gt) : Prop :=
  K G0
def w_X11_hasArgument (K : Gt → Prop) (p0 : Int32) (p1 : Int32) (p2 : Int32) (p3 : Int32) (G0 : Gt) : Prop :=
  pif (p2 = 1) (
    vp_in p1 120 ∧
    vp_in p0 1220 ∧
    w_X11_callsSlot (fun G4 =>
      K G4) p0 (G0 48 (p1 : Int32).toNatClampNeg) 2 (G0 68 (p0 : Int32).toNatClampNeg) p3 G0) (
    vp_in p0 1220 ∧
    pt (gu G0 68 (p0 : Int32).toNatClampNeg p3) fun G1 =>
    vp_in p1 120 ∧
    pif ((G1 50 (p1 : Int32).toNatClampNeg) = (-1)) (
      vp_in p1 120 ∧
      w_X11_callsSlot (fun G3 =>
        w_X11_hasArgument_j74 K G3) p0 (G1 48 (p1 : Int32).toNatClampNeg) 1 p3 0 G1) (
      vp_in p1 120 ∧
      w_X11_parts (fun G2 =>
        w_X11_hasArgument_j74 K G2) (G1 50 (p1 : Int32).toNatClampNeg) p0 1 G1))
set_option maxHeartbeats 4000000 in
set_option maxRecDepth 100000 in
theorem t_X11_hasArgument {l : Launch} {sh : Sh} (S : shOK sh) (p0 : Int32) (p1 : Int32) (p2 : Int32) (p3 : Int32) (G0 : Gt) (K : Gt → Prop) (hw : w_X11_hasArgument K p0 p1 p2 p3 G0) : CT0 l yX11_hasArgument cX11_hasArgument 5 none 4 99 [.ref 46, .int p0, .int p1, .int p2, .int p3] sh G0 (fun r G' => r = none ∧ K G') := by
  refine CT0_of (by decide) (Nat.le_of_ble_eq_true rfl) rfl ?_
  intro p e s m args below meth c D tA ad A C hr _
  have h74 : ∀ (G0 : Gt), w_X11_hasArgument_j74 K  G0 → aw p l e { frames := 4, cells := 0, slots := 0, locals := 99 } s m args below meth c 5 D tA A (MQ below (QC0 D tA ad A sh (fun r G' => r = none ∧ K G')) args s 0 0 A) 0 0 ad 74 [none, none, none, none, none] [] sh G0 := by
    intro   G0 hw
    unfold w_X11_hasArgument_j74 at hw
    exact aw_return C hr dX11_hasArgument_74 ⟨rfl, hw⟩
  unfold w_X11_hasArgument at hw
  show aw p l e { frames := 4, cells := 0, slots := 0, locals := 99 } s m args below meth c 5 D tA A (MQ below (QC0 D tA ad A sh (fun r G' => r = none ∧ K G')) args s 0 0 A) 0 0 ad 0 [some (.ref 46), some (.int p0), some (.int p1), some (.int p2), some (.int p3)] [] sh G0
  refine aw_iloadn C dX11_hasArgument_0 rfl ?_
  refine aw_iconst (v := 1) C dX11_hasArgument_1 (by decide) ?_
  refine aw_ic_ne C dX11_hasArgument_2 26 (by decide) hw (fun hc2 hw => ?_) (fun hc2 hw => ?_)
  · refine aw_aloadn C dX11_hasArgument_26 rfl ?_
    refine aw_getR (r := 68) C dX11_hasArgument_27 kcX11 (sA_46 S) 26 (by decide) rfl mF_X11_81 ?_
    refine aw_iloadn C dX11_hasArgument_30 rfl ?_
    refine aw_iload C dX11_hasArgument_31 rfl ?_
    refine aw_iast C dX11_hasArgument_33 (sA_68 S) hw.1 hw.2 (fun G1 hw => ?_)
    refine aw_aloadn C dX11_hasArgument_34 rfl ?_
    refine aw_getR (r := 50) C dX11_hasArgument_35 kcX11 (sA_46 S) 4 (by decide) rfl mF_X11_19 ?_
    refine aw_iloadn C dX11_hasArgument_38 rfl ?_
    refine aw_iald C dX11_hasArgument_39 (sA_50 S) hw.1 ?_
    replace hw := hw.2
    refine aw_iconst (v := (-1)) C dX11_hasArgument_40 (by decide) ?_
    refine aw_ic_ne C dX11_hasArgument_41 62 (by decide) hw (fun hc41 hw => ?_) (fun hc41 hw => ?_)
    · refine aw_aloadn C dX11_hasArgument_62 rfl ?_
      refine aw_aloadn C dX11_hasArgument_63 rfl ?_
      refine aw_getR (r := 50) C dX11_hasArgument_64 kcX11 (sA_46 S) 4 (by decide) rfl mF_X11_19 ?_
      refine aw_iloadn C dX11_hasArgument_67 rfl ?_
      refine aw_iald C dX11_hasArgument_68 (sA_50 S) hw.1 ?_
      replace hw := hw.2
      refine aw_iloadn C dX11_hasArgument_69 rfl ?_
      refine aw_iconst (v := 1) C dX11_hasArgument_70 (by decide) ?_
      refine aw_callV C dX11_hasArgument_71 (t_X11_parts S (G1 50 (p1 : Int32).toNatClampNeg) p0 1 _ _ hw) mM_X11_273 bX11_parts (sA_46 S) rfl rfl ⟨Nat.le_of_ble_eq_true rfl, Nat.le_of_ble_eq_true rfl, Nat.zero_le _, Nat.zero_le _⟩ _ rfl (Nat.le_of_ble_eq_true rfl) (fun r71 G2 hq => ?_)
      obtain ⟨rfl, hw⟩ := hq
      exact aw_msk [false, false, false, false, false] (h74 _ hw)
    · refine aw_aloadn C dX11_hasArgument_44 rfl ?_
      refine aw_iloadn C dX11_hasArgument_45 rfl ?_
      refine aw_aloadn C dX11_hasArgument_46 rfl ?_
      refine aw_getR (r := 48) C dX11_hasArgument_47 kcX11 (sA_46 S) 2 (by decide) rfl mF_X11_13 ?_
      refine aw_iloadn C dX11_hasArgument_50 rfl ?_
      refine aw_iald C dX11_hasArgument_51 (sA_48 S) hw.1 ?_
      replace hw := hw.2
      refine aw_iconst (v := 1) C dX11_hasArgument_52 (by decide) ?_
      refine aw_iload C dX11_hasArgument_53 rfl ?_
      refine aw_iconst (v := 0) C dX11_hasArgument_55 (by decide) ?_
      refine aw_callV C dX11_hasArgument_56 (t_X11_callsSlot S p0 (G1 48 (p1 : Int32).toNatClampNeg) 1 p3 0 _ _ hw) mM_X11_269 bX11_callsSlot (sA_46 S) rfl rfl ⟨Nat.le_of_ble_eq_true rfl, Nat.le_of_ble_eq_true rfl, Nat.zero_le _, Nat.zero_le _⟩ _ rfl (Nat.le_of_ble_eq_true rfl) (fun r56 G3 hq => ?_)
      obtain ⟨rfl, hw⟩ := hq
      refine aw_goto (tgt := 74) C dX11_hasArgument_59 (by decide) ?_
      exact aw_msk [false, false, false, false, false] (h74 _ hw)
  · refine aw_aloadn C dX11_hasArgument_5 rfl ?_
    refine aw_iloadn C dX11_hasArgument_6 rfl ?_
    refine aw_aloadn C dX11_hasArgument_7 rfl ?_
    refine aw_getR (r := 48) C dX11_hasArgument_8 kcX11 (sA_46 S) 2 (by decide) rfl mF_X11_13 ?_
    refine aw_iloadn C dX11_hasArgument_11 rfl ?_
    refine aw_iald C dX11_hasArgument_12 (sA_48 S) hw.1 ?_
    replace hw := hw.2
    refine aw_iconst (v := 2) C dX11_hasArgument_13 (by decide) ?_
    refine aw_aloadn C dX11_hasArgument_14 rfl ?_
    refine aw_getR (r := 68) C dX11_hasArgument_15 kcX11 (sA_46 S) 26 (by decide) rfl mF_X11_81 ?_
    refine aw_iloadn C dX11_hasArgument_18 rfl ?_
    refine aw_iald C dX11_hasArgument_19 (sA_68 S) hw.1 ?_
    replace hw := hw.2
    refine aw_iload C dX11_hasArgument_20 rfl ?_
    refine aw_callV C dX11_hasArgument_22 (t_X11_callsSlot S p0 (G0 48 (p1 : Int32).toNatClampNeg) 2 (G0 68 (p0 : Int32).toNatClampNeg) p3 _ _ hw) mM_X11_269 bX11_callsSlot (sA_46 S) rfl rfl ⟨Nat.le_of_ble_eq_true rfl, Nat.le_of_ble_eq_true rfl, Nat.zero_le _, Nat.zero_le _⟩ _ rfl (Nat.le_of_ble_eq_true rfl) (fun r22 G4 hq => ?_)
    obtain ⟨rfl, hw⟩ := hq
    exact aw_return C hr dX11_hasArgument_25 ⟨rfl, hw⟩
def w_X11_putsLetter_j24 (K : Gt → Prop) (x1 : Int32) (G0 : Gt) : Prop :=
  w_X11_fails (fun G3 =>
    K G3) x1 (-4) G0
def w_X11_putsLetter_j98 (K : Gt → Prop)  (G0 : Gt) : Prop :=
  K G0
def w_X11_putsLetter_j59 (K : Gt → Prop) (x1 : Int32) (x2 : Int32) (G0 : Gt) : Prop :=
  w_X11_ends (fun G6 =>
    w_X11_putsLetter_j98 K G6) x1 x2 G0
def w_X11_putsLetter (K : Gt → Prop) (p0 : Int32) (p1 : Int32) (G0 : Gt) : Prop :=
  w_X11_in (fun v2 G1 =>
    pif (v2 = 0) (
      w_X11_putsLetter_j24 K p0 G1) (
      vp_in (G1 46 14) 2 ∧
      pif ((G1 59 ((G1 46 14) : Int32).toNatClampNeg) = 40) (
        w_X11_putsLetter_j24 K p0 G1) (
        w_X11_inserts (fun G4 =>
          vp_in p0 1220 ∧
          pt (gu G4 68 (p0 : Int32).toNatClampNeg p1) fun G5 =>
          pif ((G5 46 12) = (-1)) (
            w_X11_putsLetter_j59 K p0 p1 G5) (
            pif ((G5 46 51) = 0) (
              pt (gu G5 46 51 1) fun G7 =>
              vp_in p0 1220 ∧
              pt (gu G7 67 (p0 : Int32).toNatClampNeg (10 + (G7 46 12))) fun G8 =>
              w_X11_callsSlot (fun G9 =>
                w_X11_putsLetter_j98 K G9) p0 (G8 46 12) 1 p1 0 G8) (
              w_X11_putsLetter_j59 K p0 p1 G5))) p1 G1))) p1 0 25 G0
set_option maxHeartbeats 4000000 in
set_option maxRecDepth 100000 in
theorem t_X11_putsLetter {l : Launch} {sh : Sh} (S : shOK sh) (p0 : Int32) (p1 : Int32) (G0 : Gt) (K : Gt → Prop) (hw : w_X11_putsLetter K p0 p1 G0) : CT0 l yX11_putsLetter cX11_putsLetter 3 none 4 99 [.ref 46, .int p0, .int p1] sh G0 (fun r G' => r = none ∧ K G') := by
  refine CT0_of (by decide) (Nat.le_of_ble_eq_true rfl) rfl ?_
  intro p e s m args below meth c D tA ad A C hr _
  have h24 : ∀ (x1 : Int32) (G0 : Gt), w_X11_putsLetter_j24 K x1 G0 → aw p l e { frames := 4, cells := 0, slots := 0, locals := 99 } s m args below meth c 3 D tA A (MQ below (QC0 D tA ad A sh (fun r G' => r = none ∧ K G')) args s 0 0 A) 0 0 ad 24 [some (.ref 46), some (.int x1), none] [] sh G0 := by
    intro  x1 G0 hw
    unfold w_X11_putsLetter_j24 at hw
    refine aw_aloadn C dX11_putsLetter_24 rfl ?_
    refine aw_iloadn C dX11_putsLetter_25 rfl ?_
    refine aw_bipush (v := (-4)) C dX11_putsLetter_26 (by decide) ?_
    refine aw_callV C dX11_putsLetter_28 (t_X11_fails S x1 (-4) _ _ hw) mM_X11_237 bX11_fails (sA_46 S) rfl rfl ⟨Nat.le_of_ble_eq_true rfl, Nat.le_of_ble_eq_true rfl, Nat.zero_le _, Nat.zero_le _⟩ _ rfl (Nat.le_of_ble_eq_true rfl) (fun r28 G3 hq => ?_)
    obtain ⟨rfl, hw⟩ := hq
    exact aw_return C hr dX11_putsLetter_31 ⟨rfl, hw⟩
  have h98 : ∀ (G0 : Gt), w_X11_putsLetter_j98 K  G0 → aw p l e { frames := 4, cells := 0, slots := 0, locals := 99 } s m args below meth c 3 D tA A (MQ below (QC0 D tA ad A sh (fun r G' => r = none ∧ K G')) args s 0 0 A) 0 0 ad 98 [none, none, none] [] sh G0 := by
    intro   G0 hw
    unfold w_X11_putsLetter_j98 at hw
    exact aw_return C hr dX11_putsLetter_98 ⟨rfl, hw⟩
  have h59 : ∀ (x1 : Int32) (x2 : Int32) (G0 : Gt), w_X11_putsLetter_j59 K x1 x2 G0 → aw p l e { frames := 4, cells := 0, slots := 0, locals := 99 } s m args below meth c 3 D tA A (MQ below (QC0 D tA ad A sh (fun r G' => r = none ∧ K G')) args s 0 0 A) 0 0 ad 59 [some (.ref 46), some (.int x1), some (.int x2)] [] sh G0 := by
    intro  x1 x2 G0 hw
    unfold w_X11_putsLetter_j59 at hw
    refine aw_aloadn C dX11_putsLetter_59 rfl ?_
    refine aw_iloadn C dX11_putsLetter_60 rfl ?_
    refine aw_iloadn C dX11_putsLetter_61 rfl ?_
    refine aw_callV C dX11_putsLetter_62 (t_X11_ends S x1 x2 _ _ hw) mM_X11_262 bX11_ends (sA_46 S) rfl rfl ⟨Nat.le_of_ble_eq_true rfl, Nat.le_of_ble_eq_true rfl, Nat.zero_le _, Nat.zero_le _⟩ _ rfl (Nat.le_of_ble_eq_true rfl) (fun r62 G6 hq => ?_)
    obtain ⟨rfl, hw⟩ := hq
    refine aw_goto (tgt := 98) C dX11_putsLetter_65 (by decide) ?_
    exact aw_msk [false, false, false] (h98 _ hw)
  unfold w_X11_putsLetter at hw
  show aw p l e { frames := 4, cells := 0, slots := 0, locals := 99 } s m args below meth c 3 D tA A (MQ below (QC0 D tA ad A sh (fun r G' => r = none ∧ K G')) args s 0 0 A) 0 0 ad 0 [some (.ref 46), some (.int p0), some (.int p1)] [] sh G0
  refine aw_iloadn C dX11_putsLetter_0 rfl ?_
  refine aw_iconst (v := 0) C dX11_putsLetter_1 (by decide) ?_
  refine aw_bipush (v := 25) C dX11_putsLetter_2 (by decide) ?_
  refine aw_callS C dX11_putsLetter_4 (t_X11_in p1 0 25 _ _ hw) mM_X11_136 bX11_in rfl rfl ⟨Nat.le_of_ble_eq_true rfl, Nat.le_of_ble_eq_true rfl, Nat.zero_le _, Nat.zero_le _⟩ _ rfl (Nat.le_of_ble_eq_true rfl) (fun r4 G1 hq => ?_)
  obtain ⟨v2, rfl, hw⟩ := hq
  refine aw_if_eq C dX11_putsLetter_7 24 (by decide) hw (fun hc7 hw => ?_) (fun hc7 hw => ?_)
  · exact aw_msk [true, true, false] (h24 p0 _ hw)
  · refine aw_aloadn C dX11_putsLetter_10 rfl ?_
    refine aw_getR (r := 59) C dX11_putsLetter_11 kcX11 (sA_46 S) 16 (by decide) rfl mF_X11_54 ?_
    refine aw_aloadn C dX11_putsLetter_14 rfl ?_
    refine aw_getI C dX11_putsLetter_15 kcX11 (sA_46 S) 14 (by decide) rfl mF_X11_180 ?_
    refine aw_iald C dX11_putsLetter_18 (sA_59 S) hw.1 ?_
    replace hw := hw.2
    refine aw_bipush (v := 40) C dX11_putsLetter_19 (by decide) ?_
    refine aw_ic_ne C dX11_putsLetter_21 32 (by decide) hw (fun hc21 hw => ?_) (fun hc21 hw => ?_)
    · refine aw_aloadn C dX11_putsLetter_32 rfl ?_
      refine aw_iloadn C dX11_putsLetter_33 rfl ?_
      refine aw_callV C dX11_putsLetter_34 (t_X11_inserts S p1 _ _ hw) mM_X11_265 bX11_inserts (sA_46 S) rfl rfl ⟨Nat.le_of_ble_eq_true rfl, Nat.le_of_ble_eq_true rfl, Nat.zero_le _, Nat.zero_le _⟩ _ rfl (Nat.le_of_ble_eq_true rfl) (fun r34 G4 hq => ?_)
      obtain ⟨rfl, hw⟩ := hq
      refine aw_aloadn C dX11_putsLetter_37 rfl ?_
      refine aw_getR (r := 68) C dX11_putsLetter_38 kcX11 (sA_46 S) 26 (by decide) rfl mF_X11_81 ?_
      refine aw_iloadn C dX11_putsLetter_41 rfl ?_
      refine aw_iloadn C dX11_putsLetter_42 rfl ?_
      refine aw_iast C dX11_putsLetter_43 (sA_68 S) hw.1 hw.2 (fun G5 hw => ?_)
      refine aw_aloadn C dX11_putsLetter_44 rfl ?_
      refine aw_getI C dX11_putsLetter_45 kcX11 (sA_46 S) 12 (by decide) rfl mF_X11_44 ?_
      refine aw_iconst (v := (-1)) C dX11_putsLetter_48 (by decide) ?_
      refine aw_ic_eq C dX11_putsLetter_49 59 (by decide) hw (fun hc49 hw => ?_) (fun hc49 hw => ?_)
      · exact aw_msk [true, true, true] (h59 p0 p1 _ hw)
      · refine aw_aloadn C dX11_putsLetter_52 rfl ?_
        refine aw_getI C dX11_putsLetter_53 kcX11 (sA_46 S) 51 (by decide) rfl mF_X11_241 ?_
        refine aw_if_eq C dX11_putsLetter_56 68 (by decide) hw (fun hc56 hw => ?_) (fun hc56 hw => ?_)
        · refine aw_aloadn C dX11_putsLetter_68 rfl ?_
          refine aw_iconst (v := 1) C dX11_putsLetter_69 (by decide) ?_
          refine aw_putI C dX11_putsLetter_70 kcX11 (sA_46 S) 51 (by decide) rfl mF_X11_241 rfl rfl rfl hw (fun G7 hw => ?_)
          refine aw_aloadn C dX11_putsLetter_73 rfl ?_
          refine aw_getR (r := 67) C dX11_putsLetter_74 kcX11 (sA_46 S) 25 (by decide) rfl mF_X11_78 ?_
          refine aw_iloadn C dX11_putsLetter_77 rfl ?_
          refine aw_bipush (v := 10) C dX11_putsLetter_78 (by decide) ?_
          refine aw_aloadn C dX11_putsLetter_80 rfl ?_
          refine aw_getI C dX11_putsLetter_81 kcX11 (sA_46 S) 12 (by decide) rfl mF_X11_44 ?_
          refine aw_iadd C dX11_putsLetter_84 ?_
          refine aw_iast C dX11_putsLetter_85 (sA_67 S) hw.1 hw.2 (fun G8 hw => ?_)
          refine aw_aloadn C dX11_putsLetter_86 rfl ?_
          refine aw_iloadn C dX11_putsLetter_87 rfl ?_
          refine aw_aloadn C dX11_putsLetter_88 rfl ?_
          refine aw_getI C dX11_putsLetter_89 kcX11 (sA_46 S) 12 (by decide) rfl mF_X11_44 ?_
          refine aw_iconst (v := 1) C dX11_putsLetter_92 (by decide) ?_
          refine aw_iloadn C dX11_putsLetter_93 rfl ?_
          refine aw_iconst (v := 0) C dX11_putsLetter_94 (by decide) ?_
          refine aw_callV C dX11_putsLetter_95 (t_X11_callsSlot S p0 (G8 46 12) 1 p1 0 _ _ hw) mM_X11_269 bX11_callsSlot (sA_46 S) rfl rfl ⟨Nat.le_of_ble_eq_true rfl, Nat.le_of_ble_eq_true rfl, Nat.zero_le _, Nat.zero_le _⟩ _ rfl (Nat.le_of_ble_eq_true rfl) (fun r95 G9 hq => ?_)
          obtain ⟨rfl, hw⟩ := hq
          exact aw_msk [false, false, false] (h98 _ hw)
        · exact aw_msk [true, true, true] (h59 p0 p1 _ hw)
    · exact aw_msk [true, true, false] (h24 p0 _ hw)
def w_X11_start_j35 (K : Gt → Prop)  (G0 : Gt) : Prop :=
  K G0
def w_X11_start_j18 (K : Gt → Prop) (x1 : Int32) (y1 : Int32) (y2 : Int32) (G0 : Gt) : Prop :=
  w_X11_goes (fun v4 G3 =>
    pif (v4 = 0) (
      w_X11_start_j35 K G3) (
      w_X11_prepares (fun G5 =>
        pt (gu G5 46 52 1) fun G6 =>
        w_X11_start_j35 K G6) x1 G3)) y1 y2 1 G0
def w_X11_start (K : Gt → Prop) (p0 : Int32) (G0 : Gt) : Prop :=
  w_X11_isNode (fun v2 G1 =>
    pif ((G1 46 52) = 0) (
      w_X11_start_j18 K p0 v2 1 G1) (
      w_X11_start_j18 K p0 v2 0 G1)) p0 G0
set_option maxHeartbeats 4000000 in
set_option maxRecDepth 100000 in
theorem t_X11_start {l : Launch} {sh : Sh} (S : shOK sh) (p0 : Int32) (G0 : Gt) (K : Gt → Prop) (hw : w_X11_start K p0 G0) : CT0 l yX11_start cX11_start 2 none 3 71 [.ref 46, .int p0] sh G0 (fun r G' => r = none ∧ K G') := by
  refine CT0_of (by decide) (Nat.le_of_ble_eq_true rfl) rfl ?_
  intro p e s m args below meth c D tA ad A C hr _
  have h35 : ∀ (G0 : Gt), w_X11_start_j35 K  G0 → aw p l e { frames := 3, cells := 0, slots := 0, locals := 71 } s m args below meth c 2 D tA A (MQ below (QC0 D tA ad A sh (fun r G' => r = none ∧ K G')) args s 0 0 A) 0 0 ad 35 [none, none] [] sh G0 := by
    intro   G0 hw
    unfold w_X11_start_j35 at hw
    exact aw_return C hr dX11_start_35 ⟨rfl, hw⟩
  have h18 : ∀ (x1 : Int32) (y1 : Int32) (y2 : Int32) (G0 : Gt), w_X11_start_j18 K x1 y1 y2 G0 → aw p l e { frames := 3, cells := 0, slots := 0, locals := 71 } s m args below meth c 2 D tA A (MQ below (QC0 D tA ad A sh (fun r G' => r = none ∧ K G')) args s 0 0 A) 0 0 ad 18 [some (.ref 46), some (.int x1)] [.int y2, .int y1, .ref 46] sh G0 := by
    intro  x1 y1 y2 G0 hw
    unfold w_X11_start_j18 at hw
    refine aw_iconst (v := 1) C dX11_start_18 (by decide) ?_
    refine aw_callV C dX11_start_19 (t_X11_goes S y1 y2 1 _ _ hw) mM_X11_169 bX11_goes (sA_46 S) rfl rfl ⟨Nat.le_of_ble_eq_true rfl, Nat.le_of_ble_eq_true rfl, Nat.zero_le _, Nat.zero_le _⟩ _ rfl (Nat.le_of_ble_eq_true rfl) (fun r19 G3 hq => ?_)
    obtain ⟨v4, rfl, hw⟩ := hq
    refine aw_if_eq C dX11_start_22 35 (by decide) hw (fun hc22 hw => ?_) (fun hc22 hw => ?_)
    · exact aw_msk [false, false] (h35 _ hw)
    · refine aw_aloadn C dX11_start_25 rfl ?_
      refine aw_iloadn C dX11_start_26 rfl ?_
      refine aw_callV C dX11_start_27 (t_X11_prepares S x1 _ _ hw) mM_X11_422 bX11_prepares (sA_46 S) rfl rfl ⟨Nat.le_of_ble_eq_true rfl, Nat.le_of_ble_eq_true rfl, Nat.zero_le _, Nat.zero_le _⟩ _ rfl (Nat.le_of_ble_eq_true rfl) (fun r27 G5 hq => ?_)
      obtain ⟨rfl, hw⟩ := hq
      refine aw_aloadn C dX11_start_30 rfl ?_
      refine aw_iconst (v := 1) C dX11_start_31 (by decide) ?_
      refine aw_putI C dX11_start_32 kcX11 (sA_46 S) 52 (by decide) rfl mF_X11_173 rfl rfl rfl hw (fun G6 hw => ?_)
      exact aw_msk [false, false] (h35 _ hw)
  unfold w_X11_start at hw
  show aw p l e { frames := 3, cells := 0, slots := 0, locals := 71 } s m args below meth c 2 D tA A (MQ below (QC0 D tA ad A sh (fun r G' => r = none ∧ K G')) args s 0 0 A) 0 0 ad 0 [some (.ref 46), some (.int p0)] [] sh G0
  refine aw_aloadn C dX11_start_0 rfl ?_
  refine aw_aloadn C dX11_start_1 rfl ?_
  refine aw_iloadn C dX11_start_2 rfl ?_
  refine aw_callV C dX11_start_3 (t_X11_isNode S p0 _ _ hw) mM_X11_140 bX11_isNode (sA_46 S) rfl rfl ⟨Nat.le_of_ble_eq_true rfl, Nat.le_of_ble_eq_true rfl, Nat.zero_le _, Nat.zero_le _⟩ _ rfl (Nat.le_of_ble_eq_true rfl) (fun r3 G1 hq => ?_)
  obtain ⟨v2, rfl, hw⟩ := hq
  refine aw_aloadn C dX11_start_6 rfl ?_
  refine aw_getI C dX11_start_7 kcX11 (sA_46 S) 52 (by decide) rfl mF_X11_173 ?_
  refine aw_if_ne C dX11_start_10 17 (by decide) hw (fun hc10 hw => ?_) (fun hc10 hw => ?_)
  · refine aw_iconst (v := 0) C dX11_start_17 (by decide) ?_
    exact aw_msk [true, true] (h18 p0 v2 0 _ hw)
  · refine aw_iconst (v := 1) C dX11_start_13 (by decide) ?_
    refine aw_goto (tgt := 18) C dX11_start_14 (by decide) ?_
    exact aw_msk [true, true] (h18 p0 v2 1 _ hw)
def w_X11_beginsCall_j24 (K : Gt → Prop)  (G0 : Gt) : Prop :=
  K G0
def w_X11_beginsCall (K : Gt → Prop) (p0 : Int32) (p1 : Int32) (p2 : Int32) (G0 : Gt) : Prop :=
  pif (p2 = (-1)) (
    w_X11_callsSlot (fun G2 =>
      w_X11_beginsCall_j24 K G2) p0 p1 0 0 0 G0) (
    w_X11_parts (fun G1 =>
      w_X11_beginsCall_j24 K G1) p2 p0 0 G0)
set_option maxHeartbeats 4000000 in
set_option maxRecDepth 100000 in
theorem t_X11_beginsCall {l : Launch} {sh : Sh} (S : shOK sh) (p0 : Int32) (p1 : Int32) (p2 : Int32) (G0 : Gt) (K : Gt → Prop) (hw : w_X11_beginsCall K p0 p1 p2 G0) : CT0 l yX11_beginsCall cX11_beginsCall 4 none 4 99 [.ref 46, .int p0, .int p1, .int p2] sh G0 (fun r G' => r = none ∧ K G') := by
  refine CT0_of (by decide) (Nat.le_of_ble_eq_true rfl) rfl ?_
  intro p e s m args below meth c D tA ad A C hr _
  have h24 : ∀ (G0 : Gt), w_X11_beginsCall_j24 K  G0 → aw p l e { frames := 4, cells := 0, slots := 0, locals := 99 } s m args below meth c 4 D tA A (MQ below (QC0 D tA ad A sh (fun r G' => r = none ∧ K G')) args s 0 0 A) 0 0 ad 24 [none, none, none, none] [] sh G0 := by
    intro   G0 hw
    unfold w_X11_beginsCall_j24 at hw
    exact aw_return C hr dX11_beginsCall_24 ⟨rfl, hw⟩
  unfold w_X11_beginsCall at hw
  show aw p l e { frames := 4, cells := 0, slots := 0, locals := 99 } s m args below meth c 4 D tA A (MQ below (QC0 D tA ad A sh (fun r G' => r = none ∧ K G')) args s 0 0 A) 0 0 ad 0 [some (.ref 46), some (.int p0), some (.int p1), some (.int p2)] [] sh G0
  refine aw_iloadn C dX11_beginsCall_0 rfl ?_
  refine aw_iconst (v := (-1)) C dX11_beginsCall_1 (by decide) ?_
  refine aw_ic_ne C dX11_beginsCall_2 17 (by decide) hw (fun hc2 hw => ?_) (fun hc2 hw => ?_)
  · refine aw_aloadn C dX11_beginsCall_17 rfl ?_
    refine aw_iloadn C dX11_beginsCall_18 rfl ?_
    refine aw_iloadn C dX11_beginsCall_19 rfl ?_
    refine aw_iconst (v := 0) C dX11_beginsCall_20 (by decide) ?_
    refine aw_callV C dX11_beginsCall_21 (t_X11_parts S p2 p0 0 _ _ hw) mM_X11_273 bX11_parts (sA_46 S) rfl rfl ⟨Nat.le_of_ble_eq_true rfl, Nat.le_of_ble_eq_true rfl, Nat.zero_le _, Nat.zero_le _⟩ _ rfl (Nat.le_of_ble_eq_true rfl) (fun r21 G1 hq => ?_)
    obtain ⟨rfl, hw⟩ := hq
    exact aw_msk [false, false, false, false] (h24 _ hw)
  · refine aw_aloadn C dX11_beginsCall_5 rfl ?_
    refine aw_iloadn C dX11_beginsCall_6 rfl ?_
    refine aw_iloadn C dX11_beginsCall_7 rfl ?_
    refine aw_iconst (v := 0) C dX11_beginsCall_8 (by decide) ?_
    refine aw_iconst (v := 0) C dX11_beginsCall_9 (by decide) ?_
    refine aw_iconst (v := 0) C dX11_beginsCall_10 (by decide) ?_
    refine aw_callV C dX11_beginsCall_11 (t_X11_callsSlot S p0 p1 0 0 0 _ _ hw) mM_X11_269 bX11_callsSlot (sA_46 S) rfl rfl ⟨Nat.le_of_ble_eq_true rfl, Nat.le_of_ble_eq_true rfl, Nat.zero_le _, Nat.zero_le _⟩ _ rfl (Nat.le_of_ble_eq_true rfl) (fun r11 G2 hq => ?_)
    obtain ⟨rfl, hw⟩ := hq
    refine aw_goto (tgt := 24) C dX11_beginsCall_14 (by decide) ?_
    exact aw_msk [false, false, false, false] (h24 _ hw)
def w_X11_takes_j211 (K : Gt → Prop)  (G0 : Gt) : Prop :=
  K G0
def w_X11_takes_j183 (K : Gt → Prop) (x1 : Int32) (x3 : Int32) (G0 : Gt) : Prop :=
  w_X11_isBuffer (fun v12 G11 =>
    pif (v12 = 0) (
      w_X11_fails (fun G13 =>
        w_X11_takes_j211 K G13) x1 (-4) G11) (
      pt (gu G11 46 14 x3) fun G14 =>
      w_X11_ends (fun G15 =>
        w_X11_takes_j211 K G15) x1 x3 G14)) x3 G0
def w_X11_takes (K : Gt → Prop) (p0 : Int32) (p1 : Int32) (p2 : Int32) (G0 : Gt) : Prop :=
  pif (p1 = 22) (
    w_X11_fails (fun G1 =>
      w_X11_takes_j211 K G1) p0 p2 G0) (
  pif (p1 = 28) (
    vp_in p0 1220 ∧
    vp_in (G0 64 (p0 : Int32).toNatClampNeg) 120 ∧
    vp_in (G0 48 ((G0 64 (p0 : Int32).toNatClampNeg) : Int32).toNatClampNeg) 4 ∧
    pt (gu G0 57 ((G0 48 ((G0 64 (p0 : Int32).toNatClampNeg) : Int32).toNatClampNeg) : Int32).toNatClampNeg p2) fun G2 =>
    w_X11_ends (fun G3 =>
      w_X11_takes_j211 K G3) p0 p2 G2) (
  pif (p1 = 29) (
    w_X11_putsLetter (fun G4 =>
      w_X11_takes_j211 K G4) p0 p2 G0) (
  pif (p1 = 31) (
    vp_in (G0 46 14) 2 ∧
    w_X11_in (fun v6 G5 =>
      pif (v6 = 0) (
        w_X11_fails (fun G7 =>
          w_X11_takes_j211 K G7) p0 (-4) G5) (
        vp_in (G5 46 14) 2 ∧
        vp_in ((4 * (G5 46 14)) + (G5 61 ((G5 46 14) : Int32).toNatClampNeg)) 8 ∧
        pt (gu G5 60 (((4 * (G5 46 14)) + (G5 61 ((G5 46 14) : Int32).toNatClampNeg)) : Int32).toNatClampNeg p2) fun G8 =>
        w_X11_ends (fun G9 =>
          w_X11_takes_j211 K G9) p0 p2 G8)) p2 0 (G0 59 ((G0 46 14) : Int32).toNatClampNeg) G0) (
  pif (p1 = 35) (
    w_X11_putsCursor (fun G10 =>
      w_X11_takes_j211 K G10) p0 p2 G0) (
    w_X11_takes_j183 K p0 p2 G0)))))
set_option maxHeartbeats 4000000 in
set_option maxRecDepth 100000 in
theorem t_X11_takes {l : Launch} {sh : Sh} (S : shOK sh) (p0 : Int32) (p1 : Int32) (p2 : Int32) (G0 : Gt) (K : Gt → Prop) (hw : w_X11_takes K p0 p1 p2 G0) : CT0 l yX11_takes cX11_takes 4 none 5 121 [.ref 46, .int p0, .int p1, .int p2] sh G0 (fun r G' => r = none ∧ K G') := by
  refine CT0_of (by decide) (Nat.le_of_ble_eq_true rfl) rfl ?_
  intro p e s m args below meth c D tA ad A C hr _
  have h211 : ∀ (G0 : Gt), w_X11_takes_j211 K  G0 → aw p l e { frames := 5, cells := 0, slots := 0, locals := 121 } s m args below meth c 4 D tA A (MQ below (QC0 D tA ad A sh (fun r G' => r = none ∧ K G')) args s 0 0 A) 0 0 ad 211 [none, none, none, none] [] sh G0 := by
    intro   G0 hw
    unfold w_X11_takes_j211 at hw
    exact aw_return C hr dX11_takes_211 ⟨rfl, hw⟩
  have h183 : ∀ (x1 : Int32) (x3 : Int32) (G0 : Gt), w_X11_takes_j183 K x1 x3 G0 → aw p l e { frames := 5, cells := 0, slots := 0, locals := 121 } s m args below meth c 4 D tA A (MQ below (QC0 D tA ad A sh (fun r G' => r = none ∧ K G')) args s 0 0 A) 0 0 ad 183 [some (.ref 46), some (.int x1), none, some (.int x3)] [] sh G0 := by
    intro  x1 x3 G0 hw
    unfold w_X11_takes_j183 at hw
    refine aw_iloadn C dX11_takes_183 rfl ?_
    refine aw_callS C dX11_takes_184 (t_X11_isBuffer x3 _ _ hw) mM_X11_177 bX11_isBuffer rfl rfl ⟨Nat.le_of_ble_eq_true rfl, Nat.le_of_ble_eq_true rfl, Nat.zero_le _, Nat.zero_le _⟩ _ rfl (Nat.le_of_ble_eq_true rfl) (fun r184 G11 hq => ?_)
    obtain ⟨v12, rfl, hw⟩ := hq
    refine aw_if_eq C dX11_takes_187 204 (by decide) hw (fun hc187 hw => ?_) (fun hc187 hw => ?_)
    · refine aw_aloadn C dX11_takes_204 rfl ?_
      refine aw_iloadn C dX11_takes_205 rfl ?_
      refine aw_bipush (v := (-4)) C dX11_takes_206 (by decide) ?_
      refine aw_callV C dX11_takes_208 (t_X11_fails S x1 (-4) _ _ hw) mM_X11_237 bX11_fails (sA_46 S) rfl rfl ⟨Nat.le_of_ble_eq_true rfl, Nat.le_of_ble_eq_true rfl, Nat.zero_le _, Nat.zero_le _⟩ _ rfl (Nat.le_of_ble_eq_true rfl) (fun r208 G13 hq => ?_)
      obtain ⟨rfl, hw⟩ := hq
      exact aw_msk [false, false, false, false] (h211 _ hw)
    · refine aw_aloadn C dX11_takes_190 rfl ?_
      refine aw_iloadn C dX11_takes_191 rfl ?_
      refine aw_putI C dX11_takes_192 kcX11 (sA_46 S) 14 (by decide) rfl mF_X11_180 rfl rfl rfl hw (fun G14 hw => ?_)
      refine aw_aloadn C dX11_takes_195 rfl ?_
      refine aw_iloadn C dX11_takes_196 rfl ?_
      refine aw_iloadn C dX11_takes_197 rfl ?_
      refine aw_callV C dX11_takes_198 (t_X11_ends S x1 x3 _ _ hw) mM_X11_262 bX11_ends (sA_46 S) rfl rfl ⟨Nat.le_of_ble_eq_true rfl, Nat.le_of_ble_eq_true rfl, Nat.zero_le _, Nat.zero_le _⟩ _ rfl (Nat.le_of_ble_eq_true rfl) (fun r198 G15 hq => ?_)
      obtain ⟨rfl, hw⟩ := hq
      refine aw_goto (tgt := 211) C dX11_takes_201 (by decide) ?_
      exact aw_msk [false, false, false, false] (h211 _ hw)
  unfold w_X11_takes at hw
  show aw p l e { frames := 5, cells := 0, slots := 0, locals := 121 } s m args below meth c 4 D tA A (MQ below (QC0 D tA ad A sh (fun r G' => r = none ∧ K G')) args s 0 0 A) 0 0 ad 0 [some (.ref 46), some (.int p0), some (.int p1), some (.int p2)] [] sh G0
  refine aw_iloadn C dX11_takes_0 rfl ?_
  refine sw_if hw (fun ha1_22 hw => ?_) (fun ha1_22 hw => ?_)
  · refine aw_tab C 72 dX11_takes_1 ha1_22 (by decide) (by decide) rfl (by decide) ?_
    refine aw_aloadn C dX11_takes_72 rfl ?_
    refine aw_iloadn C dX11_takes_73 rfl ?_
    refine aw_iloadn C dX11_takes_74 rfl ?_
    refine aw_callV C dX11_takes_75 (t_X11_fails S p0 p2 _ _ hw) mM_X11_237 bX11_fails (sA_46 S) rfl rfl ⟨Nat.le_of_ble_eq_true rfl, Nat.le_of_ble_eq_true rfl, Nat.zero_le _, Nat.zero_le _⟩ _ rfl (Nat.le_of_ble_eq_true rfl) (fun r75 G1 hq => ?_)
    obtain ⟨rfl, hw⟩ := hq
    refine aw_goto (tgt := 211) C dX11_takes_78 (by decide) ?_
    exact aw_msk [false, false, false, false] (h211 _ hw)
  refine sw_if hw (fun ha1_28 hw => ?_) (fun ha1_28 hw => ?_)
  · refine aw_tab C 81 dX11_takes_1 ha1_28 (by decide) (by decide) rfl (by decide) ?_
    refine aw_aloadn C dX11_takes_81 rfl ?_
    refine aw_getR (r := 57) C dX11_takes_82 kcX11 (sA_46 S) 11 (by decide) rfl mF_X11_41 ?_
    refine aw_aloadn C dX11_takes_85 rfl ?_
    refine aw_getR (r := 48) C dX11_takes_86 kcX11 (sA_46 S) 2 (by decide) rfl mF_X11_13 ?_
    refine aw_aloadn C dX11_takes_89 rfl ?_
    refine aw_getR (r := 64) C dX11_takes_90 kcX11 (sA_46 S) 22 (by decide) rfl mF_X11_69 ?_
    refine aw_iloadn C dX11_takes_93 rfl ?_
    refine aw_iald C dX11_takes_94 (sA_64 S) hw.1 ?_
    replace hw := hw.2
    refine aw_iald C dX11_takes_95 (sA_48 S) hw.1 ?_
    replace hw := hw.2
    refine aw_iloadn C dX11_takes_96 rfl ?_
    refine aw_iast C dX11_takes_97 (sA_57 S) hw.1 hw.2 (fun G2 hw => ?_)
    refine aw_aloadn C dX11_takes_98 rfl ?_
    refine aw_iloadn C dX11_takes_99 rfl ?_
    refine aw_iloadn C dX11_takes_100 rfl ?_
    refine aw_callV C dX11_takes_101 (t_X11_ends S p0 p2 _ _ hw) mM_X11_262 bX11_ends (sA_46 S) rfl rfl ⟨Nat.le_of_ble_eq_true rfl, Nat.le_of_ble_eq_true rfl, Nat.zero_le _, Nat.zero_le _⟩ _ rfl (Nat.le_of_ble_eq_true rfl) (fun r101 G3 hq => ?_)
    obtain ⟨rfl, hw⟩ := hq
    refine aw_goto (tgt := 211) C dX11_takes_104 (by decide) ?_
    exact aw_msk [false, false, false, false] (h211 _ hw)
  refine sw_if hw (fun ha1_29 hw => ?_) (fun ha1_29 hw => ?_)
  · refine aw_tab C 107 dX11_takes_1 ha1_29 (by decide) (by decide) rfl (by decide) ?_
    refine aw_aloadn C dX11_takes_107 rfl ?_
    refine aw_iloadn C dX11_takes_108 rfl ?_
    refine aw_iloadn C dX11_takes_109 rfl ?_
    refine aw_callV C dX11_takes_110 (t_X11_putsLetter S p0 p2 _ _ hw) mM_X11_340 bX11_putsLetter (sA_46 S) rfl rfl ⟨Nat.le_of_ble_eq_true rfl, Nat.le_of_ble_eq_true rfl, Nat.zero_le _, Nat.zero_le _⟩ _ rfl (Nat.le_of_ble_eq_true rfl) (fun r110 G4 hq => ?_)
    obtain ⟨rfl, hw⟩ := hq
    refine aw_goto (tgt := 211) C dX11_takes_113 (by decide) ?_
    exact aw_msk [false, false, false, false] (h211 _ hw)
  refine sw_if hw (fun ha1_31 hw => ?_) (fun ha1_31 hw => ?_)
  · refine aw_tab C 125 dX11_takes_1 ha1_31 (by decide) (by decide) rfl (by decide) ?_
    refine aw_iloadn C dX11_takes_125 rfl ?_
    refine aw_iconst (v := 0) C dX11_takes_126 (by decide) ?_
    refine aw_aloadn C dX11_takes_127 rfl ?_
    refine aw_getR (r := 59) C dX11_takes_128 kcX11 (sA_46 S) 16 (by decide) rfl mF_X11_54 ?_
    refine aw_aloadn C dX11_takes_131 rfl ?_
    refine aw_getI C dX11_takes_132 kcX11 (sA_46 S) 14 (by decide) rfl mF_X11_180 ?_
    refine aw_iald C dX11_takes_135 (sA_59 S) hw.1 ?_
    replace hw := hw.2
    refine aw_callS C dX11_takes_136 (t_X11_in p2 0 (G0 59 ((G0 46 14) : Int32).toNatClampNeg) _ _ hw) mM_X11_136 bX11_in rfl rfl ⟨Nat.le_of_ble_eq_true rfl, Nat.le_of_ble_eq_true rfl, Nat.zero_le _, Nat.zero_le _⟩ _ rfl (Nat.le_of_ble_eq_true rfl) (fun r136 G5 hq => ?_)
    obtain ⟨v6, rfl, hw⟩ := hq
    refine aw_if_eq C dX11_takes_139 173 (by decide) hw (fun hc139 hw => ?_) (fun hc139 hw => ?_)
    · refine aw_aloadn C dX11_takes_173 rfl ?_
      refine aw_iloadn C dX11_takes_174 rfl ?_
      refine aw_bipush (v := (-4)) C dX11_takes_175 (by decide) ?_
      refine aw_callV C dX11_takes_177 (t_X11_fails S p0 (-4) _ _ hw) mM_X11_237 bX11_fails (sA_46 S) rfl rfl ⟨Nat.le_of_ble_eq_true rfl, Nat.le_of_ble_eq_true rfl, Nat.zero_le _, Nat.zero_le _⟩ _ rfl (Nat.le_of_ble_eq_true rfl) (fun r177 G7 hq => ?_)
      obtain ⟨rfl, hw⟩ := hq
      refine aw_goto (tgt := 211) C dX11_takes_180 (by decide) ?_
      exact aw_msk [false, false, false, false] (h211 _ hw)
    · refine aw_aloadn C dX11_takes_142 rfl ?_
      refine aw_getR (r := 60) C dX11_takes_143 kcX11 (sA_46 S) 17 (by decide) rfl mF_X11_57 ?_
      refine aw_iconst (v := 4) C dX11_takes_146 (by decide) ?_
      refine aw_aloadn C dX11_takes_147 rfl ?_
      refine aw_getI C dX11_takes_148 kcX11 (sA_46 S) 14 (by decide) rfl mF_X11_180 ?_
      refine aw_imul C dX11_takes_151 ?_
      refine aw_aloadn C dX11_takes_152 rfl ?_
      refine aw_getR (r := 61) C dX11_takes_153 kcX11 (sA_46 S) 18 (by decide) rfl mF_X11_60 ?_
      refine aw_aloadn C dX11_takes_156 rfl ?_
      refine aw_getI C dX11_takes_157 kcX11 (sA_46 S) 14 (by decide) rfl mF_X11_180 ?_
      refine aw_iald C dX11_takes_160 (sA_61 S) hw.1 ?_
      replace hw := hw.2
      refine aw_iadd C dX11_takes_161 ?_
      refine aw_iloadn C dX11_takes_162 rfl ?_
      refine aw_iast C dX11_takes_163 (sA_60 S) hw.1 hw.2 (fun G8 hw => ?_)
      refine aw_aloadn C dX11_takes_164 rfl ?_
      refine aw_iloadn C dX11_takes_165 rfl ?_
      refine aw_iloadn C dX11_takes_166 rfl ?_
      refine aw_callV C dX11_takes_167 (t_X11_ends S p0 p2 _ _ hw) mM_X11_262 bX11_ends (sA_46 S) rfl rfl ⟨Nat.le_of_ble_eq_true rfl, Nat.le_of_ble_eq_true rfl, Nat.zero_le _, Nat.zero_le _⟩ _ rfl (Nat.le_of_ble_eq_true rfl) (fun r167 G9 hq => ?_)
      obtain ⟨rfl, hw⟩ := hq
      refine aw_goto (tgt := 211) C dX11_takes_170 (by decide) ?_
      exact aw_msk [false, false, false, false] (h211 _ hw)
  refine sw_if hw (fun ha1_35 hw => ?_) (fun ha1_35 hw => ?_)
  · refine aw_tab C 116 dX11_takes_1 ha1_35 (by decide) (by decide) rfl (by decide) ?_
    refine aw_aloadn C dX11_takes_116 rfl ?_
    refine aw_iloadn C dX11_takes_117 rfl ?_
    refine aw_iloadn C dX11_takes_118 rfl ?_
    refine aw_callV C dX11_takes_119 (t_X11_putsCursor S p0 p2 _ _ hw) mM_X11_343 bX11_putsCursor (sA_46 S) rfl rfl ⟨Nat.le_of_ble_eq_true rfl, Nat.le_of_ble_eq_true rfl, Nat.zero_le _, Nat.zero_le _⟩ _ rfl (Nat.le_of_ble_eq_true rfl) (fun r119 G10 hq => ?_)
    obtain ⟨rfl, hw⟩ := hq
    refine aw_goto (tgt := 211) C dX11_takes_122 (by decide) ?_
    exact aw_msk [false, false, false, false] (h211 _ hw)
  refine aw_tabDef C 183 dX11_takes_1 13 (by decide) (by decide) (by decide) (fun i hi h => ?_) (by decide) ?_
  · exact match i, hi, h with
      | 0, _, h => absurd (h.trans (by decide)) ha1_22
      | 1, _, h => rfl
      | 2, _, h => rfl
      | 3, _, h => rfl
      | 4, _, h => rfl
      | 5, _, h => rfl
      | 6, _, h => absurd (h.trans (by decide)) ha1_28
      | 7, _, h => absurd (h.trans (by decide)) ha1_29
      | 8, _, h => rfl
      | 9, _, h => absurd (h.trans (by decide)) ha1_31
      | 10, _, h => rfl
      | 11, _, h => rfl
      | 12, _, h => rfl
      | 13, _, h => absurd (h.trans (by decide)) ha1_35
      | i + 14, hi, _ => absurd hi (by omega)
  exact aw_msk [true, true, false, true] (h183 p0 p2 _ hw)
def w_X11_beginsNode_j531 (K : Gt → Prop)  (G0 : Gt) : Prop :=
  K G0
def w_X11_beginsNode_j234 (K : Gt → Prop) (x1 : Int32) (x2 : Int32) (G0 : Gt) : Prop :=
  vp_in x1 120 ∧
  w_X11_parts (fun G7 =>
    w_X11_beginsNode_j531 K G7) (G0 49 (x1 : Int32).toNatClampNeg) x2 0 G0
def w_X11_beginsNode_j469 (K : Gt → Prop) (x1 : Int32) (x2 : Int32) (G0 : Gt) : Prop :=
  vp_in x1 120 ∧
  w_X11_looks (fun G26 =>
    w_X11_beginsNode_j531 K G26) x2 (G0 47 (x1 : Int32).toNatClampNeg) G0
def w_X11_beginsNode_j524 (K : Gt → Prop) (x2 : Int32) (x3 : Int32) (G0 : Gt) : Prop :=
  w_X11_parts (fun G35 =>
    w_X11_beginsNode_j531 K G35) x3 x2 0 G0
def w_X11_beginsNode (K : Gt → Prop) (G0 : Gt) : Prop :=
  w_X11_lays (fun v2 G1 =>
    vp_in (G0 46 54) 120 ∧
    vp_in (G0 46 54) 120 ∧
    pif ((G1 47 ((G0 46 54) : Int32).toNatClampNeg) = 0) (
      w_X11_ends (fun G3 =>
        w_X11_beginsNode_j531 K G3) v2 (G1 48 ((G0 46 54) : Int32).toNatClampNeg) G1) (
    pif ((G1 47 ((G0 46 54) : Int32).toNatClampNeg) = 1) (
      w_X11_cellOf (fun v5 G4 =>
        w_X11_names (fun G6 =>
          w_X11_beginsNode_j531 K G6) v2 v5 G4) (G1 46 55) (G1 48 ((G0 46 54) : Int32).toNatClampNeg) G1) (
    pif ((G1 47 ((G0 46 54) : Int32).toNatClampNeg) = 2) (
      w_X11_beginsNode_j234 K (G0 46 54) v2 G1) (
    pif ((G1 47 ((G0 46 54) : Int32).toNatClampNeg) = 3) (
      w_X11_beginsNode_j234 K (G0 46 54) v2 G1) (
    pif ((G1 47 ((G0 46 54) : Int32).toNatClampNeg) = 12) (
      w_X11_opens (fun v9 G8 =>
        w_X11_asks (fun G10 =>
          w_X11_beginsNode_j531 K G10) (G1 48 ((G0 46 54) : Int32).toNatClampNeg) v2 v9 G8) (G1 46 55) G1) (
    pif ((G1 47 ((G0 46 54) : Int32).toNatClampNeg) = 13) (
      vp_in (G0 46 54) 120 ∧
      w_X11_opens (fun v12 G11 =>
        w_X11_asks (fun G13 =>
          w_X11_beginsNode_j531 K G13) (G1 49 ((G0 46 54) : Int32).toNatClampNeg) v2 v12 G11) (G1 46 55) G1) (
    pif ((G1 47 ((G0 46 54) : Int32).toNatClampNeg) = 14) (
      w_X11_beginsNode_j234 K (G0 46 54) v2 G1) (
    pif ((G1 47 ((G0 46 54) : Int32).toNatClampNeg) = 15) (
      w_X11_leavesTo (fun G14 =>
        w_X11_beginsNode_j531 K G14) v2 4 (G1 48 ((G0 46 54) : Int32).toNatClampNeg) 0 G1) (
    pif ((G1 47 ((G0 46 54) : Int32).toNatClampNeg) = 16) (
      vp_in (G1 46 32) 610 ∧
      pt (gu G1 73 ((G1 46 32) : Int32).toNatClampNeg (G0 46 54)) fun G15 =>
      vp_in (G15 46 32) 610 ∧
      pt (gu G15 74 ((G15 46 32) : Int32).toNatClampNeg (G15 46 55)) fun G16 =>
      pt (gu G16 46 32 ((G16 46 32) + 1)) fun G17 =>
      w_X11_ends (fun G18 =>
        w_X11_beginsNode_j531 K G18) v2 ((20000 + (G17 46 32)) - 1) G17) (
    pif ((G1 47 ((G0 46 54) : Int32).toNatClampNeg) = 18) (
      vp_in (G0 46 54) 120 ∧
      w_X11_beginsCall (fun G19 =>
        w_X11_beginsNode_j531 K G19) v2 (G1 48 ((G0 46 54) : Int32).toNatClampNeg) (G1 49 ((G0 46 54) : Int32).toNatClampNeg) G1) (
    pif ((G1 47 ((G0 46 54) : Int32).toNatClampNeg) = 20) (
      w_X11_beginsNode_j234 K (G0 46 54) v2 G1) (
    pif ((G1 47 ((G0 46 54) : Int32).toNatClampNeg) = 23) (
      vp_in (G1 46 35) 610 ∧
      pt (gu G1 75 ((G1 46 35) : Int32).toNatClampNeg (G0 46 54)) fun G20 =>
      vp_in (G20 46 35) 610 ∧
      pt (gu G20 76 ((G20 46 35) : Int32).toNatClampNeg (G20 46 55)) fun G21 =>
      vp_in (G21 46 35) 610 ∧
      pt (gu G21 77 ((G21 46 35) : Int32).toNatClampNeg 0) fun G22 =>
      pt (gu G22 46 35 ((G22 46 35) + 1)) fun G23 =>
      w_X11_ends (fun G24 =>
        w_X11_beginsNode_j531 K G24) v2 ((30000 + (G23 46 35)) - 1) G23) (
    pif ((G1 47 ((G0 46 54) : Int32).toNatClampNeg) = 26) (
      w_X11_beginsNode_j234 K (G0 46 54) v2 G1) (
    pif ((G1 47 ((G0 46 54) : Int32).toNatClampNeg) = 27) (
      vp_in (G1 48 ((G0 46 54) : Int32).toNatClampNeg) 4 ∧
      w_X11_ends (fun G25 =>
        w_X11_beginsNode_j531 K G25) v2 (G1 56 ((G1 48 ((G0 46 54) : Int32).toNatClampNeg) : Int32).toNatClampNeg) G1) (
    pif ((G1 47 ((G0 46 54) : Int32).toNatClampNeg) = 28) (
      w_X11_beginsNode_j234 K (G0 46 54) v2 G1) (
    pif ((G1 47 ((G0 46 54) : Int32).toNatClampNeg) = 30) (
      w_X11_beginsNode_j469 K (G0 46 54) v2 G1) (
    pif ((G1 47 ((G0 46 54) : Int32).toNatClampNeg) = 32) (
      w_X11_beginsNode_j469 K (G0 46 54) v2 G1) (
    pif ((G1 47 ((G0 46 54) : Int32).toNatClampNeg) = 33) (
      w_X11_beginsNode_j469 K (G0 46 54) v2 G1) (
    pif ((G1 47 ((G0 46 54) : Int32).toNatClampNeg) = 34) (
      w_X11_beginsNode_j469 K (G0 46 54) v2 G1) (
    pif ((G1 47 ((G0 46 54) : Int32).toNatClampNeg) = 36) (
      w_X11_inOrder (fun v28 G27 =>
        vp_in v2 1220 ∧
        pt (gu G27 68 (v2 : Int32).toNatClampNeg v28) fun G29 =>
        vp_in (G29 46 14) 2 ∧
        vp_in v2 1220 ∧
        pt (gu G29 69 (v2 : Int32).toNatClampNeg ((8 * (G29 46 14)) + (G29 61 ((G29 46 14) : Int32).toNatClampNeg))) fun G30 =>
        w_X11_goesOn (fun G31 =>
          w_X11_beginsNode_j531 K G31) v2 G30) G1) (
    pif ((G1 47 ((G0 46 54) : Int32).toNatClampNeg) = 38) (
      vp_in (G0 46 54) 120 ∧
      w_X11_reloads (fun G32 =>
        w_X11_beginsNode_j531 K G32) v2 (G1 48 ((G0 46 54) : Int32).toNatClampNeg) (G1 49 ((G0 46 54) : Int32).toNatClampNeg) G1) (
    pif ((G1 47 ((G0 46 54) : Int32).toNatClampNeg) = 39) (
      pt (gu G1 46 12 (G1 48 ((G0 46 54) : Int32).toNatClampNeg)) fun G33 =>
      w_X11_ends (fun G34 =>
        w_X11_beginsNode_j531 K G34) v2 0 G33) (
      w_X11_beginsNode_j524 K v2 (G1 48 ((G0 46 54) : Int32).toNatClampNeg) G1))))))))))))))))))))))) (G0 46 54) (G0 46 56) (G0 46 55) 0 G0
set_option maxHeartbeats 4000000 in
set_option maxRecDepth 100000 in
theorem t_X11_beginsNode {l : Launch} {sh : Sh} (S : shOK sh) (G0 : Gt) (K : Gt → Prop) (hw : w_X11_beginsNode K G0) : CT0 l yX11_beginsNode cX11_beginsNode 4 none 5 122 [.ref 46] sh G0 (fun r G' => r = none ∧ K G') := by
  refine CT0_of (by decide) (Nat.le_of_ble_eq_true rfl) rfl ?_
  intro p e s m args below meth c D tA ad A C hr _
  have h531 : ∀ (G0 : Gt), w_X11_beginsNode_j531 K  G0 → aw p l e { frames := 5, cells := 0, slots := 0, locals := 122 } s m args below meth c 4 D tA A (MQ below (QC0 D tA ad A sh (fun r G' => r = none ∧ K G')) args s 0 0 A) 0 0 ad 531 [none, none, none, none] [] sh G0 := by
    intro   G0 hw
    unfold w_X11_beginsNode_j531 at hw
    exact aw_return C hr dX11_beginsNode_531 ⟨rfl, hw⟩
  have h234 : ∀ (x1 : Int32) (x2 : Int32) (G0 : Gt), w_X11_beginsNode_j234 K x1 x2 G0 → aw p l e { frames := 5, cells := 0, slots := 0, locals := 122 } s m args below meth c 4 D tA A (MQ below (QC0 D tA ad A sh (fun r G' => r = none ∧ K G')) args s 0 0 A) 0 0 ad 234 [some (.ref 46), some (.int x1), some (.int x2), none] [] sh G0 := by
    intro  x1 x2 G0 hw
    unfold w_X11_beginsNode_j234 at hw
    refine aw_aloadn C dX11_beginsNode_234 rfl ?_
    refine aw_aloadn C dX11_beginsNode_235 rfl ?_
    refine aw_getR (r := 49) C dX11_beginsNode_236 kcX11 (sA_46 S) 3 (by decide) rfl mF_X11_16 ?_
    refine aw_iloadn C dX11_beginsNode_239 rfl ?_
    refine aw_iald C dX11_beginsNode_240 (sA_49 S) hw.1 ?_
    replace hw := hw.2
    refine aw_iloadn C dX11_beginsNode_241 rfl ?_
    refine aw_iconst (v := 0) C dX11_beginsNode_242 (by decide) ?_
    refine aw_callV C dX11_beginsNode_243 (t_X11_parts S (G0 49 (x1 : Int32).toNatClampNeg) x2 0 _ _ hw) mM_X11_273 bX11_parts (sA_46 S) rfl rfl ⟨Nat.le_of_ble_eq_true rfl, Nat.le_of_ble_eq_true rfl, Nat.zero_le _, Nat.zero_le _⟩ _ rfl (Nat.le_of_ble_eq_true rfl) (fun r243 G7 hq => ?_)
    obtain ⟨rfl, hw⟩ := hq
    refine aw_goto (tgt := 531) C dX11_beginsNode_246 (by decide) ?_
    exact aw_msk [false, false, false, false] (h531 _ hw)
  have h469 : ∀ (x1 : Int32) (x2 : Int32) (G0 : Gt), w_X11_beginsNode_j469 K x1 x2 G0 → aw p l e { frames := 5, cells := 0, slots := 0, locals := 122 } s m args below meth c 4 D tA A (MQ below (QC0 D tA ad A sh (fun r G' => r = none ∧ K G')) args s 0 0 A) 0 0 ad 469 [some (.ref 46), some (.int x1), some (.int x2), none] [] sh G0 := by
    intro  x1 x2 G0 hw
    unfold w_X11_beginsNode_j469 at hw
    refine aw_aloadn C dX11_beginsNode_469 rfl ?_
    refine aw_iloadn C dX11_beginsNode_470 rfl ?_
    refine aw_aloadn C dX11_beginsNode_471 rfl ?_
    refine aw_getR (r := 47) C dX11_beginsNode_472 kcX11 (sA_46 S) 1 (by decide) rfl mF_X11_7 ?_
    refine aw_iloadn C dX11_beginsNode_475 rfl ?_
    refine aw_iald C dX11_beginsNode_476 (sA_47 S) hw.1 ?_
    replace hw := hw.2
    refine aw_callV C dX11_beginsNode_477 (t_X11_looks S x2 (G0 47 (x1 : Int32).toNatClampNeg) _ _ hw) mM_X11_301 bX11_looks (sA_46 S) rfl rfl ⟨Nat.le_of_ble_eq_true rfl, Nat.le_of_ble_eq_true rfl, Nat.zero_le _, Nat.zero_le _⟩ _ rfl (Nat.le_of_ble_eq_true rfl) (fun r477 G26 hq => ?_)
    obtain ⟨rfl, hw⟩ := hq
    refine aw_goto (tgt := 531) C dX11_beginsNode_480 (by decide) ?_
    exact aw_msk [false, false, false, false] (h531 _ hw)
  have h524 : ∀ (x2 : Int32) (x3 : Int32) (G0 : Gt), w_X11_beginsNode_j524 K x2 x3 G0 → aw p l e { frames := 5, cells := 0, slots := 0, locals := 122 } s m args below meth c 4 D tA A (MQ below (QC0 D tA ad A sh (fun r G' => r = none ∧ K G')) args s 0 0 A) 0 0 ad 524 [some (.ref 46), none, some (.int x2), some (.int x3)] [] sh G0 := by
    intro  x2 x3 G0 hw
    unfold w_X11_beginsNode_j524 at hw
    refine aw_aloadn C dX11_beginsNode_524 rfl ?_
    refine aw_iloadn C dX11_beginsNode_525 rfl ?_
    refine aw_iloadn C dX11_beginsNode_526 rfl ?_
    refine aw_iconst (v := 0) C dX11_beginsNode_527 (by decide) ?_
    refine aw_callV C dX11_beginsNode_528 (t_X11_parts S x3 x2 0 _ _ hw) mM_X11_273 bX11_parts (sA_46 S) rfl rfl ⟨Nat.le_of_ble_eq_true rfl, Nat.le_of_ble_eq_true rfl, Nat.zero_le _, Nat.zero_le _⟩ _ rfl (Nat.le_of_ble_eq_true rfl) (fun r528 G35 hq => ?_)
    obtain ⟨rfl, hw⟩ := hq
    exact aw_msk [false, false, false, false] (h531 _ hw)
  unfold w_X11_beginsNode at hw
  show aw p l e { frames := 5, cells := 0, slots := 0, locals := 122 } s m args below meth c 4 D tA A (MQ below (QC0 D tA ad A sh (fun r G' => r = none ∧ K G')) args s 0 0 A) 0 0 ad 0 [some (.ref 46), none, none, none] [] sh G0
  refine aw_aloadn C dX11_beginsNode_0 rfl ?_
  refine aw_getI C dX11_beginsNode_1 kcX11 (sA_46 S) 54 (by decide) rfl mF_X11_193 ?_
  refine aw_istoren C dX11_beginsNode_4 (by decide) rfl ?_
  refine aw_aloadn C dX11_beginsNode_5 rfl ?_
  refine aw_iloadn C dX11_beginsNode_6 rfl ?_
  refine aw_aloadn C dX11_beginsNode_7 rfl ?_
  refine aw_getI C dX11_beginsNode_8 kcX11 (sA_46 S) 56 (by decide) rfl mF_X11_196 ?_
  refine aw_aloadn C dX11_beginsNode_11 rfl ?_
  refine aw_getI C dX11_beginsNode_12 kcX11 (sA_46 S) 55 (by decide) rfl mF_X11_199 ?_
  refine aw_iconst (v := 0) C dX11_beginsNode_15 (by decide) ?_
  refine aw_callV C dX11_beginsNode_16 (t_X11_lays S (G0 46 54) (G0 46 56) (G0 46 55) 0 _ _ hw) mM_X11_227 bX11_lays (sA_46 S) rfl rfl ⟨Nat.le_of_ble_eq_true rfl, Nat.le_of_ble_eq_true rfl, Nat.zero_le _, Nat.zero_le _⟩ _ rfl (Nat.le_of_ble_eq_true rfl) (fun r16 G1 hq => ?_)
  obtain ⟨v2, rfl, hw⟩ := hq
  refine aw_istoren C dX11_beginsNode_19 (by decide) rfl ?_
  refine aw_aloadn C dX11_beginsNode_20 rfl ?_
  refine aw_getR (r := 48) C dX11_beginsNode_21 kcX11 (sA_46 S) 2 (by decide) rfl mF_X11_13 ?_
  refine aw_iloadn C dX11_beginsNode_24 rfl ?_
  refine aw_iald C dX11_beginsNode_25 (sA_48 S) hw.1 ?_
  replace hw := hw.2
  refine aw_istoren C dX11_beginsNode_26 (by decide) rfl ?_
  refine aw_aloadn C dX11_beginsNode_27 rfl ?_
  refine aw_getR (r := 47) C dX11_beginsNode_28 kcX11 (sA_46 S) 1 (by decide) rfl mF_X11_7 ?_
  refine aw_iloadn C dX11_beginsNode_31 rfl ?_
  refine aw_iald C dX11_beginsNode_32 (sA_47 S) hw.1 ?_
  replace hw := hw.2
  refine sw_if hw (fun ha33_0 hw => ?_) (fun ha33_0 hw => ?_)
  · refine aw_tab C 208 dX11_beginsNode_33 ha33_0 (by decide) (by decide) rfl (by decide) ?_
    refine aw_aloadn C dX11_beginsNode_208 rfl ?_
    refine aw_iloadn C dX11_beginsNode_209 rfl ?_
    refine aw_iloadn C dX11_beginsNode_210 rfl ?_
    refine aw_callV C dX11_beginsNode_211 (t_X11_ends S v2 (G1 48 ((G0 46 54) : Int32).toNatClampNeg) _ _ hw) mM_X11_262 bX11_ends (sA_46 S) rfl rfl ⟨Nat.le_of_ble_eq_true rfl, Nat.le_of_ble_eq_true rfl, Nat.zero_le _, Nat.zero_le _⟩ _ rfl (Nat.le_of_ble_eq_true rfl) (fun r211 G3 hq => ?_)
    obtain ⟨rfl, hw⟩ := hq
    refine aw_goto (tgt := 531) C dX11_beginsNode_214 (by decide) ?_
    exact aw_msk [false, false, false, false] (h531 _ hw)
  refine sw_if hw (fun ha33_1 hw => ?_) (fun ha33_1 hw => ?_)
  · refine aw_tab C 217 dX11_beginsNode_33 ha33_1 (by decide) (by decide) rfl (by decide) ?_
    refine aw_aloadn C dX11_beginsNode_217 rfl ?_
    refine aw_iloadn C dX11_beginsNode_218 rfl ?_
    refine aw_aloadn C dX11_beginsNode_219 rfl ?_
    refine aw_aloadn C dX11_beginsNode_220 rfl ?_
    refine aw_getI C dX11_beginsNode_221 kcX11 (sA_46 S) 55 (by decide) rfl mF_X11_199 ?_
    refine aw_iloadn C dX11_beginsNode_224 rfl ?_
    refine aw_callV C dX11_beginsNode_225 (t_X11_cellOf S (G1 46 55) (G1 48 ((G0 46 54) : Int32).toNatClampNeg) _ _ hw) mM_X11_279 bX11_cellOf (sA_46 S) rfl rfl ⟨Nat.le_of_ble_eq_true rfl, Nat.le_of_ble_eq_true rfl, Nat.zero_le _, Nat.zero_le _⟩ _ rfl (Nat.le_of_ble_eq_true rfl) (fun r225 G4 hq => ?_)
    obtain ⟨v5, rfl, hw⟩ := hq
    refine aw_callV C dX11_beginsNode_228 (t_X11_names S v2 v5 _ _ hw) mM_X11_282 bX11_names (sA_46 S) rfl rfl ⟨Nat.le_of_ble_eq_true rfl, Nat.le_of_ble_eq_true rfl, Nat.zero_le _, Nat.zero_le _⟩ _ rfl (Nat.le_of_ble_eq_true rfl) (fun r228 G6 hq => ?_)
    obtain ⟨rfl, hw⟩ := hq
    refine aw_goto (tgt := 531) C dX11_beginsNode_231 (by decide) ?_
    exact aw_msk [false, false, false, false] (h531 _ hw)
  refine sw_if hw (fun ha33_2 hw => ?_) (fun ha33_2 hw => ?_)
  · refine aw_tab C 234 dX11_beginsNode_33 ha33_2 (by decide) (by decide) rfl (by decide) ?_
    exact aw_msk [true, true, true, false] (h234 (G0 46 54) v2 _ hw)
  refine sw_if hw (fun ha33_3 hw => ?_) (fun ha33_3 hw => ?_)
  · refine aw_tab C 234 dX11_beginsNode_33 ha33_3 (by decide) (by decide) rfl (by decide) ?_
    exact aw_msk [true, true, true, false] (h234 (G0 46 54) v2 _ hw)
  refine sw_if hw (fun ha33_12 hw => ?_) (fun ha33_12 hw => ?_)
  · refine aw_tab C 249 dX11_beginsNode_33 ha33_12 (by decide) (by decide) rfl (by decide) ?_
    refine aw_aloadn C dX11_beginsNode_249 rfl ?_
    refine aw_iloadn C dX11_beginsNode_250 rfl ?_
    refine aw_iloadn C dX11_beginsNode_251 rfl ?_
    refine aw_aloadn C dX11_beginsNode_252 rfl ?_
    refine aw_aloadn C dX11_beginsNode_253 rfl ?_
    refine aw_getI C dX11_beginsNode_254 kcX11 (sA_46 S) 55 (by decide) rfl mF_X11_199 ?_
    refine aw_callV C dX11_beginsNode_257 (t_X11_opens S (G1 46 55) _ _ hw) mM_X11_244 bX11_opens (sA_46 S) rfl rfl ⟨Nat.le_of_ble_eq_true rfl, Nat.le_of_ble_eq_true rfl, Nat.zero_le _, Nat.zero_le _⟩ _ rfl (Nat.le_of_ble_eq_true rfl) (fun r257 G8 hq => ?_)
    obtain ⟨v9, rfl, hw⟩ := hq
    refine aw_callV C dX11_beginsNode_260 (t_X11_asks S (G1 48 ((G0 46 54) : Int32).toNatClampNeg) v2 v9 _ _ hw) mM_X11_205 bX11_asks (sA_46 S) rfl rfl ⟨Nat.le_of_ble_eq_true rfl, Nat.le_of_ble_eq_true rfl, Nat.zero_le _, Nat.zero_le _⟩ _ rfl (Nat.le_of_ble_eq_true rfl) (fun r260 G10 hq => ?_)
    obtain ⟨rfl, hw⟩ := hq
    refine aw_goto (tgt := 531) C dX11_beginsNode_263 (by decide) ?_
    exact aw_msk [false, false, false, false] (h531 _ hw)
  refine sw_if hw (fun ha33_13 hw => ?_) (fun ha33_13 hw => ?_)
  · refine aw_tab C 266 dX11_beginsNode_33 ha33_13 (by decide) (by decide) rfl (by decide) ?_
    refine aw_aloadn C dX11_beginsNode_266 rfl ?_
    refine aw_aloadn C dX11_beginsNode_267 rfl ?_
    refine aw_getR (r := 49) C dX11_beginsNode_268 kcX11 (sA_46 S) 3 (by decide) rfl mF_X11_16 ?_
    refine aw_iloadn C dX11_beginsNode_271 rfl ?_
    refine aw_iald C dX11_beginsNode_272 (sA_49 S) hw.1 ?_
    replace hw := hw.2
    refine aw_iloadn C dX11_beginsNode_273 rfl ?_
    refine aw_aloadn C dX11_beginsNode_274 rfl ?_
    refine aw_aloadn C dX11_beginsNode_275 rfl ?_
    refine aw_getI C dX11_beginsNode_276 kcX11 (sA_46 S) 55 (by decide) rfl mF_X11_199 ?_
    refine aw_callV C dX11_beginsNode_279 (t_X11_opens S (G1 46 55) _ _ hw) mM_X11_244 bX11_opens (sA_46 S) rfl rfl ⟨Nat.le_of_ble_eq_true rfl, Nat.le_of_ble_eq_true rfl, Nat.zero_le _, Nat.zero_le _⟩ _ rfl (Nat.le_of_ble_eq_true rfl) (fun r279 G11 hq => ?_)
    obtain ⟨v12, rfl, hw⟩ := hq
    refine aw_callV C dX11_beginsNode_282 (t_X11_asks S (G1 49 ((G0 46 54) : Int32).toNatClampNeg) v2 v12 _ _ hw) mM_X11_205 bX11_asks (sA_46 S) rfl rfl ⟨Nat.le_of_ble_eq_true rfl, Nat.le_of_ble_eq_true rfl, Nat.zero_le _, Nat.zero_le _⟩ _ rfl (Nat.le_of_ble_eq_true rfl) (fun r282 G13 hq => ?_)
    obtain ⟨rfl, hw⟩ := hq
    refine aw_goto (tgt := 531) C dX11_beginsNode_285 (by decide) ?_
    exact aw_msk [false, false, false, false] (h531 _ hw)
  refine sw_if hw (fun ha33_14 hw => ?_) (fun ha33_14 hw => ?_)
  · refine aw_tab C 234 dX11_beginsNode_33 ha33_14 (by decide) (by decide) rfl (by decide) ?_
    exact aw_msk [true, true, true, false] (h234 (G0 46 54) v2 _ hw)
  refine sw_if hw (fun ha33_15 hw => ?_) (fun ha33_15 hw => ?_)
  · refine aw_tab C 288 dX11_beginsNode_33 ha33_15 (by decide) (by decide) rfl (by decide) ?_
    refine aw_aloadn C dX11_beginsNode_288 rfl ?_
    refine aw_iloadn C dX11_beginsNode_289 rfl ?_
    refine aw_iconst (v := 4) C dX11_beginsNode_290 (by decide) ?_
    refine aw_iloadn C dX11_beginsNode_291 rfl ?_
    refine aw_iconst (v := 0) C dX11_beginsNode_292 (by decide) ?_
    refine aw_callV C dX11_beginsNode_293 (t_X11_leavesTo S v2 4 (G1 48 ((G0 46 54) : Int32).toNatClampNeg) 0 _ _ hw) mM_X11_285 bX11_leavesTo (sA_46 S) rfl rfl ⟨Nat.le_of_ble_eq_true rfl, Nat.le_of_ble_eq_true rfl, Nat.zero_le _, Nat.zero_le _⟩ _ rfl (Nat.le_of_ble_eq_true rfl) (fun r293 G14 hq => ?_)
    obtain ⟨rfl, hw⟩ := hq
    refine aw_goto (tgt := 531) C dX11_beginsNode_296 (by decide) ?_
    exact aw_msk [false, false, false, false] (h531 _ hw)
  refine sw_if hw (fun ha33_16 hw => ?_) (fun ha33_16 hw => ?_)
  · refine aw_tab C 299 dX11_beginsNode_33 ha33_16 (by decide) (by decide) rfl (by decide) ?_
    refine aw_aloadn C dX11_beginsNode_299 rfl ?_
    refine aw_getR (r := 73) C dX11_beginsNode_300 kcX11 (sA_46 S) 33 (by decide) rfl mF_X11_96 ?_
    refine aw_aloadn C dX11_beginsNode_303 rfl ?_
    refine aw_getI C dX11_beginsNode_304 kcX11 (sA_46 S) 32 (by decide) rfl mF_X11_289 ?_
    refine aw_iloadn C dX11_beginsNode_307 rfl ?_
    refine aw_iast C dX11_beginsNode_308 (sA_73 S) hw.1 hw.2 (fun G15 hw => ?_)
    refine aw_aloadn C dX11_beginsNode_309 rfl ?_
    refine aw_getR (r := 74) C dX11_beginsNode_310 kcX11 (sA_46 S) 34 (by decide) rfl mF_X11_99 ?_
    refine aw_aloadn C dX11_beginsNode_313 rfl ?_
    refine aw_getI C dX11_beginsNode_314 kcX11 (sA_46 S) 32 (by decide) rfl mF_X11_289 ?_
    refine aw_aloadn C dX11_beginsNode_317 rfl ?_
    refine aw_getI C dX11_beginsNode_318 kcX11 (sA_46 S) 55 (by decide) rfl mF_X11_199 ?_
    refine aw_iast C dX11_beginsNode_321 (sA_74 S) hw.1 hw.2 (fun G16 hw => ?_)
    refine aw_aloadn C dX11_beginsNode_322 rfl ?_
    refine aw_dup C dX11_beginsNode_323 rfl ?_
    refine aw_getI C dX11_beginsNode_324 kcX11 (sA_46 S) 32 (by decide) rfl mF_X11_289 ?_
    refine aw_iconst (v := 1) C dX11_beginsNode_327 (by decide) ?_
    refine aw_iadd C dX11_beginsNode_328 ?_
    refine aw_putI C dX11_beginsNode_329 kcX11 (sA_46 S) 32 (by decide) rfl mF_X11_289 rfl rfl rfl hw (fun G17 hw => ?_)
    refine aw_aloadn C dX11_beginsNode_332 rfl ?_
    refine aw_iloadn C dX11_beginsNode_333 rfl ?_
    refine aw_sipush (v := 20000) C dX11_beginsNode_334 (by decide) ?_
    refine aw_aloadn C dX11_beginsNode_337 rfl ?_
    refine aw_getI C dX11_beginsNode_338 kcX11 (sA_46 S) 32 (by decide) rfl mF_X11_289 ?_
    refine aw_iadd C dX11_beginsNode_341 ?_
    refine aw_iconst (v := 1) C dX11_beginsNode_342 (by decide) ?_
    refine aw_isub C dX11_beginsNode_343 ?_
    refine aw_callV C dX11_beginsNode_344 (t_X11_ends S v2 ((20000 + (G17 46 32)) - 1) _ _ hw) mM_X11_262 bX11_ends (sA_46 S) rfl rfl ⟨Nat.le_of_ble_eq_true rfl, Nat.le_of_ble_eq_true rfl, Nat.zero_le _, Nat.zero_le _⟩ _ rfl (Nat.le_of_ble_eq_true rfl) (fun r344 G18 hq => ?_)
    obtain ⟨rfl, hw⟩ := hq
    refine aw_goto (tgt := 531) C dX11_beginsNode_347 (by decide) ?_
    exact aw_msk [false, false, false, false] (h531 _ hw)
  refine sw_if hw (fun ha33_18 hw => ?_) (fun ha33_18 hw => ?_)
  · refine aw_tab C 411 dX11_beginsNode_33 ha33_18 (by decide) (by decide) rfl (by decide) ?_
    refine aw_aloadn C dX11_beginsNode_411 rfl ?_
    refine aw_iloadn C dX11_beginsNode_412 rfl ?_
    refine aw_iloadn C dX11_beginsNode_413 rfl ?_
    refine aw_aloadn C dX11_beginsNode_414 rfl ?_
    refine aw_getR (r := 49) C dX11_beginsNode_415 kcX11 (sA_46 S) 3 (by decide) rfl mF_X11_16 ?_
    refine aw_iloadn C dX11_beginsNode_418 rfl ?_
    refine aw_iald C dX11_beginsNode_419 (sA_49 S) hw.1 ?_
    replace hw := hw.2
    refine aw_callV C dX11_beginsNode_420 (t_X11_beginsCall S v2 (G1 48 ((G0 46 54) : Int32).toNatClampNeg) (G1 49 ((G0 46 54) : Int32).toNatClampNeg) _ _ hw) mM_X11_295 bX11_beginsCall (sA_46 S) rfl rfl ⟨Nat.le_of_ble_eq_true rfl, Nat.le_of_ble_eq_true rfl, Nat.zero_le _, Nat.zero_le _⟩ _ rfl (Nat.le_of_ble_eq_true rfl) (fun r420 G19 hq => ?_)
    obtain ⟨rfl, hw⟩ := hq
    refine aw_goto (tgt := 531) C dX11_beginsNode_423 (by decide) ?_
    exact aw_msk [false, false, false, false] (h531 _ hw)
  refine sw_if hw (fun ha33_20 hw => ?_) (fun ha33_20 hw => ?_)
  · refine aw_tab C 234 dX11_beginsNode_33 ha33_20 (by decide) (by decide) rfl (by decide) ?_
    exact aw_msk [true, true, true, false] (h234 (G0 46 54) v2 _ hw)
  refine sw_if hw (fun ha33_23 hw => ?_) (fun ha33_23 hw => ?_)
  · refine aw_tab C 350 dX11_beginsNode_33 ha33_23 (by decide) (by decide) rfl (by decide) ?_
    refine aw_aloadn C dX11_beginsNode_350 rfl ?_
    refine aw_getR (r := 75) C dX11_beginsNode_351 kcX11 (sA_46 S) 36 (by decide) rfl mF_X11_102 ?_
    refine aw_aloadn C dX11_beginsNode_354 rfl ?_
    refine aw_getI C dX11_beginsNode_355 kcX11 (sA_46 S) 35 (by decide) rfl mF_X11_292 ?_
    refine aw_iloadn C dX11_beginsNode_358 rfl ?_
    refine aw_iast C dX11_beginsNode_359 (sA_75 S) hw.1 hw.2 (fun G20 hw => ?_)
    refine aw_aloadn C dX11_beginsNode_360 rfl ?_
    refine aw_getR (r := 76) C dX11_beginsNode_361 kcX11 (sA_46 S) 37 (by decide) rfl mF_X11_105 ?_
    refine aw_aloadn C dX11_beginsNode_364 rfl ?_
    refine aw_getI C dX11_beginsNode_365 kcX11 (sA_46 S) 35 (by decide) rfl mF_X11_292 ?_
    refine aw_aloadn C dX11_beginsNode_368 rfl ?_
    refine aw_getI C dX11_beginsNode_369 kcX11 (sA_46 S) 55 (by decide) rfl mF_X11_199 ?_
    refine aw_iast C dX11_beginsNode_372 (sA_76 S) hw.1 hw.2 (fun G21 hw => ?_)
    refine aw_aloadn C dX11_beginsNode_373 rfl ?_
    refine aw_getR (r := 77) C dX11_beginsNode_374 kcX11 (sA_46 S) 38 (by decide) rfl mF_X11_108 ?_
    refine aw_aloadn C dX11_beginsNode_377 rfl ?_
    refine aw_getI C dX11_beginsNode_378 kcX11 (sA_46 S) 35 (by decide) rfl mF_X11_292 ?_
    refine aw_iconst (v := 0) C dX11_beginsNode_381 (by decide) ?_
    refine aw_iast C dX11_beginsNode_382 (sA_77 S) hw.1 hw.2 (fun G22 hw => ?_)
    refine aw_aloadn C dX11_beginsNode_383 rfl ?_
    refine aw_dup C dX11_beginsNode_384 rfl ?_
    refine aw_getI C dX11_beginsNode_385 kcX11 (sA_46 S) 35 (by decide) rfl mF_X11_292 ?_
    refine aw_iconst (v := 1) C dX11_beginsNode_388 (by decide) ?_
    refine aw_iadd C dX11_beginsNode_389 ?_
    refine aw_putI C dX11_beginsNode_390 kcX11 (sA_46 S) 35 (by decide) rfl mF_X11_292 rfl rfl rfl hw (fun G23 hw => ?_)
    refine aw_aloadn C dX11_beginsNode_393 rfl ?_
    refine aw_iloadn C dX11_beginsNode_394 rfl ?_
    refine aw_sipush (v := 30000) C dX11_beginsNode_395 (by decide) ?_
    refine aw_aloadn C dX11_beginsNode_398 rfl ?_
    refine aw_getI C dX11_beginsNode_399 kcX11 (sA_46 S) 35 (by decide) rfl mF_X11_292 ?_
    refine aw_iadd C dX11_beginsNode_402 ?_
    refine aw_iconst (v := 1) C dX11_beginsNode_403 (by decide) ?_
    refine aw_isub C dX11_beginsNode_404 ?_
    refine aw_callV C dX11_beginsNode_405 (t_X11_ends S v2 ((30000 + (G23 46 35)) - 1) _ _ hw) mM_X11_262 bX11_ends (sA_46 S) rfl rfl ⟨Nat.le_of_ble_eq_true rfl, Nat.le_of_ble_eq_true rfl, Nat.zero_le _, Nat.zero_le _⟩ _ rfl (Nat.le_of_ble_eq_true rfl) (fun r405 G24 hq => ?_)
    obtain ⟨rfl, hw⟩ := hq
    refine aw_goto (tgt := 531) C dX11_beginsNode_408 (by decide) ?_
    exact aw_msk [false, false, false, false] (h531 _ hw)
  refine sw_if hw (fun ha33_26 hw => ?_) (fun ha33_26 hw => ?_)
  · refine aw_tab C 234 dX11_beginsNode_33 ha33_26 (by decide) (by decide) rfl (by decide) ?_
    exact aw_msk [true, true, true, false] (h234 (G0 46 54) v2 _ hw)
  refine sw_if hw (fun ha33_27 hw => ?_) (fun ha33_27 hw => ?_)
  · refine aw_tab C 426 dX11_beginsNode_33 ha33_27 (by decide) (by decide) rfl (by decide) ?_
    refine aw_aloadn C dX11_beginsNode_426 rfl ?_
    refine aw_iloadn C dX11_beginsNode_427 rfl ?_
    refine aw_aloadn C dX11_beginsNode_428 rfl ?_
    refine aw_getR (r := 56) C dX11_beginsNode_429 kcX11 (sA_46 S) 10 (by decide) rfl mF_X11_38 ?_
    refine aw_iloadn C dX11_beginsNode_432 rfl ?_
    refine aw_iald C dX11_beginsNode_433 (sA_56 S) hw.1 ?_
    replace hw := hw.2
    refine aw_callV C dX11_beginsNode_434 (t_X11_ends S v2 (G1 56 ((G1 48 ((G0 46 54) : Int32).toNatClampNeg) : Int32).toNatClampNeg) _ _ hw) mM_X11_262 bX11_ends (sA_46 S) rfl rfl ⟨Nat.le_of_ble_eq_true rfl, Nat.le_of_ble_eq_true rfl, Nat.zero_le _, Nat.zero_le _⟩ _ rfl (Nat.le_of_ble_eq_true rfl) (fun r434 G25 hq => ?_)
    obtain ⟨rfl, hw⟩ := hq
    refine aw_goto (tgt := 531) C dX11_beginsNode_437 (by decide) ?_
    exact aw_msk [false, false, false, false] (h531 _ hw)
  refine sw_if hw (fun ha33_28 hw => ?_) (fun ha33_28 hw => ?_)
  · refine aw_tab C 234 dX11_beginsNode_33 ha33_28 (by decide) (by decide) rfl (by decide) ?_
    exact aw_msk [true, true, true, false] (h234 (G0 46 54) v2 _ hw)
  refine sw_if hw (fun ha33_30 hw => ?_) (fun ha33_30 hw => ?_)
  · refine aw_tab C 469 dX11_beginsNode_33 ha33_30 (by decide) (by decide) rfl (by decide) ?_
    exact aw_msk [true, true, true, false] (h469 (G0 46 54) v2 _ hw)
  refine sw_if hw (fun ha33_32 hw => ?_) (fun ha33_32 hw => ?_)
  · refine aw_tab C 469 dX11_beginsNode_33 ha33_32 (by decide) (by decide) rfl (by decide) ?_
    exact aw_msk [true, true, true, false] (h469 (G0 46 54) v2 _ hw)
  refine sw_if hw (fun ha33_33 hw => ?_) (fun ha33_33 hw => ?_)
  · refine aw_tab C 469 dX11_beginsNode_33 ha33_33 (by decide) (by decide) rfl (by decide) ?_
    exact aw_msk [true, true, true, false] (h469 (G0 46 54) v2 _ hw)
  refine sw_if hw (fun ha33_34 hw => ?_) (fun ha33_34 hw => ?_)
  · refine aw_tab C 469 dX11_beginsNode_33 ha33_34 (by decide) (by decide) rfl (by decide) ?_
    exact aw_msk [true, true, true, false] (h469 (G0 46 54) v2 _ hw)
  refine sw_if hw (fun ha33_36 hw => ?_) (fun ha33_36 hw => ?_)
  · refine aw_tab C 483 dX11_beginsNode_33 ha33_36 (by decide) (by decide) rfl (by decide) ?_
    refine aw_aloadn C dX11_beginsNode_483 rfl ?_
    refine aw_getR (r := 68) C dX11_beginsNode_484 kcX11 (sA_46 S) 26 (by decide) rfl mF_X11_81 ?_
    refine aw_iloadn C dX11_beginsNode_487 rfl ?_
    refine aw_aloadn C dX11_beginsNode_488 rfl ?_
    refine aw_callV C dX11_beginsNode_489 (t_X11_inOrder S _ _ hw) mM_X11_304 bX11_inOrder (sA_46 S) rfl rfl ⟨Nat.le_of_ble_eq_true rfl, Nat.le_of_ble_eq_true rfl, Nat.zero_le _, Nat.zero_le _⟩ _ rfl (Nat.le_of_ble_eq_true rfl) (fun r489 G27 hq => ?_)
    obtain ⟨v28, rfl, hw⟩ := hq
    refine aw_iast C dX11_beginsNode_492 (sA_68 S) hw.1 hw.2 (fun G29 hw => ?_)
    refine aw_aloadn C dX11_beginsNode_493 rfl ?_
    refine aw_getR (r := 69) C dX11_beginsNode_494 kcX11 (sA_46 S) 27 (by decide) rfl mF_X11_84 ?_
    refine aw_iloadn C dX11_beginsNode_497 rfl ?_
    refine aw_bipush (v := 8) C dX11_beginsNode_498 (by decide) ?_
    refine aw_aloadn C dX11_beginsNode_500 rfl ?_
    refine aw_getI C dX11_beginsNode_501 kcX11 (sA_46 S) 14 (by decide) rfl mF_X11_180 ?_
    refine aw_imul C dX11_beginsNode_504 ?_
    refine aw_aloadn C dX11_beginsNode_505 rfl ?_
    refine aw_getR (r := 61) C dX11_beginsNode_506 kcX11 (sA_46 S) 18 (by decide) rfl mF_X11_60 ?_
    refine aw_aloadn C dX11_beginsNode_509 rfl ?_
    refine aw_getI C dX11_beginsNode_510 kcX11 (sA_46 S) 14 (by decide) rfl mF_X11_180 ?_
    refine aw_iald C dX11_beginsNode_513 (sA_61 S) hw.1 ?_
    replace hw := hw.2
    refine aw_iadd C dX11_beginsNode_514 ?_
    refine aw_iast C dX11_beginsNode_515 (sA_69 S) hw.1 hw.2 (fun G30 hw => ?_)
    refine aw_aloadn C dX11_beginsNode_516 rfl ?_
    refine aw_iloadn C dX11_beginsNode_517 rfl ?_
    refine aw_callV C dX11_beginsNode_518 (t_X11_goesOn S v2 _ _ hw) mM_X11_307 bX11_goesOn (sA_46 S) rfl rfl ⟨Nat.le_of_ble_eq_true rfl, Nat.le_of_ble_eq_true rfl, Nat.zero_le _, Nat.zero_le _⟩ _ rfl (Nat.le_of_ble_eq_true rfl) (fun r518 G31 hq => ?_)
    obtain ⟨rfl, hw⟩ := hq
    refine aw_goto (tgt := 531) C dX11_beginsNode_521 (by decide) ?_
    exact aw_msk [false, false, false, false] (h531 _ hw)
  refine sw_if hw (fun ha33_38 hw => ?_) (fun ha33_38 hw => ?_)
  · refine aw_tab C 440 dX11_beginsNode_33 ha33_38 (by decide) (by decide) rfl (by decide) ?_
    refine aw_aloadn C dX11_beginsNode_440 rfl ?_
    refine aw_iloadn C dX11_beginsNode_441 rfl ?_
    refine aw_iloadn C dX11_beginsNode_442 rfl ?_
    refine aw_aloadn C dX11_beginsNode_443 rfl ?_
    refine aw_getR (r := 49) C dX11_beginsNode_444 kcX11 (sA_46 S) 3 (by decide) rfl mF_X11_16 ?_
    refine aw_iloadn C dX11_beginsNode_447 rfl ?_
    refine aw_iald C dX11_beginsNode_448 (sA_49 S) hw.1 ?_
    replace hw := hw.2
    refine aw_callV C dX11_beginsNode_449 (t_X11_reloads S v2 (G1 48 ((G0 46 54) : Int32).toNatClampNeg) (G1 49 ((G0 46 54) : Int32).toNatClampNeg) _ _ hw) mM_X11_298 bX11_reloads (sA_46 S) rfl rfl ⟨Nat.le_of_ble_eq_true rfl, Nat.le_of_ble_eq_true rfl, Nat.zero_le _, Nat.zero_le _⟩ _ rfl (Nat.le_of_ble_eq_true rfl) (fun r449 G32 hq => ?_)
    obtain ⟨rfl, hw⟩ := hq
    refine aw_goto (tgt := 531) C dX11_beginsNode_452 (by decide) ?_
    exact aw_msk [false, false, false, false] (h531 _ hw)
  refine sw_if hw (fun ha33_39 hw => ?_) (fun ha33_39 hw => ?_)
  · refine aw_tab C 455 dX11_beginsNode_33 ha33_39 (by decide) (by decide) rfl (by decide) ?_
    refine aw_aloadn C dX11_beginsNode_455 rfl ?_
    refine aw_iloadn C dX11_beginsNode_456 rfl ?_
    refine aw_putI C dX11_beginsNode_457 kcX11 (sA_46 S) 12 (by decide) rfl mF_X11_44 rfl rfl rfl hw (fun G33 hw => ?_)
    refine aw_aloadn C dX11_beginsNode_460 rfl ?_
    refine aw_iloadn C dX11_beginsNode_461 rfl ?_
    refine aw_iconst (v := 0) C dX11_beginsNode_462 (by decide) ?_
    refine aw_callV C dX11_beginsNode_463 (t_X11_ends S v2 0 _ _ hw) mM_X11_262 bX11_ends (sA_46 S) rfl rfl ⟨Nat.le_of_ble_eq_true rfl, Nat.le_of_ble_eq_true rfl, Nat.zero_le _, Nat.zero_le _⟩ _ rfl (Nat.le_of_ble_eq_true rfl) (fun r463 G34 hq => ?_)
    obtain ⟨rfl, hw⟩ := hq
    refine aw_goto (tgt := 531) C dX11_beginsNode_466 (by decide) ?_
    exact aw_msk [false, false, false, false] (h531 _ hw)
  refine aw_tabDef C 524 dX11_beginsNode_33 39 (by decide) (by decide) (by decide) (fun i hi h => ?_) (by decide) ?_
  · exact match i, hi, h with
      | 0, _, h => absurd (h.trans (by decide)) ha33_0
      | 1, _, h => absurd (h.trans (by decide)) ha33_1
      | 2, _, h => absurd (h.trans (by decide)) ha33_2
      | 3, _, h => absurd (h.trans (by decide)) ha33_3
      | 4, _, h => rfl
      | 5, _, h => rfl
      | 6, _, h => rfl
      | 7, _, h => rfl
      | 8, _, h => rfl
      | 9, _, h => rfl
      | 10, _, h => rfl
      | 11, _, h => rfl
      | 12, _, h => absurd (h.trans (by decide)) ha33_12
      | 13, _, h => absurd (h.trans (by decide)) ha33_13
      | 14, _, h => absurd (h.trans (by decide)) ha33_14
      | 15, _, h => absurd (h.trans (by decide)) ha33_15
      | 16, _, h => absurd (h.trans (by decide)) ha33_16
      | 17, _, h => rfl
      | 18, _, h => absurd (h.trans (by decide)) ha33_18
      | 19, _, h => rfl
      | 20, _, h => absurd (h.trans (by decide)) ha33_20
      | 21, _, h => rfl
      | 22, _, h => rfl
      | 23, _, h => absurd (h.trans (by decide)) ha33_23
      | 24, _, h => rfl
      | 25, _, h => rfl
      | 26, _, h => absurd (h.trans (by decide)) ha33_26
      | 27, _, h => absurd (h.trans (by decide)) ha33_27
      | 28, _, h => absurd (h.trans (by decide)) ha33_28
      | 29, _, h => rfl
      | 30, _, h => absurd (h.trans (by decide)) ha33_30
      | 31, _, h => rfl
      | 32, _, h => absurd (h.trans (by decide)) ha33_32
      | 33, _, h => absurd (h.trans (by decide)) ha33_33
      | 34, _, h => absurd (h.trans (by decide)) ha33_34
      | 35, _, h => rfl
      | 36, _, h => absurd (h.trans (by decide)) ha33_36
      | 37, _, h => rfl
      | 38, _, h => absurd (h.trans (by decide)) ha33_38
      | 39, _, h => absurd (h.trans (by decide)) ha33_39
      | i + 40, hi, _ => absurd hi (by omega)
  exact aw_msk [true, false, true, true] (h524 v2 (G1 48 ((G0 46 54) : Int32).toNatClampNeg) _ hw)
def w_X11_hasValue_j661 (K : Gt → Prop)  (G0 : Gt) : Prop :=
  K G0
def w_X11_hasValue_j236 (K : Gt → Prop) (x1 : Int32) (x2 : Int32) (x3 : Int32) (x4 : Int32) (x5 : Int32) (G0 : Gt) : Prop :=
  pif (x4 = 0) (
    vp_in x1 1220 ∧
    pt (gu G0 68 (x1 : Int32).toNatClampNeg x2) fun G7 =>
    vp_in x3 120 ∧
    w_X11_parts (fun G8 =>
      w_X11_hasValue_j661 K G8) (G7 49 (x3 : Int32).toNatClampNeg) x1 1 G7) (
    vp_in x1 1220 ∧
    w_X11_reckons (fun G6 =>
      w_X11_hasValue_j661 K G6) x1 x5 (G0 68 (x1 : Int32).toNatClampNeg) x2 G0)
def w_X11_hasValue_j305 (K : Gt → Prop) (x1 : Int32) (y1 : Int32) (G0 : Gt) : Prop :=
  w_X11_parts (fun G10 =>
    w_X11_hasValue_j661 K G10) y1 x1 1 G0
def w_X11_hasValue_j627 (K : Gt → Prop) (x1 : Int32) (x2 : Int32) (G0 : Gt) : Prop :=
  w_X11_ends (fun G13 =>
    w_X11_hasValue_j661 K G13) x1 x2 G0
def w_X11_hasValue_j473 (K : Gt → Prop) (x1 : Int32) (x2 : Int32) (G0 : Gt) : Prop :=
  w_X11_leaves (fun G24 =>
    w_X11_hasValue_j661 K G24) x1 5 0 x2 G0
def w_X11_hasValue_j636 (K : Gt → Prop) (x1 : Int32) (x2 : Int32) (x5 : Int32) (G0 : Gt) : Prop :=
  w_X11_isNumber (fun v40 G39 =>
    pif (v40 = 0) (
      w_X11_fails (fun G41 =>
        w_X11_hasValue_j661 K G41) x1 (-3) G39) (
      w_X11_takes (fun G42 =>
        w_X11_hasValue_j661 K G42) x1 x5 x2 G39)) x2 G0
def w_X11_hasValue (K : Gt → Prop) (p0 : Int32) (p1 : Int32) (G0 : Gt) : Prop :=
  vp_in p0 1220 ∧
  vp_in p0 1220 ∧
  vp_in (G0 64 (p0 : Int32).toNatClampNeg) 120 ∧
  pif ((G0 47 ((G0 64 (p0 : Int32).toNatClampNeg) : Int32).toNatClampNeg) = 2) (
    vp_in p0 1220 ∧
    vp_in (G0 64 (p0 : Int32).toNatClampNeg) 120 ∧
    vp_in ((8 * (G0 66 (p0 : Int32).toNatClampNeg)) + (G0 48 ((G0 64 (p0 : Int32).toNatClampNeg) : Int32).toNatClampNeg)) 4960 ∧
    pt (gu G0 72 (((8 * (G0 66 (p0 : Int32).toNatClampNeg)) + (G0 48 ((G0 64 (p0 : Int32).toNatClampNeg) : Int32).toNatClampNeg)) : Int32).toNatClampNeg p1) fun G1 =>
    w_X11_ends (fun G2 =>
      w_X11_hasValue_j661 K G2) p0 p1 G1) (
  pif ((G0 47 ((G0 64 (p0 : Int32).toNatClampNeg) : Int32).toNatClampNeg) = 3) (
    vp_in p0 1220 ∧
    vp_in (G0 64 (p0 : Int32).toNatClampNeg) 120 ∧
    w_X11_cellOf (fun v4 G3 =>
      w_X11_puts (fun G5 =>
        w_X11_hasValue_j661 K G5) p0 v4 p1 G3) (G0 66 (p0 : Int32).toNatClampNeg) (G0 48 ((G0 64 (p0 : Int32).toNatClampNeg) : Int32).toNatClampNeg) G0) (
  pif ((G0 47 ((G0 64 (p0 : Int32).toNatClampNeg) : Int32).toNatClampNeg) = 4) (
    w_X11_hasValue_j236 K p0 p1 (G0 64 (p0 : Int32).toNatClampNeg) (G0 67 (p0 : Int32).toNatClampNeg) (G0 47 ((G0 64 (p0 : Int32).toNatClampNeg) : Int32).toNatClampNeg) G0) (
  pif ((G0 47 ((G0 64 (p0 : Int32).toNatClampNeg) : Int32).toNatClampNeg) = 5) (
    w_X11_hasValue_j236 K p0 p1 (G0 64 (p0 : Int32).toNatClampNeg) (G0 67 (p0 : Int32).toNatClampNeg) (G0 47 ((G0 64 (p0 : Int32).toNatClampNeg) : Int32).toNatClampNeg) G0) (
  pif ((G0 47 ((G0 64 (p0 : Int32).toNatClampNeg) : Int32).toNatClampNeg) = 6) (
    w_X11_hasValue_j236 K p0 p1 (G0 64 (p0 : Int32).toNatClampNeg) (G0 67 (p0 : Int32).toNatClampNeg) (G0 47 ((G0 64 (p0 : Int32).toNatClampNeg) : Int32).toNatClampNeg) G0) (
  pif ((G0 47 ((G0 64 (p0 : Int32).toNatClampNeg) : Int32).toNatClampNeg) = 7) (
    w_X11_hasValue_j236 K p0 p1 (G0 64 (p0 : Int32).toNatClampNeg) (G0 67 (p0 : Int32).toNatClampNeg) (G0 47 ((G0 64 (p0 : Int32).toNatClampNeg) : Int32).toNatClampNeg) G0) (
  pif ((G0 47 ((G0 64 (p0 : Int32).toNatClampNeg) : Int32).toNatClampNeg) = 8) (
    w_X11_hasValue_j236 K p0 p1 (G0 64 (p0 : Int32).toNatClampNeg) (G0 67 (p0 : Int32).toNatClampNeg) (G0 47 ((G0 64 (p0 : Int32).toNatClampNeg) : Int32).toNatClampNeg) G0) (
  pif ((G0 47 ((G0 64 (p0 : Int32).toNatClampNeg) : Int32).toNatClampNeg) = 9) (
    w_X11_hasValue_j236 K p0 p1 (G0 64 (p0 : Int32).toNatClampNeg) (G0 67 (p0 : Int32).toNatClampNeg) (G0 47 ((G0 64 (p0 : Int32).toNatClampNeg) : Int32).toNatClampNeg) G0) (
  pif ((G0 47 ((G0 64 (p0 : Int32).toNatClampNeg) : Int32).toNatClampNeg) = 10) (
    pif ((G0 67 (p0 : Int32).toNatClampNeg) = 0) (
      pif (p1 = 0) (
        vp_in (G0 64 (p0 : Int32).toNatClampNeg) 120 ∧
        w_X11_hasValue_j305 K p0 (G0 50 ((G0 64 (p0 : Int32).toNatClampNeg) : Int32).toNatClampNeg) G0) (
        vp_in (G0 64 (p0 : Int32).toNatClampNeg) 120 ∧
        w_X11_hasValue_j305 K p0 (G0 49 ((G0 64 (p0 : Int32).toNatClampNeg) : Int32).toNatClampNeg) G0)) (
      w_X11_ends (fun G9 =>
        w_X11_hasValue_j661 K G9) p0 p1 G0)) (
  pif ((G0 47 ((G0 64 (p0 : Int32).toNatClampNeg) : Int32).toNatClampNeg) = 11) (
    pif ((G0 67 (p0 : Int32).toNatClampNeg) = 0) (
      vp_in (G0 64 (p0 : Int32).toNatClampNeg) 120 ∧
      w_X11_parts (fun G12 =>
        w_X11_hasValue_j661 K G12) (G0 49 ((G0 64 (p0 : Int32).toNatClampNeg) : Int32).toNatClampNeg) p0 1 G0) (
      w_X11_ends (fun G11 =>
        w_X11_hasValue_j661 K G11) p0 p1 G0)) (
  pif ((G0 47 ((G0 64 (p0 : Int32).toNatClampNeg) : Int32).toNatClampNeg) = 12) (
    w_X11_hasValue_j627 K p0 p1 G0) (
  pif ((G0 47 ((G0 64 (p0 : Int32).toNatClampNeg) : Int32).toNatClampNeg) = 13) (
    vp_in (G0 64 (p0 : Int32).toNatClampNeg) 120 ∧
    vp_in p0 1220 ∧
    w_X11_opens (fun v15 G14 =>
      w_X11_asks (fun G16 =>
        w_X11_hasValue_j661 K G16) (G0 49 ((G0 64 (p0 : Int32).toNatClampNeg) : Int32).toNatClampNeg) p0 v15 G14) (G0 66 (p0 : Int32).toNatClampNeg) G0) (
  pif ((G0 47 ((G0 64 (p0 : Int32).toNatClampNeg) : Int32).toNatClampNeg) = 14) (
    vp_in (G0 64 (p0 : Int32).toNatClampNeg) 120 ∧
    w_X11_leavesTo (fun G17 =>
      w_X11_hasValue_j661 K G17) p0 3 (G0 48 ((G0 64 (p0 : Int32).toNatClampNeg) : Int32).toNatClampNeg) p1 G0) (
  pif ((G0 47 ((G0 64 (p0 : Int32).toNatClampNeg) : Int32).toNatClampNeg) = 17) (
    pif ((G0 67 (p0 : Int32).toNatClampNeg) = 0) (
      vp_in p0 1220 ∧
      pt (gu G0 68 (p0 : Int32).toNatClampNeg p1) fun G19 =>
      vp_in (G0 64 (p0 : Int32).toNatClampNeg) 120 ∧
      w_X11_parts (fun G20 =>
        w_X11_hasValue_j661 K G20) (G19 49 ((G0 64 (p0 : Int32).toNatClampNeg) : Int32).toNatClampNeg) p0 1 G19) (
      vp_in p0 1220 ∧
      w_X11_applies (fun G18 =>
        w_X11_hasValue_j661 K G18) p0 (G0 68 (p0 : Int32).toNatClampNeg) p1 G0)) (
  pif ((G0 47 ((G0 64 (p0 : Int32).toNatClampNeg) : Int32).toNatClampNeg) = 18) (
    w_X11_hasArgument (fun G21 =>
      w_X11_hasValue_j661 K G21) p0 (G0 64 (p0 : Int32).toNatClampNeg) (G0 67 (p0 : Int32).toNatClampNeg) p1 G0) (
  pif ((G0 47 ((G0 64 (p0 : Int32).toNatClampNeg) : Int32).toNatClampNeg) = 19) (
    w_X11_bodyOf (fun v23 G22 =>
      vp_in v23 1220 ∧
      pif ((G22 67 (v23 : Int32).toNatClampNeg) = 1) (
        w_X11_hasValue_j473 K p0 p1 G22) (
        w_X11_bodyOf (fun v26 G25 =>
          vp_in v26 1220 ∧
          pif ((G25 67 (v26 : Int32).toNatClampNeg) = 2) (
            w_X11_hasValue_j473 K p0 p1 G25) (
            w_X11_fails (fun G27 =>
              w_X11_hasValue_j661 K G27) p0 (-6) G25)) p0 G22)) p0 G0) (
  pif ((G0 47 ((G0 64 (p0 : Int32).toNatClampNeg) : Int32).toNatClampNeg) = 20) (
    w_X11_hasValue_j627 K p0 p1 G0) (
  pif ((G0 47 ((G0 64 (p0 : Int32).toNatClampNeg) : Int32).toNatClampNeg) = 21) (
    pif ((G0 67 (p0 : Int32).toNatClampNeg) = 0) (
      w_X11_waits (fun G29 =>
        w_X11_hasValue_j661 K G29) p0 (G0 64 (p0 : Int32).toNatClampNeg) G0) (
      w_X11_isOver (fun G28 =>
        w_X11_hasValue_j661 K G28) p0 G0)) (
  pif ((G0 47 ((G0 64 (p0 : Int32).toNatClampNeg) : Int32).toNatClampNeg) = 24) (
    w_X11_yields (fun G30 =>
      w_X11_hasValue_j661 K G30) p0 p1 G0) (
  pif ((G0 47 ((G0 64 (p0 : Int32).toNatClampNeg) : Int32).toNatClampNeg) = 25) (
    w_X11_asksOf (fun G31 =>
      w_X11_hasValue_j661 K G31) p0 p1 G0) (
  pif ((G0 47 ((G0 64 (p0 : Int32).toNatClampNeg) : Int32).toNatClampNeg) = 26) (
    pif ((G0 67 (p0 : Int32).toNatClampNeg) = 0) (
      vp_in (G0 64 (p0 : Int32).toNatClampNeg) 120 ∧
      vp_in (G0 48 ((G0 64 (p0 : Int32).toNatClampNeg) : Int32).toNatClampNeg) 4 ∧
      vp_in p0 1220 ∧
      pt (gu G0 68 (p0 : Int32).toNatClampNeg (G0 56 ((G0 48 ((G0 64 (p0 : Int32).toNatClampNeg) : Int32).toNatClampNeg) : Int32).toNatClampNeg)) fun G34 =>
      vp_in (G0 64 (p0 : Int32).toNatClampNeg) 120 ∧
      vp_in (G34 48 ((G0 64 (p0 : Int32).toNatClampNeg) : Int32).toNatClampNeg) 4 ∧
      pt (gu G34 56 ((G34 48 ((G0 64 (p0 : Int32).toNatClampNeg) : Int32).toNatClampNeg) : Int32).toNatClampNeg p1) fun G35 =>
      vp_in (G0 64 (p0 : Int32).toNatClampNeg) 120 ∧
      w_X11_parts (fun G36 =>
        w_X11_hasValue_j661 K G36) (G35 50 ((G0 64 (p0 : Int32).toNatClampNeg) : Int32).toNatClampNeg) p0 1 G35) (
      vp_in (G0 64 (p0 : Int32).toNatClampNeg) 120 ∧
      vp_in p0 1220 ∧
      vp_in (G0 48 ((G0 64 (p0 : Int32).toNatClampNeg) : Int32).toNatClampNeg) 4 ∧
      pt (gu G0 56 ((G0 48 ((G0 64 (p0 : Int32).toNatClampNeg) : Int32).toNatClampNeg) : Int32).toNatClampNeg (G0 68 (p0 : Int32).toNatClampNeg)) fun G32 =>
      w_X11_ends (fun G33 =>
        w_X11_hasValue_j661 K G33) p0 p1 G32)) (
  pif ((G0 47 ((G0 64 (p0 : Int32).toNatClampNeg) : Int32).toNatClampNeg) = 36) (
    vp_in p0 1220 ∧
    vp_in p0 1220 ∧
    pt (gu G0 67 (p0 : Int32).toNatClampNeg ((G0 67 (p0 : Int32).toNatClampNeg) + 1)) fun G37 =>
    w_X11_goesOn (fun G38 =>
      w_X11_hasValue_j661 K G38) p0 G37) (
    w_X11_hasValue_j636 K p0 p1 (G0 47 ((G0 64 (p0 : Int32).toNatClampNeg) : Int32).toNatClampNeg) G0))))))))))))))))))))))
set_option maxHeartbeats 4000000 in
set_option maxRecDepth 100000 in
theorem t_X11_hasValue {l : Launch} {sh : Sh} (S : shOK sh) (p0 : Int32) (p1 : Int32) (G0 : Gt) (K : Gt → Prop) (hw : w_X11_hasValue K p0 p1 G0) : CT0 l yX11_hasValue cX11_hasValue 6 none 6 144 [.ref 46, .int p0, .int p1] sh G0 (fun r G' => r = none ∧ K G') := by
  refine CT0_of (by decide) (Nat.le_of_ble_eq_true rfl) rfl ?_
  intro p e s m args below meth c D tA ad A C hr _
  have h661 : ∀ (G0 : Gt), w_X11_hasValue_j661 K  G0 → aw p l e { frames := 6, cells := 0, slots := 0, locals := 144 } s m args below meth c 6 D tA A (MQ below (QC0 D tA ad A sh (fun r G' => r = none ∧ K G')) args s 0 0 A) 0 0 ad 661 [none, none, none, none, none, none] [] sh G0 := by
    intro   G0 hw
    unfold w_X11_hasValue_j661 at hw
    exact aw_return C hr dX11_hasValue_661 ⟨rfl, hw⟩
  have h236 : ∀ (x1 : Int32) (x2 : Int32) (x3 : Int32) (x4 : Int32) (x5 : Int32) (G0 : Gt), w_X11_hasValue_j236 K x1 x2 x3 x4 x5 G0 → aw p l e { frames := 6, cells := 0, slots := 0, locals := 144 } s m args below meth c 6 D tA A (MQ below (QC0 D tA ad A sh (fun r G' => r = none ∧ K G')) args s 0 0 A) 0 0 ad 236 [some (.ref 46), some (.int x1), some (.int x2), some (.int x3), some (.int x4), some (.int x5)] [] sh G0 := by
    intro  x1 x2 x3 x4 x5 G0 hw
    unfold w_X11_hasValue_j236 at hw
    refine aw_iload C dX11_hasValue_236 rfl ?_
    refine aw_if_ne C dX11_hasValue_238 263 (by decide) hw (fun hc238 hw => ?_) (fun hc238 hw => ?_)
    · refine aw_aloadn C dX11_hasValue_263 rfl ?_
      refine aw_iloadn C dX11_hasValue_264 rfl ?_
      refine aw_iload C dX11_hasValue_265 rfl ?_
      refine aw_aloadn C dX11_hasValue_267 rfl ?_
      refine aw_getR (r := 68) C dX11_hasValue_268 kcX11 (sA_46 S) 26 (by decide) rfl mF_X11_81 ?_
      refine aw_iloadn C dX11_hasValue_271 rfl ?_
      refine aw_iald C dX11_hasValue_272 (sA_68 S) hw.1 ?_
      replace hw := hw.2
      refine aw_iloadn C dX11_hasValue_273 rfl ?_
      refine aw_callV C dX11_hasValue_274 (t_X11_reckons S x1 x5 (G0 68 (x1 : Int32).toNatClampNeg) x2 _ _ hw) mM_X11_349 bX11_reckons (sA_46 S) rfl rfl ⟨Nat.le_of_ble_eq_true rfl, Nat.le_of_ble_eq_true rfl, Nat.zero_le _, Nat.zero_le _⟩ _ rfl (Nat.le_of_ble_eq_true rfl) (fun r274 G6 hq => ?_)
      obtain ⟨rfl, hw⟩ := hq
      refine aw_goto (tgt := 661) C dX11_hasValue_277 (by decide) ?_
      exact aw_msk [false, false, false, false, false, false] (h661 _ hw)
    · refine aw_aloadn C dX11_hasValue_241 rfl ?_
      refine aw_getR (r := 68) C dX11_hasValue_242 kcX11 (sA_46 S) 26 (by decide) rfl mF_X11_81 ?_
      refine aw_iloadn C dX11_hasValue_245 rfl ?_
      refine aw_iloadn C dX11_hasValue_246 rfl ?_
      refine aw_iast C dX11_hasValue_247 (sA_68 S) hw.1 hw.2 (fun G7 hw => ?_)
      refine aw_aloadn C dX11_hasValue_248 rfl ?_
      refine aw_aloadn C dX11_hasValue_249 rfl ?_
      refine aw_getR (r := 49) C dX11_hasValue_250 kcX11 (sA_46 S) 3 (by decide) rfl mF_X11_16 ?_
      refine aw_iloadn C dX11_hasValue_253 rfl ?_
      refine aw_iald C dX11_hasValue_254 (sA_49 S) hw.1 ?_
      replace hw := hw.2
      refine aw_iloadn C dX11_hasValue_255 rfl ?_
      refine aw_iconst (v := 1) C dX11_hasValue_256 (by decide) ?_
      refine aw_callV C dX11_hasValue_257 (t_X11_parts S (G7 49 (x3 : Int32).toNatClampNeg) x1 1 _ _ hw) mM_X11_273 bX11_parts (sA_46 S) rfl rfl ⟨Nat.le_of_ble_eq_true rfl, Nat.le_of_ble_eq_true rfl, Nat.zero_le _, Nat.zero_le _⟩ _ rfl (Nat.le_of_ble_eq_true rfl) (fun r257 G8 hq => ?_)
      obtain ⟨rfl, hw⟩ := hq
      refine aw_goto (tgt := 661) C dX11_hasValue_260 (by decide) ?_
      exact aw_msk [false, false, false, false, false, false] (h661 _ hw)
  have h305 : ∀ (x1 : Int32) (y1 : Int32) (G0 : Gt), w_X11_hasValue_j305 K x1 y1 G0 → aw p l e { frames := 6, cells := 0, slots := 0, locals := 144 } s m args below meth c 6 D tA A (MQ below (QC0 D tA ad A sh (fun r G' => r = none ∧ K G')) args s 0 0 A) 0 0 ad 305 [none, some (.int x1), none, none, none, none] [.int y1, .ref 46] sh G0 := by
    intro  x1 y1 G0 hw
    unfold w_X11_hasValue_j305 at hw
    refine aw_iloadn C dX11_hasValue_305 rfl ?_
    refine aw_iconst (v := 1) C dX11_hasValue_306 (by decide) ?_
    refine aw_callV C dX11_hasValue_307 (t_X11_parts S y1 x1 1 _ _ hw) mM_X11_273 bX11_parts (sA_46 S) rfl rfl ⟨Nat.le_of_ble_eq_true rfl, Nat.le_of_ble_eq_true rfl, Nat.zero_le _, Nat.zero_le _⟩ _ rfl (Nat.le_of_ble_eq_true rfl) (fun r307 G10 hq => ?_)
    obtain ⟨rfl, hw⟩ := hq
    refine aw_goto (tgt := 661) C dX11_hasValue_310 (by decide) ?_
    exact aw_msk [false, false, false, false, false, false] (h661 _ hw)
  have h627 : ∀ (x1 : Int32) (x2 : Int32) (G0 : Gt), w_X11_hasValue_j627 K x1 x2 G0 → aw p l e { frames := 6, cells := 0, slots := 0, locals := 144 } s m args below meth c 6 D tA A (MQ below (QC0 D tA ad A sh (fun r G' => r = none ∧ K G')) args s 0 0 A) 0 0 ad 627 [some (.ref 46), some (.int x1), some (.int x2), none, none, none] [] sh G0 := by
    intro  x1 x2 G0 hw
    unfold w_X11_hasValue_j627 at hw
    refine aw_aloadn C dX11_hasValue_627 rfl ?_
    refine aw_iloadn C dX11_hasValue_628 rfl ?_
    refine aw_iloadn C dX11_hasValue_629 rfl ?_
    refine aw_callV C dX11_hasValue_630 (t_X11_ends S x1 x2 _ _ hw) mM_X11_262 bX11_ends (sA_46 S) rfl rfl ⟨Nat.le_of_ble_eq_true rfl, Nat.le_of_ble_eq_true rfl, Nat.zero_le _, Nat.zero_le _⟩ _ rfl (Nat.le_of_ble_eq_true rfl) (fun r630 G13 hq => ?_)
    obtain ⟨rfl, hw⟩ := hq
    refine aw_goto (tgt := 661) C dX11_hasValue_633 (by decide) ?_
    exact aw_msk [false, false, false, false, false, false] (h661 _ hw)
  have h473 : ∀ (x1 : Int32) (x2 : Int32) (G0 : Gt), w_X11_hasValue_j473 K x1 x2 G0 → aw p l e { frames := 6, cells := 0, slots := 0, locals := 144 } s m args below meth c 6 D tA A (MQ below (QC0 D tA ad A sh (fun r G' => r = none ∧ K G')) args s 0 0 A) 0 0 ad 473 [some (.ref 46), some (.int x1), some (.int x2), none, none, none] [] sh G0 := by
    intro  x1 x2 G0 hw
    unfold w_X11_hasValue_j473 at hw
    refine aw_aloadn C dX11_hasValue_473 rfl ?_
    refine aw_iloadn C dX11_hasValue_474 rfl ?_
    refine aw_iconst (v := 5) C dX11_hasValue_475 (by decide) ?_
    refine aw_iconst (v := 0) C dX11_hasValue_476 (by decide) ?_
    refine aw_iloadn C dX11_hasValue_477 rfl ?_
    refine aw_callV C dX11_hasValue_478 (t_X11_leaves S x1 5 0 x2 _ _ hw) mM_X11_319 bX11_leaves (sA_46 S) rfl rfl ⟨Nat.le_of_ble_eq_true rfl, Nat.le_of_ble_eq_true rfl, Nat.zero_le _, Nat.zero_le _⟩ _ rfl (Nat.le_of_ble_eq_true rfl) (fun r478 G24 hq => ?_)
    obtain ⟨rfl, hw⟩ := hq
    refine aw_goto (tgt := 661) C dX11_hasValue_481 (by decide) ?_
    exact aw_msk [false, false, false, false, false, false] (h661 _ hw)
  have h636 : ∀ (x1 : Int32) (x2 : Int32) (x5 : Int32) (G0 : Gt), w_X11_hasValue_j636 K x1 x2 x5 G0 → aw p l e { frames := 6, cells := 0, slots := 0, locals := 144 } s m args below meth c 6 D tA A (MQ below (QC0 D tA ad A sh (fun r G' => r = none ∧ K G')) args s 0 0 A) 0 0 ad 636 [some (.ref 46), some (.int x1), some (.int x2), none, none, some (.int x5)] [] sh G0 := by
    intro  x1 x2 x5 G0 hw
    unfold w_X11_hasValue_j636 at hw
    refine aw_iloadn C dX11_hasValue_636 rfl ?_
    refine aw_callS C dX11_hasValue_637 (t_X11_isNumber x2 _ _ hw) mM_X11_324 bX11_isNumber rfl rfl ⟨Nat.le_of_ble_eq_true rfl, Nat.le_of_ble_eq_true rfl, Nat.zero_le _, Nat.zero_le _⟩ _ rfl (Nat.le_of_ble_eq_true rfl) (fun r637 G39 hq => ?_)
    obtain ⟨v40, rfl, hw⟩ := hq
    refine aw_if_eq C dX11_hasValue_640 654 (by decide) hw (fun hc640 hw => ?_) (fun hc640 hw => ?_)
    · refine aw_aloadn C dX11_hasValue_654 rfl ?_
      refine aw_iloadn C dX11_hasValue_655 rfl ?_
      refine aw_bipush (v := (-3)) C dX11_hasValue_656 (by decide) ?_
      refine aw_callV C dX11_hasValue_658 (t_X11_fails S x1 (-3) _ _ hw) mM_X11_237 bX11_fails (sA_46 S) rfl rfl ⟨Nat.le_of_ble_eq_true rfl, Nat.le_of_ble_eq_true rfl, Nat.zero_le _, Nat.zero_le _⟩ _ rfl (Nat.le_of_ble_eq_true rfl) (fun r658 G41 hq => ?_)
      obtain ⟨rfl, hw⟩ := hq
      exact aw_msk [false, false, false, false, false, false] (h661 _ hw)
    · refine aw_aloadn C dX11_hasValue_643 rfl ?_
      refine aw_iloadn C dX11_hasValue_644 rfl ?_
      refine aw_iload C dX11_hasValue_645 rfl ?_
      refine aw_iloadn C dX11_hasValue_647 rfl ?_
      refine aw_callV C dX11_hasValue_648 (t_X11_takes S x1 x5 x2 _ _ hw) mM_X11_370 bX11_takes (sA_46 S) rfl rfl ⟨Nat.le_of_ble_eq_true rfl, Nat.le_of_ble_eq_true rfl, Nat.zero_le _, Nat.zero_le _⟩ _ rfl (Nat.le_of_ble_eq_true rfl) (fun r648 G42 hq => ?_)
      obtain ⟨rfl, hw⟩ := hq
      refine aw_goto (tgt := 661) C dX11_hasValue_651 (by decide) ?_
      exact aw_msk [false, false, false, false, false, false] (h661 _ hw)
  unfold w_X11_hasValue at hw
  show aw p l e { frames := 6, cells := 0, slots := 0, locals := 144 } s m args below meth c 6 D tA A (MQ below (QC0 D tA ad A sh (fun r G' => r = none ∧ K G')) args s 0 0 A) 0 0 ad 0 [some (.ref 46), some (.int p0), some (.int p1), none, none, none] [] sh G0
  refine aw_aloadn C dX11_hasValue_0 rfl ?_
  refine aw_getR (r := 64) C dX11_hasValue_1 kcX11 (sA_46 S) 22 (by decide) rfl mF_X11_69 ?_
  refine aw_iloadn C dX11_hasValue_4 rfl ?_
  refine aw_iald C dX11_hasValue_5 (sA_64 S) hw.1 ?_
  replace hw := hw.2
  refine aw_istoren C dX11_hasValue_6 (by decide) rfl ?_
  refine aw_aloadn C dX11_hasValue_7 rfl ?_
  refine aw_getR (r := 67) C dX11_hasValue_8 kcX11 (sA_46 S) 25 (by decide) rfl mF_X11_78 ?_
  refine aw_iloadn C dX11_hasValue_11 rfl ?_
  refine aw_iald C dX11_hasValue_12 (sA_67 S) hw.1 ?_
  replace hw := hw.2
  refine aw_istore C dX11_hasValue_13 (by decide) rfl ?_
  refine aw_aloadn C dX11_hasValue_15 rfl ?_
  refine aw_getR (r := 47) C dX11_hasValue_16 kcX11 (sA_46 S) 1 (by decide) rfl mF_X11_7 ?_
  refine aw_iloadn C dX11_hasValue_19 rfl ?_
  refine aw_iald C dX11_hasValue_20 (sA_47 S) hw.1 ?_
  replace hw := hw.2
  refine aw_istore C dX11_hasValue_21 (by decide) rfl ?_
  refine aw_iload C dX11_hasValue_23 rfl ?_
  refine sw_if hw (fun ha25_2 hw => ?_) (fun ha25_2 hw => ?_)
  · refine aw_tab C 180 dX11_hasValue_25 ha25_2 (by decide) (by decide) rfl (by decide) ?_
    refine aw_aloadn C dX11_hasValue_180 rfl ?_
    refine aw_getR (r := 72) C dX11_hasValue_181 kcX11 (sA_46 S) 31 (by decide) rfl mF_X11_93 ?_
    refine aw_bipush (v := 8) C dX11_hasValue_184 (by decide) ?_
    refine aw_aloadn C dX11_hasValue_186 rfl ?_
    refine aw_getR (r := 66) C dX11_hasValue_187 kcX11 (sA_46 S) 24 (by decide) rfl mF_X11_75 ?_
    refine aw_iloadn C dX11_hasValue_190 rfl ?_
    refine aw_iald C dX11_hasValue_191 (sA_66 S) hw.1 ?_
    replace hw := hw.2
    refine aw_imul C dX11_hasValue_192 ?_
    refine aw_aloadn C dX11_hasValue_193 rfl ?_
    refine aw_getR (r := 48) C dX11_hasValue_194 kcX11 (sA_46 S) 2 (by decide) rfl mF_X11_13 ?_
    refine aw_iloadn C dX11_hasValue_197 rfl ?_
    refine aw_iald C dX11_hasValue_198 (sA_48 S) hw.1 ?_
    replace hw := hw.2
    refine aw_iadd C dX11_hasValue_199 ?_
    refine aw_iloadn C dX11_hasValue_200 rfl ?_
    refine aw_iast C dX11_hasValue_201 (sA_72 S) hw.1 hw.2 (fun G1 hw => ?_)
    refine aw_aloadn C dX11_hasValue_202 rfl ?_
    refine aw_iloadn C dX11_hasValue_203 rfl ?_
    refine aw_iloadn C dX11_hasValue_204 rfl ?_
    refine aw_callV C dX11_hasValue_205 (t_X11_ends S p0 p1 _ _ hw) mM_X11_262 bX11_ends (sA_46 S) rfl rfl ⟨Nat.le_of_ble_eq_true rfl, Nat.le_of_ble_eq_true rfl, Nat.zero_le _, Nat.zero_le _⟩ _ rfl (Nat.le_of_ble_eq_true rfl) (fun r205 G2 hq => ?_)
    obtain ⟨rfl, hw⟩ := hq
    refine aw_goto (tgt := 661) C dX11_hasValue_208 (by decide) ?_
    exact aw_msk [false, false, false, false, false, false] (h661 _ hw)
  refine sw_if hw (fun ha25_3 hw => ?_) (fun ha25_3 hw => ?_)
  · refine aw_tab C 211 dX11_hasValue_25 ha25_3 (by decide) (by decide) rfl (by decide) ?_
    refine aw_aloadn C dX11_hasValue_211 rfl ?_
    refine aw_iloadn C dX11_hasValue_212 rfl ?_
    refine aw_aloadn C dX11_hasValue_213 rfl ?_
    refine aw_aloadn C dX11_hasValue_214 rfl ?_
    refine aw_getR (r := 66) C dX11_hasValue_215 kcX11 (sA_46 S) 24 (by decide) rfl mF_X11_75 ?_
    refine aw_iloadn C dX11_hasValue_218 rfl ?_
    refine aw_iald C dX11_hasValue_219 (sA_66 S) hw.1 ?_
    replace hw := hw.2
    refine aw_aloadn C dX11_hasValue_220 rfl ?_
    refine aw_getR (r := 48) C dX11_hasValue_221 kcX11 (sA_46 S) 2 (by decide) rfl mF_X11_13 ?_
    refine aw_iloadn C dX11_hasValue_224 rfl ?_
    refine aw_iald C dX11_hasValue_225 (sA_48 S) hw.1 ?_
    replace hw := hw.2
    refine aw_callV C dX11_hasValue_226 (t_X11_cellOf S (G0 66 (p0 : Int32).toNatClampNeg) (G0 48 ((G0 64 (p0 : Int32).toNatClampNeg) : Int32).toNatClampNeg) _ _ hw) mM_X11_279 bX11_cellOf (sA_46 S) rfl rfl ⟨Nat.le_of_ble_eq_true rfl, Nat.le_of_ble_eq_true rfl, Nat.zero_le _, Nat.zero_le _⟩ _ rfl (Nat.le_of_ble_eq_true rfl) (fun r226 G3 hq => ?_)
    obtain ⟨v4, rfl, hw⟩ := hq
    refine aw_iloadn C dX11_hasValue_229 rfl ?_
    refine aw_callV C dX11_hasValue_230 (t_X11_puts S p0 v4 p1 _ _ hw) mM_X11_346 bX11_puts (sA_46 S) rfl rfl ⟨Nat.le_of_ble_eq_true rfl, Nat.le_of_ble_eq_true rfl, Nat.zero_le _, Nat.zero_le _⟩ _ rfl (Nat.le_of_ble_eq_true rfl) (fun r230 G5 hq => ?_)
    obtain ⟨rfl, hw⟩ := hq
    refine aw_goto (tgt := 661) C dX11_hasValue_233 (by decide) ?_
    exact aw_msk [false, false, false, false, false, false] (h661 _ hw)
  refine sw_if hw (fun ha25_4 hw => ?_) (fun ha25_4 hw => ?_)
  · refine aw_tab C 236 dX11_hasValue_25 ha25_4 (by decide) (by decide) rfl (by decide) ?_
    exact aw_msk [true, true, true, true, true, true] (h236 p0 p1 (G0 64 (p0 : Int32).toNatClampNeg) (G0 67 (p0 : Int32).toNatClampNeg) (G0 47 ((G0 64 (p0 : Int32).toNatClampNeg) : Int32).toNatClampNeg) _ hw)
  refine sw_if hw (fun ha25_5 hw => ?_) (fun ha25_5 hw => ?_)
  · refine aw_tab C 236 dX11_hasValue_25 ha25_5 (by decide) (by decide) rfl (by decide) ?_
    exact aw_msk [true, true, true, true, true, true] (h236 p0 p1 (G0 64 (p0 : Int32).toNatClampNeg) (G0 67 (p0 : Int32).toNatClampNeg) (G0 47 ((G0 64 (p0 : Int32).toNatClampNeg) : Int32).toNatClampNeg) _ hw)
  refine sw_if hw (fun ha25_6 hw => ?_) (fun ha25_6 hw => ?_)
  · refine aw_tab C 236 dX11_hasValue_25 ha25_6 (by decide) (by decide) rfl (by decide) ?_
    exact aw_msk [true, true, true, true, true, true] (h236 p0 p1 (G0 64 (p0 : Int32).toNatClampNeg) (G0 67 (p0 : Int32).toNatClampNeg) (G0 47 ((G0 64 (p0 : Int32).toNatClampNeg) : Int32).toNatClampNeg) _ hw)
  refine sw_if hw (fun ha25_7 hw => ?_) (fun ha25_7 hw => ?_)
  · refine aw_tab C 236 dX11_hasValue_25 ha25_7 (by decide) (by decide) rfl (by decide) ?_
    exact aw_msk [true, true, true, true, true, true] (h236 p0 p1 (G0 64 (p0 : Int32).toNatClampNeg) (G0 67 (p0 : Int32).toNatClampNeg) (G0 47 ((G0 64 (p0 : Int32).toNatClampNeg) : Int32).toNatClampNeg) _ hw)
  refine sw_if hw (fun ha25_8 hw => ?_) (fun ha25_8 hw => ?_)
  · refine aw_tab C 236 dX11_hasValue_25 ha25_8 (by decide) (by decide) rfl (by decide) ?_
    exact aw_msk [true, true, true, true, true, true] (h236 p0 p1 (G0 64 (p0 : Int32).toNatClampNeg) (G0 67 (p0 : Int32).toNatClampNeg) (G0 47 ((G0 64 (p0 : Int32).toNatClampNeg) : Int32).toNatClampNeg) _ hw)
  refine sw_if hw (fun ha25_9 hw => ?_) (fun ha25_9 hw => ?_)
  · refine aw_tab C 236 dX11_hasValue_25 ha25_9 (by decide) (by decide) rfl (by decide) ?_
    exact aw_msk [true, true, true, true, true, true] (h236 p0 p1 (G0 64 (p0 : Int32).toNatClampNeg) (G0 67 (p0 : Int32).toNatClampNeg) (G0 47 ((G0 64 (p0 : Int32).toNatClampNeg) : Int32).toNatClampNeg) _ hw)
  refine sw_if hw (fun ha25_10 hw => ?_) (fun ha25_10 hw => ?_)
  · refine aw_tab C 280 dX11_hasValue_25 ha25_10 (by decide) (by decide) rfl (by decide) ?_
    refine aw_iload C dX11_hasValue_280 rfl ?_
    refine aw_if_ne C dX11_hasValue_282 313 (by decide) hw (fun hc282 hw => ?_) (fun hc282 hw => ?_)
    · refine aw_aloadn C dX11_hasValue_313 rfl ?_
      refine aw_iloadn C dX11_hasValue_314 rfl ?_
      refine aw_iloadn C dX11_hasValue_315 rfl ?_
      refine aw_callV C dX11_hasValue_316 (t_X11_ends S p0 p1 _ _ hw) mM_X11_262 bX11_ends (sA_46 S) rfl rfl ⟨Nat.le_of_ble_eq_true rfl, Nat.le_of_ble_eq_true rfl, Nat.zero_le _, Nat.zero_le _⟩ _ rfl (Nat.le_of_ble_eq_true rfl) (fun r316 G9 hq => ?_)
      obtain ⟨rfl, hw⟩ := hq
      refine aw_goto (tgt := 661) C dX11_hasValue_319 (by decide) ?_
      exact aw_msk [false, false, false, false, false, false] (h661 _ hw)
    · refine aw_aloadn C dX11_hasValue_285 rfl ?_
      refine aw_iloadn C dX11_hasValue_286 rfl ?_
      refine aw_if_ne C dX11_hasValue_287 299 (by decide) hw (fun hc287 hw => ?_) (fun hc287 hw => ?_)
      · refine aw_aloadn C dX11_hasValue_299 rfl ?_
        refine aw_getR (r := 49) C dX11_hasValue_300 kcX11 (sA_46 S) 3 (by decide) rfl mF_X11_16 ?_
        refine aw_iloadn C dX11_hasValue_303 rfl ?_
        refine aw_iald C dX11_hasValue_304 (sA_49 S) hw.1 ?_
        replace hw := hw.2
        exact aw_msk [false, true, false, false, false, false] (h305 p0 (G0 49 ((G0 64 (p0 : Int32).toNatClampNeg) : Int32).toNatClampNeg) _ hw)
      · refine aw_aloadn C dX11_hasValue_290 rfl ?_
        refine aw_getR (r := 50) C dX11_hasValue_291 kcX11 (sA_46 S) 4 (by decide) rfl mF_X11_19 ?_
        refine aw_iloadn C dX11_hasValue_294 rfl ?_
        refine aw_iald C dX11_hasValue_295 (sA_50 S) hw.1 ?_
        replace hw := hw.2
        refine aw_goto (tgt := 305) C dX11_hasValue_296 (by decide) ?_
        exact aw_msk [false, true, false, false, false, false] (h305 p0 (G0 50 ((G0 64 (p0 : Int32).toNatClampNeg) : Int32).toNatClampNeg) _ hw)
  refine sw_if hw (fun ha25_11 hw => ?_) (fun ha25_11 hw => ?_)
  · refine aw_tab C 322 dX11_hasValue_25 ha25_11 (by decide) (by decide) rfl (by decide) ?_
    refine aw_iload C dX11_hasValue_322 rfl ?_
    refine aw_if_ne C dX11_hasValue_324 342 (by decide) hw (fun hc324 hw => ?_) (fun hc324 hw => ?_)
    · refine aw_aloadn C dX11_hasValue_342 rfl ?_
      refine aw_iloadn C dX11_hasValue_343 rfl ?_
      refine aw_iloadn C dX11_hasValue_344 rfl ?_
      refine aw_callV C dX11_hasValue_345 (t_X11_ends S p0 p1 _ _ hw) mM_X11_262 bX11_ends (sA_46 S) rfl rfl ⟨Nat.le_of_ble_eq_true rfl, Nat.le_of_ble_eq_true rfl, Nat.zero_le _, Nat.zero_le _⟩ _ rfl (Nat.le_of_ble_eq_true rfl) (fun r345 G11 hq => ?_)
      obtain ⟨rfl, hw⟩ := hq
      refine aw_goto (tgt := 661) C dX11_hasValue_348 (by decide) ?_
      exact aw_msk [false, false, false, false, false, false] (h661 _ hw)
    · refine aw_aloadn C dX11_hasValue_327 rfl ?_
      refine aw_aloadn C dX11_hasValue_328 rfl ?_
      refine aw_getR (r := 49) C dX11_hasValue_329 kcX11 (sA_46 S) 3 (by decide) rfl mF_X11_16 ?_
      refine aw_iloadn C dX11_hasValue_332 rfl ?_
      refine aw_iald C dX11_hasValue_333 (sA_49 S) hw.1 ?_
      replace hw := hw.2
      refine aw_iloadn C dX11_hasValue_334 rfl ?_
      refine aw_iconst (v := 1) C dX11_hasValue_335 (by decide) ?_
      refine aw_callV C dX11_hasValue_336 (t_X11_parts S (G0 49 ((G0 64 (p0 : Int32).toNatClampNeg) : Int32).toNatClampNeg) p0 1 _ _ hw) mM_X11_273 bX11_parts (sA_46 S) rfl rfl ⟨Nat.le_of_ble_eq_true rfl, Nat.le_of_ble_eq_true rfl, Nat.zero_le _, Nat.zero_le _⟩ _ rfl (Nat.le_of_ble_eq_true rfl) (fun r336 G12 hq => ?_)
      obtain ⟨rfl, hw⟩ := hq
      refine aw_goto (tgt := 661) C dX11_hasValue_339 (by decide) ?_
      exact aw_msk [false, false, false, false, false, false] (h661 _ hw)
  refine sw_if hw (fun ha25_12 hw => ?_) (fun ha25_12 hw => ?_)
  · refine aw_tab C 627 dX11_hasValue_25 ha25_12 (by decide) (by decide) rfl (by decide) ?_
    exact aw_msk [true, true, true, false, false, false] (h627 p0 p1 _ hw)
  refine sw_if hw (fun ha25_13 hw => ?_) (fun ha25_13 hw => ?_)
  · refine aw_tab C 351 dX11_hasValue_25 ha25_13 (by decide) (by decide) rfl (by decide) ?_
    refine aw_aloadn C dX11_hasValue_351 rfl ?_
    refine aw_aloadn C dX11_hasValue_352 rfl ?_
    refine aw_getR (r := 49) C dX11_hasValue_353 kcX11 (sA_46 S) 3 (by decide) rfl mF_X11_16 ?_
    refine aw_iloadn C dX11_hasValue_356 rfl ?_
    refine aw_iald C dX11_hasValue_357 (sA_49 S) hw.1 ?_
    replace hw := hw.2
    refine aw_iloadn C dX11_hasValue_358 rfl ?_
    refine aw_aloadn C dX11_hasValue_359 rfl ?_
    refine aw_aloadn C dX11_hasValue_360 rfl ?_
    refine aw_getR (r := 66) C dX11_hasValue_361 kcX11 (sA_46 S) 24 (by decide) rfl mF_X11_75 ?_
    refine aw_iloadn C dX11_hasValue_364 rfl ?_
    refine aw_iald C dX11_hasValue_365 (sA_66 S) hw.1 ?_
    replace hw := hw.2
    refine aw_callV C dX11_hasValue_366 (t_X11_opens S (G0 66 (p0 : Int32).toNatClampNeg) _ _ hw) mM_X11_244 bX11_opens (sA_46 S) rfl rfl ⟨Nat.le_of_ble_eq_true rfl, Nat.le_of_ble_eq_true rfl, Nat.zero_le _, Nat.zero_le _⟩ _ rfl (Nat.le_of_ble_eq_true rfl) (fun r366 G14 hq => ?_)
    obtain ⟨v15, rfl, hw⟩ := hq
    refine aw_callV C dX11_hasValue_369 (t_X11_asks S (G0 49 ((G0 64 (p0 : Int32).toNatClampNeg) : Int32).toNatClampNeg) p0 v15 _ _ hw) mM_X11_205 bX11_asks (sA_46 S) rfl rfl ⟨Nat.le_of_ble_eq_true rfl, Nat.le_of_ble_eq_true rfl, Nat.zero_le _, Nat.zero_le _⟩ _ rfl (Nat.le_of_ble_eq_true rfl) (fun r369 G16 hq => ?_)
    obtain ⟨rfl, hw⟩ := hq
    refine aw_goto (tgt := 661) C dX11_hasValue_372 (by decide) ?_
    exact aw_msk [false, false, false, false, false, false] (h661 _ hw)
  refine sw_if hw (fun ha25_14 hw => ?_) (fun ha25_14 hw => ?_)
  · refine aw_tab C 375 dX11_hasValue_25 ha25_14 (by decide) (by decide) rfl (by decide) ?_
    refine aw_aloadn C dX11_hasValue_375 rfl ?_
    refine aw_iloadn C dX11_hasValue_376 rfl ?_
    refine aw_iconst (v := 3) C dX11_hasValue_377 (by decide) ?_
    refine aw_aloadn C dX11_hasValue_378 rfl ?_
    refine aw_getR (r := 48) C dX11_hasValue_379 kcX11 (sA_46 S) 2 (by decide) rfl mF_X11_13 ?_
    refine aw_iloadn C dX11_hasValue_382 rfl ?_
    refine aw_iald C dX11_hasValue_383 (sA_48 S) hw.1 ?_
    replace hw := hw.2
    refine aw_iloadn C dX11_hasValue_384 rfl ?_
    refine aw_callV C dX11_hasValue_385 (t_X11_leavesTo S p0 3 (G0 48 ((G0 64 (p0 : Int32).toNatClampNeg) : Int32).toNatClampNeg) p1 _ _ hw) mM_X11_285 bX11_leavesTo (sA_46 S) rfl rfl ⟨Nat.le_of_ble_eq_true rfl, Nat.le_of_ble_eq_true rfl, Nat.zero_le _, Nat.zero_le _⟩ _ rfl (Nat.le_of_ble_eq_true rfl) (fun r385 G17 hq => ?_)
    obtain ⟨rfl, hw⟩ := hq
    refine aw_goto (tgt := 661) C dX11_hasValue_388 (by decide) ?_
    exact aw_msk [false, false, false, false, false, false] (h661 _ hw)
  refine sw_if hw (fun ha25_17 hw => ?_) (fun ha25_17 hw => ?_)
  · refine aw_tab C 391 dX11_hasValue_25 ha25_17 (by decide) (by decide) rfl (by decide) ?_
    refine aw_iload C dX11_hasValue_391 rfl ?_
    refine aw_if_ne C dX11_hasValue_393 418 (by decide) hw (fun hc393 hw => ?_) (fun hc393 hw => ?_)
    · refine aw_aloadn C dX11_hasValue_418 rfl ?_
      refine aw_iloadn C dX11_hasValue_419 rfl ?_
      refine aw_aloadn C dX11_hasValue_420 rfl ?_
      refine aw_getR (r := 68) C dX11_hasValue_421 kcX11 (sA_46 S) 26 (by decide) rfl mF_X11_81 ?_
      refine aw_iloadn C dX11_hasValue_424 rfl ?_
      refine aw_iald C dX11_hasValue_425 (sA_68 S) hw.1 ?_
      replace hw := hw.2
      refine aw_iloadn C dX11_hasValue_426 rfl ?_
      refine aw_callV C dX11_hasValue_427 (t_X11_applies S p0 (G0 68 (p0 : Int32).toNatClampNeg) p1 _ _ hw) mM_X11_352 bX11_applies (sA_46 S) rfl rfl ⟨Nat.le_of_ble_eq_true rfl, Nat.le_of_ble_eq_true rfl, Nat.zero_le _, Nat.zero_le _⟩ _ rfl (Nat.le_of_ble_eq_true rfl) (fun r427 G18 hq => ?_)
      obtain ⟨rfl, hw⟩ := hq
      refine aw_goto (tgt := 661) C dX11_hasValue_430 (by decide) ?_
      exact aw_msk [false, false, false, false, false, false] (h661 _ hw)
    · refine aw_aloadn C dX11_hasValue_396 rfl ?_
      refine aw_getR (r := 68) C dX11_hasValue_397 kcX11 (sA_46 S) 26 (by decide) rfl mF_X11_81 ?_
      refine aw_iloadn C dX11_hasValue_400 rfl ?_
      refine aw_iloadn C dX11_hasValue_401 rfl ?_
      refine aw_iast C dX11_hasValue_402 (sA_68 S) hw.1 hw.2 (fun G19 hw => ?_)
      refine aw_aloadn C dX11_hasValue_403 rfl ?_
      refine aw_aloadn C dX11_hasValue_404 rfl ?_
      refine aw_getR (r := 49) C dX11_hasValue_405 kcX11 (sA_46 S) 3 (by decide) rfl mF_X11_16 ?_
      refine aw_iloadn C dX11_hasValue_408 rfl ?_
      refine aw_iald C dX11_hasValue_409 (sA_49 S) hw.1 ?_
      replace hw := hw.2
      refine aw_iloadn C dX11_hasValue_410 rfl ?_
      refine aw_iconst (v := 1) C dX11_hasValue_411 (by decide) ?_
      refine aw_callV C dX11_hasValue_412 (t_X11_parts S (G19 49 ((G0 64 (p0 : Int32).toNatClampNeg) : Int32).toNatClampNeg) p0 1 _ _ hw) mM_X11_273 bX11_parts (sA_46 S) rfl rfl ⟨Nat.le_of_ble_eq_true rfl, Nat.le_of_ble_eq_true rfl, Nat.zero_le _, Nat.zero_le _⟩ _ rfl (Nat.le_of_ble_eq_true rfl) (fun r412 G20 hq => ?_)
      obtain ⟨rfl, hw⟩ := hq
      refine aw_goto (tgt := 661) C dX11_hasValue_415 (by decide) ?_
      exact aw_msk [false, false, false, false, false, false] (h661 _ hw)
  refine sw_if hw (fun ha25_18 hw => ?_) (fun ha25_18 hw => ?_)
  · refine aw_tab C 433 dX11_hasValue_25 ha25_18 (by decide) (by decide) rfl (by decide) ?_
    refine aw_aloadn C dX11_hasValue_433 rfl ?_
    refine aw_iloadn C dX11_hasValue_434 rfl ?_
    refine aw_iloadn C dX11_hasValue_435 rfl ?_
    refine aw_iload C dX11_hasValue_436 rfl ?_
    refine aw_iloadn C dX11_hasValue_438 rfl ?_
    refine aw_callV C dX11_hasValue_439 (t_X11_hasArgument S p0 (G0 64 (p0 : Int32).toNatClampNeg) (G0 67 (p0 : Int32).toNatClampNeg) p1 _ _ hw) mM_X11_355 bX11_hasArgument (sA_46 S) rfl rfl ⟨Nat.le_of_ble_eq_true rfl, Nat.le_of_ble_eq_true rfl, Nat.zero_le _, Nat.zero_le _⟩ _ rfl (Nat.le_of_ble_eq_true rfl) (fun r439 G21 hq => ?_)
    obtain ⟨rfl, hw⟩ := hq
    refine aw_goto (tgt := 661) C dX11_hasValue_442 (by decide) ?_
    exact aw_msk [false, false, false, false, false, false] (h661 _ hw)
  refine sw_if hw (fun ha25_19 hw => ?_) (fun ha25_19 hw => ?_)
  · refine aw_tab C 445 dX11_hasValue_25 ha25_19 (by decide) (by decide) rfl (by decide) ?_
    refine aw_aloadn C dX11_hasValue_445 rfl ?_
    refine aw_getR (r := 67) C dX11_hasValue_446 kcX11 (sA_46 S) 25 (by decide) rfl mF_X11_78 ?_
    refine aw_aloadn C dX11_hasValue_449 rfl ?_
    refine aw_iloadn C dX11_hasValue_450 rfl ?_
    refine aw_callV C dX11_hasValue_451 (t_X11_bodyOf S p0 _ _ hw) mM_X11_331 bX11_bodyOf (sA_46 S) rfl rfl ⟨Nat.le_of_ble_eq_true rfl, Nat.le_of_ble_eq_true rfl, Nat.zero_le _, Nat.zero_le _⟩ _ rfl (Nat.le_of_ble_eq_true rfl) (fun r451 G22 hq => ?_)
    obtain ⟨v23, rfl, hw⟩ := hq
    refine aw_iald C dX11_hasValue_454 (sA_67 S) hw.1 ?_
    replace hw := hw.2
    refine aw_iconst (v := 1) C dX11_hasValue_455 (by decide) ?_
    refine aw_ic_eq C dX11_hasValue_456 473 (by decide) hw (fun hc456 hw => ?_) (fun hc456 hw => ?_)
    · exact aw_msk [true, true, true, false, false, false] (h473 p0 p1 _ hw)
    · refine aw_aloadn C dX11_hasValue_459 rfl ?_
      refine aw_getR (r := 67) C dX11_hasValue_460 kcX11 (sA_46 S) 25 (by decide) rfl mF_X11_78 ?_
      refine aw_aloadn C dX11_hasValue_463 rfl ?_
      refine aw_iloadn C dX11_hasValue_464 rfl ?_
      refine aw_callV C dX11_hasValue_465 (t_X11_bodyOf S p0 _ _ hw) mM_X11_331 bX11_bodyOf (sA_46 S) rfl rfl ⟨Nat.le_of_ble_eq_true rfl, Nat.le_of_ble_eq_true rfl, Nat.zero_le _, Nat.zero_le _⟩ _ rfl (Nat.le_of_ble_eq_true rfl) (fun r465 G25 hq => ?_)
      obtain ⟨v26, rfl, hw⟩ := hq
      refine aw_iald C dX11_hasValue_468 (sA_67 S) hw.1 ?_
      replace hw := hw.2
      refine aw_iconst (v := 2) C dX11_hasValue_469 (by decide) ?_
      refine aw_ic_ne C dX11_hasValue_470 484 (by decide) hw (fun hc470 hw => ?_) (fun hc470 hw => ?_)
      · refine aw_aloadn C dX11_hasValue_484 rfl ?_
        refine aw_iloadn C dX11_hasValue_485 rfl ?_
        refine aw_bipush (v := (-6)) C dX11_hasValue_486 (by decide) ?_
        refine aw_callV C dX11_hasValue_488 (t_X11_fails S p0 (-6) _ _ hw) mM_X11_237 bX11_fails (sA_46 S) rfl rfl ⟨Nat.le_of_ble_eq_true rfl, Nat.le_of_ble_eq_true rfl, Nat.zero_le _, Nat.zero_le _⟩ _ rfl (Nat.le_of_ble_eq_true rfl) (fun r488 G27 hq => ?_)
        obtain ⟨rfl, hw⟩ := hq
        refine aw_goto (tgt := 661) C dX11_hasValue_491 (by decide) ?_
        exact aw_msk [false, false, false, false, false, false] (h661 _ hw)
      · exact aw_msk [true, true, true, false, false, false] (h473 p0 p1 _ hw)
  refine sw_if hw (fun ha25_20 hw => ?_) (fun ha25_20 hw => ?_)
  · refine aw_tab C 627 dX11_hasValue_25 ha25_20 (by decide) (by decide) rfl (by decide) ?_
    exact aw_msk [true, true, true, false, false, false] (h627 p0 p1 _ hw)
  refine sw_if hw (fun ha25_21 hw => ?_) (fun ha25_21 hw => ?_)
  · refine aw_tab C 494 dX11_hasValue_25 ha25_21 (by decide) (by decide) rfl (by decide) ?_
    refine aw_iload C dX11_hasValue_494 rfl ?_
    refine aw_if_ne C dX11_hasValue_496 508 (by decide) hw (fun hc496 hw => ?_) (fun hc496 hw => ?_)
    · refine aw_aloadn C dX11_hasValue_508 rfl ?_
      refine aw_iloadn C dX11_hasValue_509 rfl ?_
      refine aw_callV C dX11_hasValue_510 (t_X11_isOver S p0 _ _ hw) mM_X11_361 bX11_isOver (sA_46 S) rfl rfl ⟨Nat.le_of_ble_eq_true rfl, Nat.le_of_ble_eq_true rfl, Nat.zero_le _, Nat.zero_le _⟩ _ rfl (Nat.le_of_ble_eq_true rfl) (fun r510 G28 hq => ?_)
      obtain ⟨rfl, hw⟩ := hq
      refine aw_goto (tgt := 661) C dX11_hasValue_513 (by decide) ?_
      exact aw_msk [false, false, false, false, false, false] (h661 _ hw)
    · refine aw_aloadn C dX11_hasValue_499 rfl ?_
      refine aw_iloadn C dX11_hasValue_500 rfl ?_
      refine aw_iloadn C dX11_hasValue_501 rfl ?_
      refine aw_callV C dX11_hasValue_502 (t_X11_waits S p0 (G0 64 (p0 : Int32).toNatClampNeg) _ _ hw) mM_X11_358 bX11_waits (sA_46 S) rfl rfl ⟨Nat.le_of_ble_eq_true rfl, Nat.le_of_ble_eq_true rfl, Nat.zero_le _, Nat.zero_le _⟩ _ rfl (Nat.le_of_ble_eq_true rfl) (fun r502 G29 hq => ?_)
      obtain ⟨rfl, hw⟩ := hq
      refine aw_goto (tgt := 661) C dX11_hasValue_505 (by decide) ?_
      exact aw_msk [false, false, false, false, false, false] (h661 _ hw)
  refine sw_if hw (fun ha25_24 hw => ?_) (fun ha25_24 hw => ?_)
  · refine aw_tab C 516 dX11_hasValue_25 ha25_24 (by decide) (by decide) rfl (by decide) ?_
    refine aw_aloadn C dX11_hasValue_516 rfl ?_
    refine aw_iloadn C dX11_hasValue_517 rfl ?_
    refine aw_iloadn C dX11_hasValue_518 rfl ?_
    refine aw_callV C dX11_hasValue_519 (t_X11_yields S p0 p1 _ _ hw) mM_X11_364 bX11_yields (sA_46 S) rfl rfl ⟨Nat.le_of_ble_eq_true rfl, Nat.le_of_ble_eq_true rfl, Nat.zero_le _, Nat.zero_le _⟩ _ rfl (Nat.le_of_ble_eq_true rfl) (fun r519 G30 hq => ?_)
    obtain ⟨rfl, hw⟩ := hq
    refine aw_goto (tgt := 661) C dX11_hasValue_522 (by decide) ?_
    exact aw_msk [false, false, false, false, false, false] (h661 _ hw)
  refine sw_if hw (fun ha25_25 hw => ?_) (fun ha25_25 hw => ?_)
  · refine aw_tab C 525 dX11_hasValue_25 ha25_25 (by decide) (by decide) rfl (by decide) ?_
    refine aw_aloadn C dX11_hasValue_525 rfl ?_
    refine aw_iloadn C dX11_hasValue_526 rfl ?_
    refine aw_iloadn C dX11_hasValue_527 rfl ?_
    refine aw_callV C dX11_hasValue_528 (t_X11_asksOf S p0 p1 _ _ hw) mM_X11_367 bX11_asksOf (sA_46 S) rfl rfl ⟨Nat.le_of_ble_eq_true rfl, Nat.le_of_ble_eq_true rfl, Nat.zero_le _, Nat.zero_le _⟩ _ rfl (Nat.le_of_ble_eq_true rfl) (fun r528 G31 hq => ?_)
    obtain ⟨rfl, hw⟩ := hq
    refine aw_goto (tgt := 661) C dX11_hasValue_531 (by decide) ?_
    exact aw_msk [false, false, false, false, false, false] (h661 _ hw)
  refine sw_if hw (fun ha25_26 hw => ?_) (fun ha25_26 hw => ?_)
  · refine aw_tab C 534 dX11_hasValue_25 ha25_26 (by decide) (by decide) rfl (by decide) ?_
    refine aw_iload C dX11_hasValue_534 rfl ?_
    refine aw_if_ne C dX11_hasValue_536 583 (by decide) hw (fun hc536 hw => ?_) (fun hc536 hw => ?_)
    · refine aw_aloadn C dX11_hasValue_583 rfl ?_
      refine aw_getR (r := 56) C dX11_hasValue_584 kcX11 (sA_46 S) 10 (by decide) rfl mF_X11_38 ?_
      refine aw_aloadn C dX11_hasValue_587 rfl ?_
      refine aw_getR (r := 48) C dX11_hasValue_588 kcX11 (sA_46 S) 2 (by decide) rfl mF_X11_13 ?_
      refine aw_iloadn C dX11_hasValue_591 rfl ?_
      refine aw_iald C dX11_hasValue_592 (sA_48 S) hw.1 ?_
      replace hw := hw.2
      refine aw_aloadn C dX11_hasValue_593 rfl ?_
      refine aw_getR (r := 68) C dX11_hasValue_594 kcX11 (sA_46 S) 26 (by decide) rfl mF_X11_81 ?_
      refine aw_iloadn C dX11_hasValue_597 rfl ?_
      refine aw_iald C dX11_hasValue_598 (sA_68 S) hw.1 ?_
      replace hw := hw.2
      refine aw_iast C dX11_hasValue_599 (sA_56 S) hw.1 hw.2 (fun G32 hw => ?_)
      refine aw_aloadn C dX11_hasValue_600 rfl ?_
      refine aw_iloadn C dX11_hasValue_601 rfl ?_
      refine aw_iloadn C dX11_hasValue_602 rfl ?_
      refine aw_callV C dX11_hasValue_603 (t_X11_ends S p0 p1 _ _ hw) mM_X11_262 bX11_ends (sA_46 S) rfl rfl ⟨Nat.le_of_ble_eq_true rfl, Nat.le_of_ble_eq_true rfl, Nat.zero_le _, Nat.zero_le _⟩ _ rfl (Nat.le_of_ble_eq_true rfl) (fun r603 G33 hq => ?_)
      obtain ⟨rfl, hw⟩ := hq
      refine aw_goto (tgt := 661) C dX11_hasValue_606 (by decide) ?_
      exact aw_msk [false, false, false, false, false, false] (h661 _ hw)
    · refine aw_aloadn C dX11_hasValue_539 rfl ?_
      refine aw_getR (r := 68) C dX11_hasValue_540 kcX11 (sA_46 S) 26 (by decide) rfl mF_X11_81 ?_
      refine aw_iloadn C dX11_hasValue_543 rfl ?_
      refine aw_aloadn C dX11_hasValue_544 rfl ?_
      refine aw_getR (r := 56) C dX11_hasValue_545 kcX11 (sA_46 S) 10 (by decide) rfl mF_X11_38 ?_
      refine aw_aloadn C dX11_hasValue_548 rfl ?_
      refine aw_getR (r := 48) C dX11_hasValue_549 kcX11 (sA_46 S) 2 (by decide) rfl mF_X11_13 ?_
      refine aw_iloadn C dX11_hasValue_552 rfl ?_
      refine aw_iald C dX11_hasValue_553 (sA_48 S) hw.1 ?_
      replace hw := hw.2
      refine aw_iald C dX11_hasValue_554 (sA_56 S) hw.1 ?_
      replace hw := hw.2
      refine aw_iast C dX11_hasValue_555 (sA_68 S) hw.1 hw.2 (fun G34 hw => ?_)
      refine aw_aloadn C dX11_hasValue_556 rfl ?_
      refine aw_getR (r := 56) C dX11_hasValue_557 kcX11 (sA_46 S) 10 (by decide) rfl mF_X11_38 ?_
      refine aw_aloadn C dX11_hasValue_560 rfl ?_
      refine aw_getR (r := 48) C dX11_hasValue_561 kcX11 (sA_46 S) 2 (by decide) rfl mF_X11_13 ?_
      refine aw_iloadn C dX11_hasValue_564 rfl ?_
      refine aw_iald C dX11_hasValue_565 (sA_48 S) hw.1 ?_
      replace hw := hw.2
      refine aw_iloadn C dX11_hasValue_566 rfl ?_
      refine aw_iast C dX11_hasValue_567 (sA_56 S) hw.1 hw.2 (fun G35 hw => ?_)
      refine aw_aloadn C dX11_hasValue_568 rfl ?_
      refine aw_aloadn C dX11_hasValue_569 rfl ?_
      refine aw_getR (r := 50) C dX11_hasValue_570 kcX11 (sA_46 S) 4 (by decide) rfl mF_X11_19 ?_
      refine aw_iloadn C dX11_hasValue_573 rfl ?_
      refine aw_iald C dX11_hasValue_574 (sA_50 S) hw.1 ?_
      replace hw := hw.2
      refine aw_iloadn C dX11_hasValue_575 rfl ?_
      refine aw_iconst (v := 1) C dX11_hasValue_576 (by decide) ?_
      refine aw_callV C dX11_hasValue_577 (t_X11_parts S (G35 50 ((G0 64 (p0 : Int32).toNatClampNeg) : Int32).toNatClampNeg) p0 1 _ _ hw) mM_X11_273 bX11_parts (sA_46 S) rfl rfl ⟨Nat.le_of_ble_eq_true rfl, Nat.le_of_ble_eq_true rfl, Nat.zero_le _, Nat.zero_le _⟩ _ rfl (Nat.le_of_ble_eq_true rfl) (fun r577 G36 hq => ?_)
      obtain ⟨rfl, hw⟩ := hq
      refine aw_goto (tgt := 661) C dX11_hasValue_580 (by decide) ?_
      exact aw_msk [false, false, false, false, false, false] (h661 _ hw)
  refine sw_if hw (fun ha25_36 hw => ?_) (fun ha25_36 hw => ?_)
  · refine aw_tab C 609 dX11_hasValue_25 ha25_36 (by decide) (by decide) rfl (by decide) ?_
    refine aw_aloadn C dX11_hasValue_609 rfl ?_
    refine aw_getR (r := 67) C dX11_hasValue_610 kcX11 (sA_46 S) 25 (by decide) rfl mF_X11_78 ?_
    refine aw_iloadn C dX11_hasValue_613 rfl ?_
    refine aw_dup2 C dX11_hasValue_614 rfl rfl ?_
    refine aw_iald C dX11_hasValue_615 (sA_67 S) hw.1 ?_
    replace hw := hw.2
    refine aw_iconst (v := 1) C dX11_hasValue_616 (by decide) ?_
    refine aw_iadd C dX11_hasValue_617 ?_
    refine aw_iast C dX11_hasValue_618 (sA_67 S) hw.1 hw.2 (fun G37 hw => ?_)
    refine aw_aloadn C dX11_hasValue_619 rfl ?_
    refine aw_iloadn C dX11_hasValue_620 rfl ?_
    refine aw_callV C dX11_hasValue_621 (t_X11_goesOn S p0 _ _ hw) mM_X11_307 bX11_goesOn (sA_46 S) rfl rfl ⟨Nat.le_of_ble_eq_true rfl, Nat.le_of_ble_eq_true rfl, Nat.zero_le _, Nat.zero_le _⟩ _ rfl (Nat.le_of_ble_eq_true rfl) (fun r621 G38 hq => ?_)
    obtain ⟨rfl, hw⟩ := hq
    refine aw_goto (tgt := 661) C dX11_hasValue_624 (by decide) ?_
    exact aw_msk [false, false, false, false, false, false] (h661 _ hw)
  refine aw_tabDef C 636 dX11_hasValue_25 34 (by decide) (by decide) (by decide) (fun i hi h => ?_) (by decide) ?_
  · exact match i, hi, h with
      | 0, _, h => absurd (h.trans (by decide)) ha25_2
      | 1, _, h => absurd (h.trans (by decide)) ha25_3
      | 2, _, h => absurd (h.trans (by decide)) ha25_4
      | 3, _, h => absurd (h.trans (by decide)) ha25_5
      | 4, _, h => absurd (h.trans (by decide)) ha25_6
      | 5, _, h => absurd (h.trans (by decide)) ha25_7
      | 6, _, h => absurd (h.trans (by decide)) ha25_8
      | 7, _, h => absurd (h.trans (by decide)) ha25_9
      | 8, _, h => absurd (h.trans (by decide)) ha25_10
      | 9, _, h => absurd (h.trans (by decide)) ha25_11
      | 10, _, h => absurd (h.trans (by decide)) ha25_12
      | 11, _, h => absurd (h.trans (by decide)) ha25_13
      | 12, _, h => absurd (h.trans (by decide)) ha25_14
      | 13, _, h => rfl
      | 14, _, h => rfl
      | 15, _, h => absurd (h.trans (by decide)) ha25_17
      | 16, _, h => absurd (h.trans (by decide)) ha25_18
      | 17, _, h => absurd (h.trans (by decide)) ha25_19
      | 18, _, h => absurd (h.trans (by decide)) ha25_20
      | 19, _, h => absurd (h.trans (by decide)) ha25_21
      | 20, _, h => rfl
      | 21, _, h => rfl
      | 22, _, h => absurd (h.trans (by decide)) ha25_24
      | 23, _, h => absurd (h.trans (by decide)) ha25_25
      | 24, _, h => absurd (h.trans (by decide)) ha25_26
      | 25, _, h => rfl
      | 26, _, h => rfl
      | 27, _, h => rfl
      | 28, _, h => rfl
      | 29, _, h => rfl
      | 30, _, h => rfl
      | 31, _, h => rfl
      | 32, _, h => rfl
      | 33, _, h => rfl
      | 34, _, h => absurd (h.trans (by decide)) ha25_36
      | i + 35, hi, _ => absurd hi (by omega)
  exact aw_msk [true, true, true, false, false, true] (h636 p0 p1 (G0 47 ((G0 64 (p0 : Int32).toNatClampNeg) : Int32).toNatClampNeg) _ hw)
def w_X11_beginsNext_h59 (K : Int32 → Gt → Prop) : Nat → Gt → Prop
  | 0, _ => False
  | n + 1, G0 =>
    pif ((G0 46 41) = 0) (
      K 1 G0) (
      vp_in (G0 46 57) 1220 ∧
      pif ((G0 64 ((G0 46 57) : Int32).toNatClampNeg) = (-1)) (
        w_X11_bodyEnds (fun G5 =>
          (w_X11_beginsNext_h59 K n) G5) (G0 46 57) G0) (
        pif ((G0 46 41) = 1) (
          w_X11_hasValue (fun G4 =>
            (w_X11_beginsNext_h59 K n) G4) (G0 46 57) (G0 46 42) G0) (
          w_X11_hasNone (fun G3 =>
            (w_X11_beginsNext_h59 K n) G3) (G0 46 57) G0)))
def w_X11_beginsNext (K : Int32 → Gt → Prop) (G0 : Gt) : Prop :=
  pif ((G0 46 58) = (G0 46 59)) (
    pt (gu G0 46 42 (-7)) fun G6 =>
    pt (gu G6 46 44 (-100000)) fun G7 =>
    pt (gu G7 46 45 (G7 46 54)) fun G8 =>
    pt (gu G8 46 46 (G8 46 49)) fun G9 =>
    w_X11_stops (fun G10 =>
      K 0 G10) G9) (
    pt (gu G0 46 58 ((G0 46 58) + 1)) fun G1 =>
    w_X11_beginsNode (fun G2 =>
      ∃ i, w_X11_beginsNext_h59 K i G2) G1)
set_option maxHeartbeats 4000000 in
set_option maxRecDepth 100000 in
theorem t_X11_beginsNext {l : Launch} {sh : Sh} (S : shOK sh) (G0 : Gt) (K : Int32 → Gt → Prop) (hw : w_X11_beginsNext K G0) : CT0 l yX11_beginsNext cX11_beginsNext 1 (some .boolean) 7 169 [.ref 46] sh G0 (fun r G' => ∃ v, r = some (.int v) ∧ K v G') := by
  refine CT0_of (by decide) (Nat.le_of_ble_eq_true rfl) rfl ?_
  intro p e s m args below meth c D tA ad A C hr _
  have h59 : ∀ (n : Nat) (G0 : Gt), w_X11_beginsNext_h59 K n  G0 → aw p l e { frames := 7, cells := 0, slots := 0, locals := 169 } s m args below meth c 1 D tA A (MQ below (QC0 D tA ad A sh (fun r G' => ∃ v, r = some (.int v) ∧ K v G')) args s 0 0 A) 0 0 ad 59 [some (.ref 46)] [] sh G0 := by
    intro  n
    induction n with
    | zero => intro  G0 hw; exact hw.elim
    | succ n ih =>
      intro  G0 hw
      rw [w_X11_beginsNext_h59] at hw
      refine aw_aloadn C dX11_beginsNext_59 rfl ?_
      refine aw_getI C dX11_beginsNext_60 kcX11 (sA_46 S) 41 (by decide) rfl mF_X11_202 ?_
      refine aw_if_eq C dX11_beginsNext_63 124 (by decide) hw (fun hc63 hw => ?_) (fun hc63 hw => ?_)
      · refine aw_iconst (v := 1) C dX11_beginsNext_124 (by decide) ?_
        exact aw_zreturn C hr dX11_beginsNext_125 rfl ⟨_, rfl, hw⟩
      · refine aw_aloadn C dX11_beginsNext_66 rfl ?_
        refine aw_getR (r := 64) C dX11_beginsNext_67 kcX11 (sA_46 S) 22 (by decide) rfl mF_X11_69 ?_
        refine aw_aloadn C dX11_beginsNext_70 rfl ?_
        refine aw_getI C dX11_beginsNext_71 kcX11 (sA_46 S) 57 (by decide) rfl mF_X11_212 ?_
        refine aw_iald C dX11_beginsNext_74 (sA_64 S) hw.1 ?_
        replace hw := hw.2
        refine aw_iconst (v := (-1)) C dX11_beginsNext_75 (by decide) ?_
        refine aw_ic_ne C dX11_beginsNext_76 90 (by decide) hw (fun hc76 hw => ?_) (fun hc76 hw => ?_)
        · refine aw_aloadn C dX11_beginsNext_90 rfl ?_
          refine aw_getI C dX11_beginsNext_91 kcX11 (sA_46 S) 41 (by decide) rfl mF_X11_202 ?_
          refine aw_iconst (v := 1) C dX11_beginsNext_94 (by decide) ?_
          refine aw_ic_ne C dX11_beginsNext_95 113 (by decide) hw (fun hc95 hw => ?_) (fun hc95 hw => ?_)
          · refine aw_aloadn C dX11_beginsNext_113 rfl ?_
            refine aw_aloadn C dX11_beginsNext_114 rfl ?_
            refine aw_getI C dX11_beginsNext_115 kcX11 (sA_46 S) 57 (by decide) rfl mF_X11_212 ?_
            refine aw_callV C dX11_beginsNext_118 (t_X11_hasNone S (G0 46 57) _ _ hw) mM_X11_419 bX11_hasNone (sA_46 S) rfl rfl ⟨Nat.le_of_ble_eq_true rfl, Nat.le_of_ble_eq_true rfl, Nat.zero_le _, Nat.zero_le _⟩ _ rfl (Nat.le_of_ble_eq_true rfl) (fun r118 G3 hq => ?_)
            obtain ⟨rfl, hw⟩ := hq
            refine aw_goto (tgt := 59) C dX11_beginsNext_121 (by decide) ?_
            exact aw_msk [true] (ih _ hw)
          · refine aw_aloadn C dX11_beginsNext_98 rfl ?_
            refine aw_aloadn C dX11_beginsNext_99 rfl ?_
            refine aw_getI C dX11_beginsNext_100 kcX11 (sA_46 S) 57 (by decide) rfl mF_X11_212 ?_
            refine aw_aloadn C dX11_beginsNext_103 rfl ?_
            refine aw_getI C dX11_beginsNext_104 kcX11 (sA_46 S) 42 (by decide) rfl mF_X11_209 ?_
            refine aw_callV C dX11_beginsNext_107 (t_X11_hasValue S (G0 46 57) (G0 46 42) _ _ hw) mM_X11_416 bX11_hasValue (sA_46 S) rfl rfl ⟨Nat.le_of_ble_eq_true rfl, Nat.le_of_ble_eq_true rfl, Nat.zero_le _, Nat.zero_le _⟩ _ rfl (Nat.le_of_ble_eq_true rfl) (fun r107 G4 hq => ?_)
            obtain ⟨rfl, hw⟩ := hq
            refine aw_goto (tgt := 59) C dX11_beginsNext_110 (by decide) ?_
            exact aw_msk [true] (ih _ hw)
        · refine aw_aloadn C dX11_beginsNext_79 rfl ?_
          refine aw_aloadn C dX11_beginsNext_80 rfl ?_
          refine aw_getI C dX11_beginsNext_81 kcX11 (sA_46 S) 57 (by decide) rfl mF_X11_212 ?_
          refine aw_callV C dX11_beginsNext_84 (t_X11_bodyEnds S (G0 46 57) _ _ hw) mM_X11_413 bX11_bodyEnds (sA_46 S) rfl rfl ⟨Nat.le_of_ble_eq_true rfl, Nat.le_of_ble_eq_true rfl, Nat.zero_le _, Nat.zero_le _⟩ _ rfl (Nat.le_of_ble_eq_true rfl) (fun r84 G5 hq => ?_)
          obtain ⟨rfl, hw⟩ := hq
          refine aw_goto (tgt := 59) C dX11_beginsNext_87 (by decide) ?_
          exact aw_msk [true] (ih _ hw)
  unfold w_X11_beginsNext at hw
  show aw p l e { frames := 7, cells := 0, slots := 0, locals := 169 } s m args below meth c 1 D tA A (MQ below (QC0 D tA ad A sh (fun r G' => ∃ v, r = some (.int v) ∧ K v G')) args s 0 0 A) 0 0 ad 0 [some (.ref 46)] [] sh G0
  refine aw_aloadn C dX11_beginsNext_0 rfl ?_
  refine aw_getI C dX11_beginsNext_1 kcX11 (sA_46 S) 58 (by decide) rfl mF_X11_404 ?_
  refine aw_aloadn C dX11_beginsNext_4 rfl ?_
  refine aw_getI C dX11_beginsNext_5 kcX11 (sA_46 S) 59 (by decide) rfl mF_X11_407 ?_
  refine aw_ic_ne C dX11_beginsNext_8 45 (by decide) hw (fun hc8 hw => ?_) (fun hc8 hw => ?_)
  · refine aw_aloadn C dX11_beginsNext_45 rfl ?_
    refine aw_dup C dX11_beginsNext_46 rfl ?_
    refine aw_getI C dX11_beginsNext_47 kcX11 (sA_46 S) 58 (by decide) rfl mF_X11_404 ?_
    refine aw_iconst (v := 1) C dX11_beginsNext_50 (by decide) ?_
    refine aw_iadd C dX11_beginsNext_51 ?_
    refine aw_putI C dX11_beginsNext_52 kcX11 (sA_46 S) 58 (by decide) rfl mF_X11_404 rfl rfl rfl hw (fun G1 hw => ?_)
    refine aw_aloadn C dX11_beginsNext_55 rfl ?_
    refine aw_callV C dX11_beginsNext_56 (t_X11_beginsNode S _ _ hw) mM_X11_410 bX11_beginsNode (sA_46 S) rfl rfl ⟨Nat.le_of_ble_eq_true rfl, Nat.le_of_ble_eq_true rfl, Nat.zero_le _, Nat.zero_le _⟩ _ rfl (Nat.le_of_ble_eq_true rfl) (fun r56 G2 hq => ?_)
    obtain ⟨rfl, hw⟩ := hq
    obtain ⟨n0, hw⟩ := hw
    exact aw_msk [true] (h59 n0 _ hw)
  · refine aw_aloadn C dX11_beginsNext_11 rfl ?_
    refine aw_bipush (v := (-7)) C dX11_beginsNext_12 (by decide) ?_
    refine aw_putI C dX11_beginsNext_14 kcX11 (sA_46 S) 42 (by decide) rfl mF_X11_209 rfl rfl rfl hw (fun G6 hw => ?_)
    refine aw_aloadn C dX11_beginsNext_17 rfl ?_
    refine aw_ldc (v := (-100000)) C dX11_beginsNext_18 mK_X11_189 ?_
    refine aw_putI C dX11_beginsNext_20 kcX11 (sA_46 S) 44 (by decide) rfl mF_X11_215 rfl rfl rfl hw (fun G7 hw => ?_)
    refine aw_aloadn C dX11_beginsNext_23 rfl ?_
    refine aw_aloadn C dX11_beginsNext_24 rfl ?_
    refine aw_getI C dX11_beginsNext_25 kcX11 (sA_46 S) 54 (by decide) rfl mF_X11_193 ?_
    refine aw_putI C dX11_beginsNext_28 kcX11 (sA_46 S) 45 (by decide) rfl mF_X11_218 rfl rfl rfl hw (fun G8 hw => ?_)
    refine aw_aloadn C dX11_beginsNext_31 rfl ?_
    refine aw_aloadn C dX11_beginsNext_32 rfl ?_
    refine aw_getI C dX11_beginsNext_33 kcX11 (sA_46 S) 49 (by decide) rfl mF_X11_221 ?_
    refine aw_putI C dX11_beginsNext_36 kcX11 (sA_46 S) 46 (by decide) rfl mF_X11_224 rfl rfl rfl hw (fun G9 hw => ?_)
    refine aw_aloadn C dX11_beginsNext_39 rfl ?_
    refine aw_callV C dX11_beginsNext_40 (t_X11_stops S _ _ hw) mM_X11_375 bX11_stops (sA_46 S) rfl rfl ⟨Nat.le_of_ble_eq_true rfl, Nat.le_of_ble_eq_true rfl, Nat.zero_le _, Nat.zero_le _⟩ _ rfl (Nat.le_of_ble_eq_true rfl) (fun r40 G10 hq => ?_)
    obtain ⟨rfl, hw⟩ := hq
    refine aw_iconst (v := 0) C dX11_beginsNext_43 (by decide) ?_
    exact aw_zreturn C hr dX11_beginsNext_44 rfl ⟨_, rfl, hw⟩
