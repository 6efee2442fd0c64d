def w_X2_advance_j260 (K : Int32 → Gt → Prop) (x3 : Int32) (G0 : Gt) : Prop :=
  K ((G0 84 10) - x3) G0
def w_X2_advance_j249 (K : Int32 → Gt → Prop) (x3 : Int32) (G0 : Gt) : Prop :=
  pif ((G0 84 7) = 0) (
    w_X2_settle (fun G1 =>
      w_X2_advance_j260 K x3 G1) G0) (
    w_X2_advance_j260 K x3 G0)
def w_X2_advance_j243 (K : Int32 → Gt → Prop) (rec8 : Int32 → Int32 → Int32 → Int32 → Gt → Prop) (x1 : Int32) (x2 : Int32) (x3 : Int32) (x4 : Int32) (G0 : Gt) : Prop :=
  rec8 x1 x2 x3 (x4 + 1) G0
def w_X2_advance_j81 (K : Int32 → Gt → Prop) (x3 : Int32) (G0 : Gt) : Prop :=
  K ((G0 84 10) - x3) G0
def w_X2_advance_j64 (K : Int32 → Gt → Prop) (rec8 : Int32 → Int32 → Int32 → Int32 → Gt → Prop) (x1 : Int32) (x2 : Int32) (x3 : Int32) (x4 : Int32) (y0 : Int32) (G0 : Gt) : Prop :=
  pif (y0 = 0) (
    pif (((G0 84 10) - x3) < x1) (
      w_X2_letBegin (fun G8 =>
        w_X2_advance_j243 K rec8 x1 x2 x3 x4 G8) G0) (
      w_X2_advance_j81 K x3 G0)) (
    w_X2_advance_j81 K x3 G0)
def w_X2_advance_j63 (K : Int32 → Gt → Prop) (rec8 : Int32 → Int32 → Int32 → Int32 → Gt → Prop) (x1 : Int32) (x2 : Int32) (x3 : Int32) (x4 : Int32) (G0 : Gt) : Prop :=
  w_X2_advance_j64 K rec8 x1 x2 x3 x4 0 G0
def w_X2_advance_h8 (K : Int32 → Gt → Prop) : Nat → Int32 → Int32 → Int32 → Int32 → Gt → Prop
  | 0, _, _, _, _, _ => False
  | n + 1, x1, x2, x3, x4, G0 =>
    pif (1000000 ≤ x4) (
      w_X2_advance_j249 K x3 G0) (
      pif ((G0 84 7) = 0) (
        w_X2_advance_j249 K x3 G0) (
        pif ((G0 84 12) = 0) (
          pt (rput G0 116 601 (G0 84 11) ((rat G0 116 601 (G0 84 11)) + 1)) fun G2 =>
          pif ((rat G0 16 1081 (rat G0 116 601 (G0 84 11))) < 48) (
            pif ((rat G0 16 1081 (rat G0 116 601 (G0 84 11))) < 40) (
              pif ((rat G0 16 1081 (rat G0 116 601 (G0 84 11))) < 29) (
                pif ((rat G0 16 1081 (rat G0 116 601 (G0 84 11))) < 13) (
                  w_X2_performReckoning (fun G3 =>
                    w_X2_advance_j243 K (fun z0 z1 z2 z3 z4 => w_X2_advance_h8 K n z0 z1 z2 z3 z4) x1 x2 x3 x4 G3) (rat G0 16 1081 (rat G0 116 601 (G0 84 11))) (rat G0 18 1081 (rat G0 116 601 (G0 84 11))) G2) (
                  w_X2_performControl (fun G4 =>
                    w_X2_advance_j243 K (fun z0 z1 z2 z3 z4 => w_X2_advance_h8 K n z0 z1 z2 z3 z4) x1 x2 x3 x4 G4) (rat G0 16 1081 (rat G0 116 601 (G0 84 11))) (rat G0 18 1081 (rat G0 116 601 (G0 84 11))) G2)) (
                w_X2_performEditing (fun G5 =>
                  w_X2_advance_j243 K (fun z0 z1 z2 z3 z4 => w_X2_advance_h8 K n z0 z1 z2 z3 z4) x1 x2 x3 x4 G5) (rat G0 16 1081 (rat G0 116 601 (G0 84 11))) (rat G0 18 1081 (rat G0 116 601 (G0 84 11))) G2)) (
              w_X2_performFlow (fun G6 =>
                w_X2_advance_j243 K (fun z0 z1 z2 z3 z4 => w_X2_advance_h8 K n z0 z1 z2 z3 z4) x1 x2 x3 x4 G6) (rat G0 16 1081 (rat G0 116 601 (G0 84 11))) (rat G0 18 1081 (rat G0 116 601 (G0 84 11))) G2)) (
            w_X2_performBehind (fun G7 =>
              w_X2_advance_j243 K (fun z0 z1 z2 z3 z4 => w_X2_advance_h8 K n z0 z1 z2 z3 z4) x1 x2 x3 x4 G7) (rat G0 16 1081 (rat G0 116 601 (G0 84 11))) (rat G0 18 1081 (rat G0 116 601 (G0 84 11))) G2)) (
          pif (x2 = 0) (
            w_X2_advance_j63 K (fun z0 z1 z2 z3 z4 => w_X2_advance_h8 K n z0 z1 z2 z3 z4) x1 x2 x3 x4 G0) (
            pif ((G0 84 10) ≤ x3) (
              w_X2_advance_j63 K (fun z0 z1 z2 z3 z4 => w_X2_advance_h8 K n z0 z1 z2 z3 z4) x1 x2 x3 x4 G0) (
              w_X2_waitingNode (fun v10 G9 =>
                pif ((rat G9 11 120 v10) = 1) (
                  w_X2_advance_j64 K (fun z0 z1 z2 z3 z4 => w_X2_advance_h8 K n z0 z1 z2 z3 z4) x1 x2 x3 x4 1 G9) (
                  w_X2_advance_j63 K (fun z0 z1 z2 z3 z4 => w_X2_advance_h8 K n z0 z1 z2 z3 z4) x1 x2 x3 x4 G9)) G0)))))
def w_X2_advance (K : Int32 → Gt → Prop) (p0 : Int32) (p1 : Int32) (G0 : Gt) : Prop :=
  ∃ i, w_X2_advance_h8 K i p0 p1 (G0 84 10) 0 G0
set_option maxHeartbeats 4000000 in
set_option maxRecDepth 100000 in
theorem t_X2_advance {l : Launch}  (p0 : Int32) (p1 : Int32) (G0 : Gt) (K : Int32 → Gt → Prop) (hw : w_X2_advance K p0 p1 G0) : CT0 l yX2_advance cX2_advance 8 (some .int) 5 126 [.ref 84, .int p0, .int p1] shB G0 (fun r G' => ∃ v, r = some (.int v) ∧ K v G') := by
  refine CT0_of (by decide) (Nat.le_of_ble_eq_true rfl) rfl ?_
  intro p e s m args below meth c D tA ad A C hr _
  have h260 : ∀ (x3 : Int32) (G0 : Gt), w_X2_advance_j260 K x3 G0 → aw p l e { frames := 5, cells := 0, slots := 0, locals := 126 } s m args below meth c 8 D tA A (MQ below (QC0 D tA ad A shB (fun r G' => ∃ v, r = some (.int v) ∧ K v G')) args s 0 0 A) 0 0 ad 260 [some (.ref 84), none, none, some (.int x3), none, none, none, none] [] shB G0 := by
    intro  x3 G0 hw
    unfold w_X2_advance_j260 at hw
    refine aw_aloadn C dX2_advance_260 rfl ?_
    refine aw_getI C dX2_advance_261 kcX2 shB_84 10 (by decide) rfl mF_X2_62 ?_
    refine aw_iloadn C dX2_advance_264 rfl ?_
    refine aw_isub C dX2_advance_265 ?_
    exact aw_ireturn C hr dX2_advance_266 ⟨_, rfl, hw⟩
  have h249 : ∀ (x3 : Int32) (G0 : Gt), w_X2_advance_j249 K x3 G0 → aw p l e { frames := 5, cells := 0, slots := 0, locals := 126 } s m args below meth c 8 D tA A (MQ below (QC0 D tA ad A shB (fun r G' => ∃ v, r = some (.int v) ∧ K v G')) args s 0 0 A) 0 0 ad 249 [some (.ref 84), none, none, some (.int x3), none, none, none, none] [] shB G0 := by
    intro  x3 G0 hw
    unfold w_X2_advance_j249 at hw
    refine aw_aloadn C dX2_advance_249 rfl ?_
    refine aw_getI C dX2_advance_250 kcX2 shB_84 7 (by decide) rfl mF_X2_94 ?_
    refine aw_if_ne C dX2_advance_253 260 (by decide) hw (fun hc253 hw => ?_) (fun hc253 hw => ?_)
    · exact aw_msk [true, false, false, true, false, false, false, false] (h260 x3 _ hw)
    · refine aw_aloadn C dX2_advance_256 rfl ?_
      refine aw_callV C dX2_advance_257 (t_X2_settle _ _ hw) mM_X2_161 bX2_settle shB_84 rfl rfl ⟨Nat.le_of_ble_eq_true rfl, Nat.le_of_ble_eq_true rfl, Nat.zero_le _, Nat.zero_le _⟩ _ rfl (Nat.le_of_ble_eq_true rfl) (fun r257 G1 hq => ?_)
      obtain ⟨rfl, hw⟩ := hq
      exact aw_msk [true, false, false, true, false, false, false, false] (h260 x3 _ hw)
  have h243 : ∀ (rec8 : Int32 → Int32 → Int32 → Int32 → Gt → Prop) (hrec8 : ∀ (x1 : Int32) (x2 : Int32) (x3 : Int32) (x4 : Int32) (G0 : Gt), rec8 x1 x2 x3 x4 G0 → aw p l e { frames := 5, cells := 0, slots := 0, locals := 126 } s m args below meth c 8 D tA A (MQ below (QC0 D tA ad A shB (fun r G' => ∃ v, r = some (.int v) ∧ K v G')) args s 0 0 A) 0 0 ad 8 [some (.ref 84), some (.int x1), some (.int x2), some (.int x3), some (.int x4), none, none, none] [] shB G0) (x1 : Int32) (x2 : Int32) (x3 : Int32) (x4 : Int32) (G0 : Gt), w_X2_advance_j243 K rec8 x1 x2 x3 x4 G0 → aw p l e { frames := 5, cells := 0, slots := 0, locals := 126 } s m args below meth c 8 D tA A (MQ below (QC0 D tA ad A shB (fun r G' => ∃ v, r = some (.int v) ∧ K v G')) args s 0 0 A) 0 0 ad 243 [some (.ref 84), some (.int x1), some (.int x2), some (.int x3), some (.int x4), none, none, none] [] shB G0 := by
    intro rec8 hrec8 x1 x2 x3 x4 G0 hw
    unfold w_X2_advance_j243 at hw
    refine aw_iinc (w := (x4 + 1)) C dX2_advance_243 rfl rfl (by decide) rfl ?_
    refine aw_goto (tgt := 8) C dX2_advance_246 (by decide) ?_
    exact aw_msk [true, true, true, true, true, false, false, false] (hrec8 x1 x2 x3 (x4 + 1) _ hw)
  have h81 : ∀ (x3 : Int32) (G0 : Gt), w_X2_advance_j81 K x3 G0 → aw p l e { frames := 5, cells := 0, slots := 0, locals := 126 } s m args below meth c 8 D tA A (MQ below (QC0 D tA ad A shB (fun r G' => ∃ v, r = some (.int v) ∧ K v G')) args s 0 0 A) 0 0 ad 81 [some (.ref 84), none, none, some (.int x3), none, none, none, none] [] shB G0 := by
    intro  x3 G0 hw
    unfold w_X2_advance_j81 at hw
    refine aw_aloadn C dX2_advance_81 rfl ?_
    refine aw_getI C dX2_advance_82 kcX2 shB_84 10 (by decide) rfl mF_X2_62 ?_
    refine aw_iloadn C dX2_advance_85 rfl ?_
    refine aw_isub C dX2_advance_86 ?_
    exact aw_ireturn C hr dX2_advance_87 ⟨_, rfl, hw⟩
  have h64 : ∀ (rec8 : Int32 → Int32 → Int32 → Int32 → Gt → Prop) (hrec8 : ∀ (x1 : Int32) (x2 : Int32) (x3 : Int32) (x4 : Int32) (G0 : Gt), rec8 x1 x2 x3 x4 G0 → aw p l e { frames := 5, cells := 0, slots := 0, locals := 126 } s m args below meth c 8 D tA A (MQ below (QC0 D tA ad A shB (fun r G' => ∃ v, r = some (.int v) ∧ K v G')) args s 0 0 A) 0 0 ad 8 [some (.ref 84), some (.int x1), some (.int x2), some (.int x3), some (.int x4), none, none, none] [] shB G0) (x1 : Int32) (x2 : Int32) (x3 : Int32) (x4 : Int32) (y0 : Int32) (G0 : Gt), w_X2_advance_j64 K rec8 x1 x2 x3 x4 y0 G0 → aw p l e { frames := 5, cells := 0, slots := 0, locals := 126 } s m args below meth c 8 D tA A (MQ below (QC0 D tA ad A shB (fun r G' => ∃ v, r = some (.int v) ∧ K v G')) args s 0 0 A) 0 0 ad 64 [some (.ref 84), some (.int x1), some (.int x2), some (.int x3), some (.int x4), none, none, none] [.int y0] shB G0 := by
    intro rec8 hrec8 x1 x2 x3 x4 y0 G0 hw
    unfold w_X2_advance_j64 at hw
    refine aw_istore C dX2_advance_64 (by decide) rfl ?_
    refine aw_iload C dX2_advance_66 rfl ?_
    refine aw_if_ne C dX2_advance_68 81 (by decide) hw (fun hc68 hw => ?_) (fun hc68 hw => ?_)
    · exact aw_msk [true, false, false, true, false, false, false, false] (h81 x3 _ hw)
    · refine aw_aloadn C dX2_advance_71 rfl ?_
      refine aw_getI C dX2_advance_72 kcX2 shB_84 10 (by decide) rfl mF_X2_62 ?_
      refine aw_iloadn C dX2_advance_75 rfl ?_
      refine aw_isub C dX2_advance_76 ?_
      refine aw_iloadn C dX2_advance_77 rfl ?_
      refine aw_ic_lt C dX2_advance_78 88 (by decide) hw (fun hc78 hw => ?_) (fun hc78 hw => ?_)
      · refine aw_aloadn C dX2_advance_88 rfl ?_
        refine aw_callV C dX2_advance_89 (t_X2_letBegin _ _ hw) mM_X2_124 bX2_letBegin shB_84 rfl rfl ⟨Nat.le_of_ble_eq_true rfl, Nat.le_of_ble_eq_true rfl, Nat.zero_le _, Nat.zero_le _⟩ _ rfl (Nat.le_of_ble_eq_true rfl) (fun r89 G8 hq => ?_)
        obtain ⟨rfl, hw⟩ := hq
        refine aw_goto (tgt := 243) C dX2_advance_92 (by decide) ?_
        exact aw_msk [true, true, true, true, true, false, false, false] (h243 _ hrec8 x1 x2 x3 x4 _ hw)
      · exact aw_msk [true, false, false, true, false, false, false, false] (h81 x3 _ hw)
  have h63 : ∀ (rec8 : Int32 → Int32 → Int32 → Int32 → Gt → Prop) (hrec8 : ∀ (x1 : Int32) (x2 : Int32) (x3 : Int32) (x4 : Int32) (G0 : Gt), rec8 x1 x2 x3 x4 G0 → aw p l e { frames := 5, cells := 0, slots := 0, locals := 126 } s m args below meth c 8 D tA A (MQ below (QC0 D tA ad A shB (fun r G' => ∃ v, r = some (.int v) ∧ K v G')) args s 0 0 A) 0 0 ad 8 [some (.ref 84), some (.int x1), some (.int x2), some (.int x3), some (.int x4), none, none, none] [] shB G0) (x1 : Int32) (x2 : Int32) (x3 : Int32) (x4 : Int32) (G0 : Gt), w_X2_advance_j63 K rec8 x1 x2 x3 x4 G0 → aw p l e { frames := 5, cells := 0, slots := 0, locals := 126 } s m args below meth c 8 D tA A (MQ below (QC0 D tA ad A shB (fun r G' => ∃ v, r = some (.int v) ∧ K v G')) args s 0 0 A) 0 0 ad 63 [some (.ref 84), some (.int x1), some (.int x2), some (.int x3), some (.int x4), none, none, none] [] shB G0 := by
    intro rec8 hrec8 x1 x2 x3 x4 G0 hw
    unfold w_X2_advance_j63 at hw
    refine aw_iconst (v := 0) C dX2_advance_63 (by decide) ?_
    exact aw_msk [true, true, true, true, true, false, false, false] (h64 _ hrec8 x1 x2 x3 x4 0 _ hw)
  have h8 : ∀ (n : Nat) (x1 : Int32) (x2 : Int32) (x3 : Int32) (x4 : Int32) (G0 : Gt), w_X2_advance_h8 K n x1 x2 x3 x4 G0 → aw p l e { frames := 5, cells := 0, slots := 0, locals := 126 } s m args below meth c 8 D tA A (MQ below (QC0 D tA ad A shB (fun r G' => ∃ v, r = some (.int v) ∧ K v G')) args s 0 0 A) 0 0 ad 8 [some (.ref 84), some (.int x1), some (.int x2), some (.int x3), some (.int x4), none, none, none] [] shB G0 := by
    intro  n
    induction n with
    | zero => intro x1 x2 x3 x4 G0 hw; exact hw.elim
    | succ n ih =>
      intro x1 x2 x3 x4 G0 hw
      rw [w_X2_advance_h8] at hw
      refine aw_iload C dX2_advance_8 rfl ?_
      refine aw_ldc (v := 1000000) C dX2_advance_10 mK_X2_105 ?_
      refine aw_ic_ge C dX2_advance_12 249 (by decide) hw (fun hc12 hw => ?_) (fun hc12 hw => ?_)
      · exact aw_msk [true, false, false, true, false, false, false, false] (h249 x3 _ hw)
      · refine aw_aloadn C dX2_advance_15 rfl ?_
        refine aw_getI C dX2_advance_16 kcX2 shB_84 7 (by decide) rfl mF_X2_94 ?_
        refine aw_if_eq C dX2_advance_19 249 (by decide) hw (fun hc19 hw => ?_) (fun hc19 hw => ?_)
        · exact aw_msk [true, false, false, true, false, false, false, false] (h249 x3 _ hw)
        · refine aw_aloadn C dX2_advance_22 rfl ?_
          refine aw_getI C dX2_advance_23 kcX2 shB_84 12 (by decide) rfl mF_X2_106 ?_
          refine aw_if_eq C dX2_advance_26 95 (by decide) hw (fun hc26 hw => ?_) (fun hc26 hw => ?_)
          · refine aw_aloadn C dX2_advance_95 rfl ?_
            refine aw_getR (r := 106) C dX2_advance_96 kcX2 shB_84 3 (by decide) rfl mF_X2_21 ?_
            refine aw_getR (r := 115) C dX2_advance_99 kcX1 shB_106 4 (by decide) rfl mF_X2_127 ?_
            refine aw_aloadn C dX2_advance_102 rfl ?_
            refine aw_getI C dX2_advance_103 kcX2 shB_84 11 (by decide) rfl mF_X2_91 ?_
            refine aw_callV C dX2_advance_106 (t_at rowB_115 (Nat.le_of_ble_eq_true rfl) (G0 84 11) _) mM_X2_119 bX6_at rowB_115.1 rfl rfl ⟨Nat.le_of_ble_eq_true rfl, Nat.le_of_ble_eq_true rfl, Nat.zero_le _, Nat.zero_le _⟩ _ rfl (Nat.le_of_ble_eq_true rfl) (fun r106 G106x hq => ?_)
            obtain ⟨rfl, rfl⟩ := hq
            refine aw_istore C dX2_advance_109 (by decide) rfl ?_
            refine aw_aloadn C dX2_advance_111 rfl ?_
            refine aw_getR (r := 1) C dX2_advance_112 kcX2 shB_84 0 (by decide) rfl mF_X2_39 ?_
            refine aw_getR (r := 14) C dX2_advance_115 kcX4 shB_1 6 (by decide) rfl mF_X2_130 ?_
            refine aw_getR (r := 15) C dX2_advance_118 kcX0 shB_14 0 (by decide) rfl mF_X2_134 ?_
            refine aw_iload C dX2_advance_121 rfl ?_
            refine aw_callV C dX2_advance_123 (t_at (rowS_15 shOK_B) (Nat.le_of_ble_eq_true rfl) (rat G0 116 601 (G0 84 11)) _) mM_X2_119 bX6_at (rowS_15 shOK_B).1 rfl rfl ⟨Nat.le_of_ble_eq_true rfl, Nat.le_of_ble_eq_true rfl, Nat.zero_le _, Nat.zero_le _⟩ _ rfl (Nat.le_of_ble_eq_true rfl) (fun r123 G123x hq => ?_)
            obtain ⟨rfl, rfl⟩ := hq
            refine aw_istore C dX2_advance_126 (by decide) rfl ?_
            refine aw_aloadn C dX2_advance_128 rfl ?_
            refine aw_getR (r := 1) C dX2_advance_129 kcX2 shB_84 0 (by decide) rfl mF_X2_39 ?_
            refine aw_getR (r := 14) C dX2_advance_132 kcX4 shB_1 6 (by decide) rfl mF_X2_130 ?_
            refine aw_getR (r := 17) C dX2_advance_135 kcX0 shB_14 1 (by decide) rfl mF_X2_139 ?_
            refine aw_iload C dX2_advance_138 rfl ?_
            refine aw_callV C dX2_advance_140 (t_at (rowS_17 shOK_B) (Nat.le_of_ble_eq_true rfl) (rat G0 116 601 (G0 84 11)) _) mM_X2_119 bX6_at (rowS_17 shOK_B).1 rfl rfl ⟨Nat.le_of_ble_eq_true rfl, Nat.le_of_ble_eq_true rfl, Nat.zero_le _, Nat.zero_le _⟩ _ rfl (Nat.le_of_ble_eq_true rfl) (fun r140 G140x hq => ?_)
            obtain ⟨rfl, rfl⟩ := hq
            refine aw_istore C dX2_advance_143 (by decide) rfl ?_
            refine aw_aloadn C dX2_advance_145 rfl ?_
            refine aw_getR (r := 106) C dX2_advance_146 kcX2 shB_84 3 (by decide) rfl mF_X2_21 ?_
            refine aw_getR (r := 115) C dX2_advance_149 kcX1 shB_106 4 (by decide) rfl mF_X2_127 ?_
            refine aw_aloadn C dX2_advance_152 rfl ?_
            refine aw_getI C dX2_advance_153 kcX2 shB_84 11 (by decide) rfl mF_X2_91 ?_
            refine aw_iload C dX2_advance_156 rfl ?_
            refine aw_iconst (v := 1) C dX2_advance_158 (by decide) ?_
            refine aw_iadd C dX2_advance_159 ?_
            refine aw_callV C dX2_advance_160 (t_put rowB_115 (Nat.le_of_ble_eq_true rfl) (G0 84 11) ((rat G0 116 601 (G0 84 11)) + 1) _) mM_X2_142 bX6_put rowB_115.1 rfl rfl ⟨Nat.le_of_ble_eq_true rfl, Nat.le_of_ble_eq_true rfl, Nat.zero_le _, Nat.zero_le _⟩ _ rfl (Nat.le_of_ble_eq_true rfl) (fun r160 G2 hq => ?_)
            obtain ⟨rfl, hq⟩ := hq
            replace hw := pt_eq hw hq
            refine aw_iload C dX2_advance_163 rfl ?_
            refine aw_bipush (v := 48) C dX2_advance_165 (by decide) ?_
            refine aw_ic_lt C dX2_advance_167 181 (by decide) hw (fun hc167 hw => ?_) (fun hc167 hw => ?_)
            · refine aw_iload C dX2_advance_181 rfl ?_
              refine aw_bipush (v := 40) C dX2_advance_183 (by decide) ?_
              refine aw_ic_lt C dX2_advance_185 199 (by decide) hw (fun hc185 hw => ?_) (fun hc185 hw => ?_)
              · refine aw_iload C dX2_advance_199 rfl ?_
                refine aw_bipush (v := 29) C dX2_advance_201 (by decide) ?_
                refine aw_ic_lt C dX2_advance_203 217 (by decide) hw (fun hc203 hw => ?_) (fun hc203 hw => ?_)
                · refine aw_iload C dX2_advance_217 rfl ?_
                  refine aw_bipush (v := 13) C dX2_advance_219 (by decide) ?_
                  refine aw_ic_lt C dX2_advance_221 235 (by decide) hw (fun hc221 hw => ?_) (fun hc221 hw => ?_)
                  · refine aw_aloadn C dX2_advance_235 rfl ?_
                    refine aw_iload C dX2_advance_236 rfl ?_
                    refine aw_iload C dX2_advance_238 rfl ?_
                    refine aw_callV C dX2_advance_240 (t_X2_performReckoning (rat G0 16 1081 (rat G0 116 601 (G0 84 11))) (rat G0 18 1081 (rat G0 116 601 (G0 84 11))) _ _ hw) mM_X2_158 bX2_performReckoning shB_84 rfl rfl ⟨Nat.le_of_ble_eq_true rfl, Nat.le_of_ble_eq_true rfl, Nat.zero_le _, Nat.zero_le _⟩ _ rfl (Nat.le_of_ble_eq_true rfl) (fun r240 G3 hq => ?_)
                    obtain ⟨rfl, hw⟩ := hq
                    exact aw_msk [true, true, true, true, true, false, false, false] (h243 _ ih x1 x2 x3 x4 _ hw)
                  · refine aw_aloadn C dX2_advance_224 rfl ?_
                    refine aw_iload C dX2_advance_225 rfl ?_
                    refine aw_iload C dX2_advance_227 rfl ?_
                    refine aw_callV C dX2_advance_229 (t_X2_performControl (rat G0 16 1081 (rat G0 116 601 (G0 84 11))) (rat G0 18 1081 (rat G0 116 601 (G0 84 11))) _ _ hw) mM_X2_155 bX2_performControl shB_84 rfl rfl ⟨Nat.le_of_ble_eq_true rfl, Nat.le_of_ble_eq_true rfl, Nat.zero_le _, Nat.zero_le _⟩ _ rfl (Nat.le_of_ble_eq_true rfl) (fun r229 G4 hq => ?_)
                    obtain ⟨rfl, hw⟩ := hq
                    refine aw_goto (tgt := 243) C dX2_advance_232 (by decide) ?_
                    exact aw_msk [true, true, true, true, true, false, false, false] (h243 _ ih x1 x2 x3 x4 _ hw)
                · refine aw_aloadn C dX2_advance_206 rfl ?_
                  refine aw_iload C dX2_advance_207 rfl ?_
                  refine aw_iload C dX2_advance_209 rfl ?_
                  refine aw_callV C dX2_advance_211 (t_X2_performEditing (rat G0 16 1081 (rat G0 116 601 (G0 84 11))) (rat G0 18 1081 (rat G0 116 601 (G0 84 11))) _ _ hw) mM_X2_152 bX2_performEditing shB_84 rfl rfl ⟨Nat.le_of_ble_eq_true rfl, Nat.le_of_ble_eq_true rfl, Nat.zero_le _, Nat.zero_le _⟩ _ rfl (Nat.le_of_ble_eq_true rfl) (fun r211 G5 hq => ?_)
                  obtain ⟨rfl, hw⟩ := hq
                  refine aw_goto (tgt := 243) C dX2_advance_214 (by decide) ?_
                  exact aw_msk [true, true, true, true, true, false, false, false] (h243 _ ih x1 x2 x3 x4 _ hw)
              · refine aw_aloadn C dX2_advance_188 rfl ?_
                refine aw_iload C dX2_advance_189 rfl ?_
                refine aw_iload C dX2_advance_191 rfl ?_
                refine aw_callV C dX2_advance_193 (t_X2_performFlow (rat G0 16 1081 (rat G0 116 601 (G0 84 11))) (rat G0 18 1081 (rat G0 116 601 (G0 84 11))) _ _ hw) mM_X2_149 bX2_performFlow shB_84 rfl rfl ⟨Nat.le_of_ble_eq_true rfl, Nat.le_of_ble_eq_true rfl, Nat.zero_le _, Nat.zero_le _⟩ _ rfl (Nat.le_of_ble_eq_true rfl) (fun r193 G6 hq => ?_)
                obtain ⟨rfl, hw⟩ := hq
                refine aw_goto (tgt := 243) C dX2_advance_196 (by decide) ?_
                exact aw_msk [true, true, true, true, true, false, false, false] (h243 _ ih x1 x2 x3 x4 _ hw)
            · refine aw_aloadn C dX2_advance_170 rfl ?_
              refine aw_iload C dX2_advance_171 rfl ?_
              refine aw_iload C dX2_advance_173 rfl ?_
              refine aw_callV C dX2_advance_175 (t_X2_performBehind (rat G0 16 1081 (rat G0 116 601 (G0 84 11))) (rat G0 18 1081 (rat G0 116 601 (G0 84 11))) _ _ hw) mM_X2_146 bX2_performBehind shB_84 rfl rfl ⟨Nat.le_of_ble_eq_true rfl, Nat.le_of_ble_eq_true rfl, Nat.zero_le _, Nat.zero_le _⟩ _ rfl (Nat.le_of_ble_eq_true rfl) (fun r175 G7 hq => ?_)
              obtain ⟨rfl, hw⟩ := hq
              refine aw_goto (tgt := 243) C dX2_advance_178 (by decide) ?_
              exact aw_msk [true, true, true, true, true, false, false, false] (h243 _ ih x1 x2 x3 x4 _ hw)
          · refine aw_iloadn C dX2_advance_29 rfl ?_
            refine aw_if_eq C dX2_advance_30 63 (by decide) hw (fun hc30 hw => ?_) (fun hc30 hw => ?_)
            · exact aw_msk [true, true, true, true, true, false, false, false] (h63 _ ih x1 x2 x3 x4 _ hw)
            · refine aw_aloadn C dX2_advance_33 rfl ?_
              refine aw_getI C dX2_advance_34 kcX2 shB_84 10 (by decide) rfl mF_X2_62 ?_
              refine aw_iloadn C dX2_advance_37 rfl ?_
              refine aw_ic_le C dX2_advance_38 63 (by decide) hw (fun hc38 hw => ?_) (fun hc38 hw => ?_)
              · exact aw_msk [true, true, true, true, true, false, false, false] (h63 _ ih x1 x2 x3 x4 _ hw)
              · refine aw_aloadn C dX2_advance_41 rfl ?_
                refine aw_getR (r := 1) C dX2_advance_42 kcX2 shB_84 0 (by decide) rfl mF_X2_39 ?_
                refine aw_getR (r := 10) C dX2_advance_45 kcX4 shB_1 4 (by decide) rfl mF_X2_109 ?_
                refine aw_aloadn C dX2_advance_48 rfl ?_
                refine aw_callV C dX2_advance_49 (t_X2_waitingNode _ _ hw) mM_X2_115 bX2_waitingNode shB_84 rfl rfl ⟨Nat.le_of_ble_eq_true rfl, Nat.le_of_ble_eq_true rfl, Nat.zero_le _, Nat.zero_le _⟩ _ rfl (Nat.le_of_ble_eq_true rfl) (fun r49 G9 hq => ?_)
                obtain ⟨v10, rfl, hw⟩ := hq
                refine aw_callV C dX2_advance_52 (t_at (rowS_10 shOK_B) (Nat.le_of_ble_eq_true rfl) v10 _) mM_X2_119 bX6_at (rowS_10 shOK_B).1 rfl rfl ⟨Nat.le_of_ble_eq_true rfl, Nat.le_of_ble_eq_true rfl, Nat.zero_le _, Nat.zero_le _⟩ _ rfl (Nat.le_of_ble_eq_true rfl) (fun r52 G52x hq => ?_)
                obtain ⟨rfl, rfl⟩ := hq
                refine aw_iconst (v := 1) C dX2_advance_55 (by decide) ?_
                refine aw_ic_ne C dX2_advance_56 63 (by decide) hw (fun hc56 hw => ?_) (fun hc56 hw => ?_)
                · exact aw_msk [true, true, true, true, true, false, false, false] (h63 _ ih x1 x2 x3 x4 _ hw)
                · refine aw_iconst (v := 1) C dX2_advance_59 (by decide) ?_
                  refine aw_goto (tgt := 64) C dX2_advance_60 (by decide) ?_
                  exact aw_msk [true, true, true, true, true, false, false, false] (h64 _ ih x1 x2 x3 x4 1 _ hw)
  unfold w_X2_advance at hw
  show aw p l e { frames := 5, cells := 0, slots := 0, locals := 126 } s m args below meth c 8 D tA A (MQ below (QC0 D tA ad A shB (fun r G' => ∃ v, r = some (.int v) ∧ K v G')) args s 0 0 A) 0 0 ad 0 [some (.ref 84), some (.int p0), some (.int p1), none, none, none, none, none] [] shB G0
  refine aw_aloadn C dX2_advance_0 rfl ?_
  refine aw_getI C dX2_advance_1 kcX2 shB_84 10 (by decide) rfl mF_X2_62 ?_
  refine aw_istoren C dX2_advance_4 (by decide) rfl ?_
  refine aw_iconst (v := 0) C dX2_advance_5 (by decide) ?_
  refine aw_istore C dX2_advance_6 (by decide) rfl ?_
  obtain ⟨n0, hw⟩ := hw
  exact aw_msk [true, true, true, true, true, false, false, false] (h8 n0 p0 p1 (G0 84 10) 0 _ hw)
