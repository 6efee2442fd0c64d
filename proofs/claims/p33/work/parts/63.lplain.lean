def w_L_low (K : Int32 → Gt → Prop) (p0 : Int32) (p1 : Int32) (G0 : Gt) : Prop :=
  ¬ p1 = 0 ∧
  K ((p0 &&& 2147483647) - (p0 &&& 2147483647) / p1 * p1) G0
set_option maxHeartbeats 4000000 in
set_option maxRecDepth 100000 in
theorem t_L_low {l : Launch} {sh : Sh}  (p0 : Int32) (p1 : Int32) (G0 : Gt) (K : Int32 → Gt → Prop) (hw : w_L_low K p0 p1 G0) : CT0 l yL_low cL_low 2 (some .int) 0 0 [.int p0, .int p1] sh G0 (fun r G' => ∃ v, r = some (.int v) ∧ K v G') := by
  refine CT0_of (by decide) (Nat.le_of_ble_eq_true rfl) rfl ?_
  intro p e s m args below meth c D tA ad A C hr _
  unfold w_L_low at hw
  show aw p l e { frames := 0, cells := 0, slots := 0, locals := 0 } s m args below meth c 2 D tA A (MQ below (QC0 D tA ad A sh (fun r G' => ∃ v, r = some (.int v) ∧ K v G')) args s 0 0 A) 0 0 ad 0 [some (.int p0), some (.int p1)] [] sh G0
  refine aw_iloadn C dL_low_0 rfl ?_
  refine aw_ldc (v := 2147483647) C dL_low_1 mK_L_9 ?_
  refine aw_iand C dL_low_3 ?_
  refine aw_iloadn C dL_low_4 rfl ?_
  refine aw_irem C dL_low_5 hw.1 ?_
  replace hw := hw.2
  exact aw_ireturn C hr dL_low_6 ⟨_, rfl, hw⟩
def w_L_hasSecond_j80 (K : Int32 → Gt → Prop) (y0 : Int32) (G0 : Gt) : Prop :=
  bz y0 ∧ K y0 G0
def w_L_hasSecond_j75 (K : Int32 → Gt → Prop)  (G0 : Gt) : Prop :=
  w_L_hasSecond_j80 K 1 G0
def w_L_hasSecond_j21 (K : Int32 → Gt → Prop) (x0 : Int32) (G0 : Gt) : Prop :=
  pif (x0 = 13) (
    w_L_hasSecond_j75 K G0) (
    pif (x0 = 14) (
      w_L_hasSecond_j75 K G0) (
      pif (x0 = 16) (
        w_L_hasSecond_j75 K G0) (
        pif (x0 = 17) (
          w_L_hasSecond_j75 K G0) (
          pif (x0 = 20) (
            w_L_hasSecond_j75 K G0) (
            pif (x0 = 21) (
              w_L_hasSecond_j75 K G0) (
              pif (x0 = 26) (
                w_L_hasSecond_j75 K G0) (
                pif (x0 = 28) (
                  w_L_hasSecond_j75 K G0) (
                  pif (x0 = 38) (
                    w_L_hasSecond_j75 K G0) (
                    w_L_hasSecond_j80 K 0 G0)))))))))
def w_L_hasSecond (K : Int32 → Gt → Prop) (p0 : Int32) (G0 : Gt) : Prop :=
  pif (p0 = 2) (
    w_L_hasSecond_j75 K G0) (
    pif (p0 = 3) (
      w_L_hasSecond_j75 K G0) (
      pif (p0 ≤ 3) (
        w_L_hasSecond_j21 K p0 G0) (
        pif (p0 < 12) (
          w_L_hasSecond_j75 K G0) (
          w_L_hasSecond_j21 K p0 G0))))
set_option maxHeartbeats 4000000 in
set_option maxRecDepth 100000 in
theorem t_L_hasSecond {l : Launch} {sh : Sh}  (p0 : Int32) (G0 : Gt) (K : Int32 → Gt → Prop) (hw : w_L_hasSecond K p0 G0) : CT0 l yL_hasSecond cL_hasSecond 1 (some .boolean) 0 0 [.int p0] sh G0 (fun r G' => ∃ v, r = some (.int v) ∧ K v G') := by
  refine CT0_of (by decide) (Nat.le_of_ble_eq_true rfl) rfl ?_
  intro p e s m args below meth c D tA ad A C hr _
  have h80 : ∀ (y0 : Int32) (G0 : Gt), w_L_hasSecond_j80 K y0 G0 → aw p l e { frames := 0, cells := 0, slots := 0, locals := 0 } s m args below meth c 1 D tA A (MQ below (QC0 D tA ad A sh (fun r G' => ∃ v, r = some (.int v) ∧ K v G')) args s 0 0 A) 0 0 ad 80 [none] [.int y0] sh G0 := by
    intro  y0 G0 hw
    unfold w_L_hasSecond_j80 at hw
    exact aw_zreturn C hr dL_hasSecond_80 (bz_n hw.1) ⟨_, rfl, hw.2⟩
  have h75 : ∀ (G0 : Gt), w_L_hasSecond_j75 K  G0 → aw p l e { frames := 0, cells := 0, slots := 0, locals := 0 } s m args below meth c 1 D tA A (MQ below (QC0 D tA ad A sh (fun r G' => ∃ v, r = some (.int v) ∧ K v G')) args s 0 0 A) 0 0 ad 75 [none] [] sh G0 := by
    intro   G0 hw
    unfold w_L_hasSecond_j75 at hw
    refine aw_iconst (v := 1) C dL_hasSecond_75 (by decide) ?_
    refine aw_goto (tgt := 80) C dL_hasSecond_76 (by decide) ?_
    exact aw_msk [false] (h80 1 _ hw)
  have h21 : ∀ (x0 : Int32) (G0 : Gt), w_L_hasSecond_j21 K x0 G0 → aw p l e { frames := 0, cells := 0, slots := 0, locals := 0 } s m args below meth c 1 D tA A (MQ below (QC0 D tA ad A sh (fun r G' => ∃ v, r = some (.int v) ∧ K v G')) args s 0 0 A) 0 0 ad 21 [some (.int x0)] [] sh G0 := by
    intro  x0 G0 hw
    unfold w_L_hasSecond_j21 at hw
    refine aw_iloadn C dL_hasSecond_21 rfl ?_
    refine aw_bipush (v := 13) C dL_hasSecond_22 (by decide) ?_
    refine aw_ic_eq C dL_hasSecond_24 75 (by decide) hw (fun hc24 hw => ?_) (fun hc24 hw => ?_)
    · exact aw_msk [false] (h75 _ hw)
    · refine aw_iloadn C dL_hasSecond_27 rfl ?_
      refine aw_bipush (v := 14) C dL_hasSecond_28 (by decide) ?_
      refine aw_ic_eq C dL_hasSecond_30 75 (by decide) hw (fun hc30 hw => ?_) (fun hc30 hw => ?_)
      · exact aw_msk [false] (h75 _ hw)
      · refine aw_iloadn C dL_hasSecond_33 rfl ?_
        refine aw_bipush (v := 16) C dL_hasSecond_34 (by decide) ?_
        refine aw_ic_eq C dL_hasSecond_36 75 (by decide) hw (fun hc36 hw => ?_) (fun hc36 hw => ?_)
        · exact aw_msk [false] (h75 _ hw)
        · refine aw_iloadn C dL_hasSecond_39 rfl ?_
          refine aw_bipush (v := 17) C dL_hasSecond_40 (by decide) ?_
          refine aw_ic_eq C dL_hasSecond_42 75 (by decide) hw (fun hc42 hw => ?_) (fun hc42 hw => ?_)
          · exact aw_msk [false] (h75 _ hw)
          · refine aw_iloadn C dL_hasSecond_45 rfl ?_
            refine aw_bipush (v := 20) C dL_hasSecond_46 (by decide) ?_
            refine aw_ic_eq C dL_hasSecond_48 75 (by decide) hw (fun hc48 hw => ?_) (fun hc48 hw => ?_)
            · exact aw_msk [false] (h75 _ hw)
            · refine aw_iloadn C dL_hasSecond_51 rfl ?_
              refine aw_bipush (v := 21) C dL_hasSecond_52 (by decide) ?_
              refine aw_ic_eq C dL_hasSecond_54 75 (by decide) hw (fun hc54 hw => ?_) (fun hc54 hw => ?_)
              · exact aw_msk [false] (h75 _ hw)
              · refine aw_iloadn C dL_hasSecond_57 rfl ?_
                refine aw_bipush (v := 26) C dL_hasSecond_58 (by decide) ?_
                refine aw_ic_eq C dL_hasSecond_60 75 (by decide) hw (fun hc60 hw => ?_) (fun hc60 hw => ?_)
                · exact aw_msk [false] (h75 _ hw)
                · refine aw_iloadn C dL_hasSecond_63 rfl ?_
                  refine aw_bipush (v := 28) C dL_hasSecond_64 (by decide) ?_
                  refine aw_ic_eq C dL_hasSecond_66 75 (by decide) hw (fun hc66 hw => ?_) (fun hc66 hw => ?_)
                  · exact aw_msk [false] (h75 _ hw)
                  · refine aw_iloadn C dL_hasSecond_69 rfl ?_
                    refine aw_bipush (v := 38) C dL_hasSecond_70 (by decide) ?_
                    refine aw_ic_ne C dL_hasSecond_72 79 (by decide) hw (fun hc72 hw => ?_) (fun hc72 hw => ?_)
                    · refine aw_iconst (v := 0) C dL_hasSecond_79 (by decide) ?_
                      exact aw_msk [false] (h80 0 _ hw)
                    · exact aw_msk [false] (h75 _ hw)
  unfold w_L_hasSecond at hw
  show aw p l e { frames := 0, cells := 0, slots := 0, locals := 0 } s m args below meth c 1 D tA A (MQ below (QC0 D tA ad A sh (fun r G' => ∃ v, r = some (.int v) ∧ K v G')) args s 0 0 A) 0 0 ad 0 [some (.int p0)] [] sh G0
  refine aw_iloadn C dL_hasSecond_0 rfl ?_
  refine aw_iconst (v := 2) C dL_hasSecond_1 (by decide) ?_
  refine aw_ic_eq C dL_hasSecond_2 75 (by decide) hw (fun hc2 hw => ?_) (fun hc2 hw => ?_)
  · exact aw_msk [false] (h75 _ hw)
  · refine aw_iloadn C dL_hasSecond_5 rfl ?_
    refine aw_iconst (v := 3) C dL_hasSecond_6 (by decide) ?_
    refine aw_ic_eq C dL_hasSecond_7 75 (by decide) hw (fun hc7 hw => ?_) (fun hc7 hw => ?_)
    · exact aw_msk [false] (h75 _ hw)
    · refine aw_iloadn C dL_hasSecond_10 rfl ?_
      refine aw_iconst (v := 3) C dL_hasSecond_11 (by decide) ?_
      refine aw_ic_le C dL_hasSecond_12 21 (by decide) hw (fun hc12 hw => ?_) (fun hc12 hw => ?_)
      · exact aw_msk [true] (h21 p0 _ hw)
      · refine aw_iloadn C dL_hasSecond_15 rfl ?_
        refine aw_bipush (v := 12) C dL_hasSecond_16 (by decide) ?_
        refine aw_ic_lt C dL_hasSecond_18 75 (by decide) hw (fun hc18 hw => ?_) (fun hc18 hw => ?_)
        · exact aw_msk [false] (h75 _ hw)
        · exact aw_msk [true] (h21 p0 _ hw)
def w_L_isOutcome_j59 (K : Int32 → Gt → Prop) (y0 : Int32) (G0 : Gt) : Prop :=
  bz y0 ∧ K y0 G0
def w_L_isOutcome_j58 (K : Int32 → Gt → Prop)  (G0 : Gt) : Prop :=
  w_L_isOutcome_j59 K 0 G0
def w_L_isOutcome_j54 (K : Int32 → Gt → Prop)  (G0 : Gt) : Prop :=
  w_L_isOutcome_j59 K 1 G0
def w_L_isOutcome_j42 (K : Int32 → Gt → Prop) (x0 : Int32) (G0 : Gt) : Prop :=
  pif (x0 < 40001) (
    w_L_isOutcome_j58 K G0) (
    pif (60000 ≤ x0) (
      w_L_isOutcome_j58 K G0) (
      w_L_isOutcome_j54 K G0))
def w_L_isOutcome_j28 (K : Int32 → Gt → Prop) (x0 : Int32) (G0 : Gt) : Prop :=
  pif (x0 < 30000) (
    w_L_isOutcome_j42 K x0 G0) (
    pif (x0 < 30600) (
      w_L_isOutcome_j54 K G0) (
      w_L_isOutcome_j42 K x0 G0))
def w_L_isOutcome_j14 (K : Int32 → Gt → Prop) (x0 : Int32) (G0 : Gt) : Prop :=
  pif (x0 < 20000) (
    w_L_isOutcome_j28 K x0 G0) (
    pif (x0 < 20600) (
      w_L_isOutcome_j54 K G0) (
      w_L_isOutcome_j28 K x0 G0))
def w_L_isOutcome (K : Int32 → Gt → Prop) (p0 : Int32) (G0 : Gt) : Prop :=
  pif (p0 < (-9999)) (
    w_L_isOutcome_j14 K p0 G0) (
    pif (p0 ≤ 9999) (
      w_L_isOutcome_j54 K G0) (
      w_L_isOutcome_j14 K p0 G0))
set_option maxHeartbeats 4000000 in
set_option maxRecDepth 100000 in
theorem t_L_isOutcome {l : Launch} {sh : Sh}  (p0 : Int32) (G0 : Gt) (K : Int32 → Gt → Prop) (hw : w_L_isOutcome K p0 G0) : CT0 l yL_isOutcome cL_isOutcome 1 (some .boolean) 0 0 [.int p0] sh G0 (fun r G' => ∃ v, r = some (.int v) ∧ K v G') := by
  refine CT0_of (by decide) (Nat.le_of_ble_eq_true rfl) rfl ?_
  intro p e s m args below meth c D tA ad A C hr _
  have h59 : ∀ (y0 : Int32) (G0 : Gt), w_L_isOutcome_j59 K y0 G0 → aw p l e { frames := 0, cells := 0, slots := 0, locals := 0 } s m args below meth c 1 D tA A (MQ below (QC0 D tA ad A sh (fun r G' => ∃ v, r = some (.int v) ∧ K v G')) args s 0 0 A) 0 0 ad 59 [none] [.int y0] sh G0 := by
    intro  y0 G0 hw
    unfold w_L_isOutcome_j59 at hw
    exact aw_zreturn C hr dL_isOutcome_59 (bz_n hw.1) ⟨_, rfl, hw.2⟩
  have h58 : ∀ (G0 : Gt), w_L_isOutcome_j58 K  G0 → aw p l e { frames := 0, cells := 0, slots := 0, locals := 0 } s m args below meth c 1 D tA A (MQ below (QC0 D tA ad A sh (fun r G' => ∃ v, r = some (.int v) ∧ K v G')) args s 0 0 A) 0 0 ad 58 [none] [] sh G0 := by
    intro   G0 hw
    unfold w_L_isOutcome_j58 at hw
    refine aw_iconst (v := 0) C dL_isOutcome_58 (by decide) ?_
    exact aw_msk [false] (h59 0 _ hw)
  have h54 : ∀ (G0 : Gt), w_L_isOutcome_j54 K  G0 → aw p l e { frames := 0, cells := 0, slots := 0, locals := 0 } s m args below meth c 1 D tA A (MQ below (QC0 D tA ad A sh (fun r G' => ∃ v, r = some (.int v) ∧ K v G')) args s 0 0 A) 0 0 ad 54 [none] [] sh G0 := by
    intro   G0 hw
    unfold w_L_isOutcome_j54 at hw
    refine aw_iconst (v := 1) C dL_isOutcome_54 (by decide) ?_
    refine aw_goto (tgt := 59) C dL_isOutcome_55 (by decide) ?_
    exact aw_msk [false] (h59 1 _ hw)
  have h42 : ∀ (x0 : Int32) (G0 : Gt), w_L_isOutcome_j42 K x0 G0 → aw p l e { frames := 0, cells := 0, slots := 0, locals := 0 } s m args below meth c 1 D tA A (MQ below (QC0 D tA ad A sh (fun r G' => ∃ v, r = some (.int v) ∧ K v G')) args s 0 0 A) 0 0 ad 42 [some (.int x0)] [] sh G0 := by
    intro  x0 G0 hw
    unfold w_L_isOutcome_j42 at hw
    refine aw_iloadn C dL_isOutcome_42 rfl ?_
    refine aw_ldc (v := 40001) C dL_isOutcome_43 mK_L_143 ?_
    refine aw_ic_lt C dL_isOutcome_45 58 (by decide) hw (fun hc45 hw => ?_) (fun hc45 hw => ?_)
    · exact aw_msk [false] (h58 _ hw)
    · refine aw_iloadn C dL_isOutcome_48 rfl ?_
      refine aw_ldc (v := 60000) C dL_isOutcome_49 mK_L_144 ?_
      refine aw_ic_ge C dL_isOutcome_51 58 (by decide) hw (fun hc51 hw => ?_) (fun hc51 hw => ?_)
      · exact aw_msk [false] (h58 _ hw)
      · exact aw_msk [false] (h54 _ hw)
  have h28 : ∀ (x0 : Int32) (G0 : Gt), w_L_isOutcome_j28 K x0 G0 → aw p l e { frames := 0, cells := 0, slots := 0, locals := 0 } s m args below meth c 1 D tA A (MQ below (QC0 D tA ad A sh (fun r G' => ∃ v, r = some (.int v) ∧ K v G')) args s 0 0 A) 0 0 ad 28 [some (.int x0)] [] sh G0 := by
    intro  x0 G0 hw
    unfold w_L_isOutcome_j28 at hw
    refine aw_iloadn C dL_isOutcome_28 rfl ?_
    refine aw_sipush (v := 30000) C dL_isOutcome_29 (by decide) ?_
    refine aw_ic_lt C dL_isOutcome_32 42 (by decide) hw (fun hc32 hw => ?_) (fun hc32 hw => ?_)
    · exact aw_msk [true] (h42 x0 _ hw)
    · refine aw_iloadn C dL_isOutcome_35 rfl ?_
      refine aw_sipush (v := 30600) C dL_isOutcome_36 (by decide) ?_
      refine aw_ic_lt C dL_isOutcome_39 54 (by decide) hw (fun hc39 hw => ?_) (fun hc39 hw => ?_)
      · exact aw_msk [false] (h54 _ hw)
      · exact aw_msk [true] (h42 x0 _ hw)
  have h14 : ∀ (x0 : Int32) (G0 : Gt), w_L_isOutcome_j14 K x0 G0 → aw p l e { frames := 0, cells := 0, slots := 0, locals := 0 } s m args below meth c 1 D tA A (MQ below (QC0 D tA ad A sh (fun r G' => ∃ v, r = some (.int v) ∧ K v G')) args s 0 0 A) 0 0 ad 14 [some (.int x0)] [] sh G0 := by
    intro  x0 G0 hw
    unfold w_L_isOutcome_j14 at hw
    refine aw_iloadn C dL_isOutcome_14 rfl ?_
    refine aw_sipush (v := 20000) C dL_isOutcome_15 (by decide) ?_
    refine aw_ic_lt C dL_isOutcome_18 28 (by decide) hw (fun hc18 hw => ?_) (fun hc18 hw => ?_)
    · exact aw_msk [true] (h28 x0 _ hw)
    · refine aw_iloadn C dL_isOutcome_21 rfl ?_
      refine aw_sipush (v := 20600) C dL_isOutcome_22 (by decide) ?_
      refine aw_ic_lt C dL_isOutcome_25 54 (by decide) hw (fun hc25 hw => ?_) (fun hc25 hw => ?_)
      · exact aw_msk [false] (h54 _ hw)
      · exact aw_msk [true] (h28 x0 _ hw)
  unfold w_L_isOutcome at hw
  show aw p l e { frames := 0, cells := 0, slots := 0, locals := 0 } s m args below meth c 1 D tA A (MQ below (QC0 D tA ad A sh (fun r G' => ∃ v, r = some (.int v) ∧ K v G')) args s 0 0 A) 0 0 ad 0 [some (.int p0)] [] sh G0
  refine aw_iloadn C dL_isOutcome_0 rfl ?_
  refine aw_sipush (v := (-9999)) C dL_isOutcome_1 (by decide) ?_
  refine aw_ic_lt C dL_isOutcome_4 14 (by decide) hw (fun hc4 hw => ?_) (fun hc4 hw => ?_)
  · exact aw_msk [true] (h14 p0 _ hw)
  · refine aw_iloadn C dL_isOutcome_7 rfl ?_
    refine aw_sipush (v := 9999) C dL_isOutcome_8 (by decide) ?_
    refine aw_ic_le C dL_isOutcome_11 54 (by decide) hw (fun hc11 hw => ?_) (fun hc11 hw => ?_)
    · exact aw_msk [false] (h54 _ hw)
    · exact aw_msk [true] (h14 p0 _ hw)
def w_L_part_j44 (K : Int32 → Gt → Prop) (y0 : Int32) (G0 : Gt) : Prop :=
  K y0 G0
def w_L_part_j40 (K : Int32 → Gt → Prop) (y0 : Int32) (y1 : Int32) (y2 : Int32) (G0 : Gt) : Prop :=
  w_L_low (fun v4 G3 =>
    w_L_part_j44 K (y0 - v4) G3) y1 y2 G0
def w_L_part (K : Int32 → Gt → Prop) (p1 : Int32) (G0 : Gt) : Prop :=
  vp_in 0 7 ∧
  w_L_low (fun v2 G1 =>
    pif (v2 = 0) (
      w_L_low (fun v6 G5 =>
        w_L_part_j44 K v6 G5) (p1 >>> (2 &&& 31)) (G0 47 (0 : Int32).toNatClampNeg) G1) (
      pif (9 ≤ (G0 47 (0 : Int32).toNatClampNeg)) (
        w_L_part_j40 K ((G0 47 (0 : Int32).toNatClampNeg) - 1) (p1 >>> (2 &&& 31)) 9 G1) (
        w_L_part_j40 K ((G0 47 (0 : Int32).toNatClampNeg) - 1) (p1 >>> (2 &&& 31)) (G0 47 (0 : Int32).toNatClampNeg) G1))) p1 4 G0
set_option maxHeartbeats 4000000 in
set_option maxRecDepth 100000 in
theorem t_L_part {l : Launch} {sh : Sh} (S : shOK sh) (p1 : Int32) (G0 : Gt) (K : Int32 → Gt → Prop) (hw : w_L_part K p1 G0) : CT0 l yL_part cL_part 3 (some .int) 1 21 [.ref 47, .int p1] sh G0 (fun r G' => ∃ v, r = some (.int v) ∧ K v G') := by
  refine CT0_of (by decide) (Nat.le_of_ble_eq_true rfl) rfl ?_
  intro p e s m args below meth c D tA ad A C hr _
  have h44 : ∀ (y0 : Int32) (G0 : Gt), w_L_part_j44 K y0 G0 → aw p l e { frames := 1, cells := 0, slots := 0, locals := 21 } s m args below meth c 3 D tA A (MQ below (QC0 D tA ad A sh (fun r G' => ∃ v, r = some (.int v) ∧ K v G')) args s 0 0 A) 0 0 ad 44 [none, none, none] [.int y0] sh G0 := by
    intro  y0 G0 hw
    unfold w_L_part_j44 at hw
    exact aw_ireturn C hr dL_part_44 ⟨_, rfl, hw⟩
  have h40 : ∀ (y0 : Int32) (y1 : Int32) (y2 : Int32) (G0 : Gt), w_L_part_j40 K y0 y1 y2 G0 → aw p l e { frames := 1, cells := 0, slots := 0, locals := 21 } s m args below meth c 3 D tA A (MQ below (QC0 D tA ad A sh (fun r G' => ∃ v, r = some (.int v) ∧ K v G')) args s 0 0 A) 0 0 ad 40 [none, none, none] [.int y2, .int y1, .int y0] sh G0 := by
    intro  y0 y1 y2 G0 hw
    unfold w_L_part_j40 at hw
    refine aw_callS C dL_part_40 (t_L_low y1 y2 _ _ hw) mM_L_93 bL_low rfl rfl ⟨Nat.le_of_ble_eq_true rfl, Nat.le_of_ble_eq_true rfl, Nat.zero_le _, Nat.zero_le _⟩ _ rfl (Nat.le_of_ble_eq_true rfl) (fun r40 G3 hq => ?_)
    obtain ⟨v4, rfl, hw⟩ := hq
    refine aw_isub C dL_part_43 ?_
    exact aw_msk [false, false, false] (h44 (y0 - v4) _ hw)
  unfold w_L_part at hw
  show aw p l e { frames := 1, cells := 0, slots := 0, locals := 21 } s m args below meth c 3 D tA A (MQ below (QC0 D tA ad A sh (fun r G' => ∃ v, r = some (.int v) ∧ K v G')) args s 0 0 A) 0 0 ad 0 [some (.ref 47), some (.int p1), none] [] sh G0
  refine aw_aloadn C dL_part_0 rfl ?_
  refine aw_iconst (v := 0) C dL_part_1 (by decide) ?_
  refine aw_iald C dL_part_2 (sA_47 S) hw.1 ?_
  replace hw := hw.2
  refine aw_istoren C dL_part_3 (by decide) rfl ?_
  refine aw_iloadn C dL_part_4 rfl ?_
  refine aw_iconst (v := 4) C dL_part_5 (by decide) ?_
  refine aw_callS C dL_part_6 (t_L_low p1 4 _ _ hw) mM_L_93 bL_low rfl rfl ⟨Nat.le_of_ble_eq_true rfl, Nat.le_of_ble_eq_true rfl, Nat.zero_le _, Nat.zero_le _⟩ _ rfl (Nat.le_of_ble_eq_true rfl) (fun r6 G1 hq => ?_)
  obtain ⟨v2, rfl, hw⟩ := hq
  refine aw_if_ne C dL_part_9 22 (by decide) hw (fun hc9 hw => ?_) (fun hc9 hw => ?_)
  · refine aw_iloadn C dL_part_22 rfl ?_
    refine aw_iconst (v := 1) C dL_part_23 (by decide) ?_
    refine aw_isub C dL_part_24 ?_
    refine aw_iloadn C dL_part_25 rfl ?_
    refine aw_iconst (v := 2) C dL_part_26 (by decide) ?_
    refine aw_ishr C dL_part_27 ?_
    refine aw_iloadn C dL_part_28 rfl ?_
    refine aw_bipush (v := 9) C dL_part_29 (by decide) ?_
    refine aw_ic_ge C dL_part_31 38 (by decide) hw (fun hc31 hw => ?_) (fun hc31 hw => ?_)
    · refine aw_bipush (v := 9) C dL_part_38 (by decide) ?_
      exact aw_msk [false, false, false] (h40 ((G0 47 (0 : Int32).toNatClampNeg) - 1) (p1 >>> (2 &&& 31)) 9 _ hw)
    · refine aw_iloadn C dL_part_34 rfl ?_
      refine aw_goto (tgt := 40) C dL_part_35 (by decide) ?_
      exact aw_msk [false, false, false] (h40 ((G0 47 (0 : Int32).toNatClampNeg) - 1) (p1 >>> (2 &&& 31)) (G0 47 (0 : Int32).toNatClampNeg) _ hw)
  · refine aw_iloadn C dL_part_12 rfl ?_
    refine aw_iconst (v := 2) C dL_part_13 (by decide) ?_
    refine aw_ishr C dL_part_14 ?_
    refine aw_iloadn C dL_part_15 rfl ?_
    refine aw_callS C dL_part_16 (t_L_low (p1 >>> (2 &&& 31)) (G0 47 (0 : Int32).toNatClampNeg) _ _ hw) mM_L_93 bL_low rfl rfl ⟨Nat.le_of_ble_eq_true rfl, Nat.le_of_ble_eq_true rfl, Nat.zero_le _, Nat.zero_le _⟩ _ rfl (Nat.le_of_ble_eq_true rfl) (fun r16 G5 hq => ?_)
    obtain ⟨v6, rfl, hw⟩ := hq
    refine aw_goto (tgt := 44) C dL_part_19 (by decide) ?_
    exact aw_msk [false, false, false] (h44 v6 _ hw)
def w_L_firstOf_j66 (K : Int32 → Gt → Prop) (x2 : Int32) (G0 : Gt) : Prop :=
  w_L_low (fun v2 G1 =>
    K v2 G1) x2 3 G0
def w_L_firstOf_j108 (K : Int32 → Gt → Prop) (x2 : Int32) (G0 : Gt) : Prop :=
  w_L_low (fun v4 G3 =>
    K v4 G3) x2 2 G0
def w_L_firstOf_j126 (K : Int32 → Gt → Prop) (x2 : Int32) (G0 : Gt) : Prop :=
  w_L_low (fun v6 G5 =>
    K v6 G5) x2 3 G0
def w_L_firstOf_j179 (K : Int32 → Gt → Prop) (y0 : Int32) (G0 : Gt) : Prop :=
  K y0 G0
def w_L_firstOf_j170 (K : Int32 → Gt → Prop)  (G0 : Gt) : Prop :=
  w_L_firstOf_j179 K (-1) G0
def w_L_firstOf_j38 (K : Int32 → Gt → Prop) (y0 : Int32) (G0 : Gt) : Prop :=
  K y0 G0
def w_L_firstOf (K : Int32 → Gt → Prop) (p0 : Int32) (p2 : Int32) (G0 : Gt) : Prop :=
  pif (p0 = 0) (
    w_L_low (fun v12 G11 =>
      pif (v12 = 0) (
        w_L_low (fun v16 G15 =>
          w_L_firstOf_j38 K (5000 + v16) G15) (p2 >>> (3 &&& 31)) 4000 G11) (
        w_L_low (fun v14 G13 =>
          w_L_firstOf_j38 K (v14 - 2) G13) (p2 >>> (3 &&& 31)) 9 G11)) p2 5 G0) (
    pif (p0 = 1) (
      w_L_firstOf_j66 K p2 G0) (
      pif (p0 = 2) (
        w_L_firstOf_j66 K p2 G0) (
        pif (p0 = 3) (
          w_L_firstOf_j66 K p2 G0) (
          pif (p0 = 16) (
            w_L_firstOf_j66 K p2 G0) (
            pif (p0 = 20) (
              w_L_firstOf_j66 K p2 G0) (
              pif (p0 = 13) (
                w_L_firstOf_j108 K p2 G0) (
                pif (p0 = 14) (
                  w_L_firstOf_j108 K p2 G0) (
                  pif (p0 = 15) (
                    w_L_firstOf_j108 K p2 G0) (
                    pif (p0 = 26) (
                      w_L_firstOf_j108 K p2 G0) (
                      pif (p0 = 27) (
                        w_L_firstOf_j108 K p2 G0) (
                        pif (p0 = 28) (
                          w_L_firstOf_j108 K p2 G0) (
                          pif (p0 = 18) (
                            w_L_firstOf_j126 K p2 G0) (
                            pif (p0 = 38) (
                              w_L_firstOf_j126 K p2 G0) (
                              pif (p0 = 39) (
                                w_L_low (fun v10 G9 =>
                                  K (v10 - 1) G9) p2 4 G0) (
                                pif (p0 = 30) (
                                  w_L_firstOf_j170 K G0) (
                                  pif (p0 = 32) (
                                    w_L_firstOf_j170 K G0) (
                                    pif (p0 = 33) (
                                      w_L_firstOf_j170 K G0) (
                                      pif (p0 = 34) (
                                        w_L_firstOf_j170 K G0) (
                                        w_L_part (fun v8 G7 =>
                                          w_L_firstOf_j179 K v8 G7) p2 G0)))))))))))))))))))
set_option maxHeartbeats 4000000 in
set_option maxRecDepth 100000 in
theorem t_L_firstOf {l : Launch} {sh : Sh} (S : shOK sh) (p0 : Int32) (p2 : Int32) (G0 : Gt) (K : Int32 → Gt → Prop) (hw : w_L_firstOf K p0 p2 G0) : CT0 l yL_firstOf cL_firstOf 3 (some .int) 2 43 [.int p0, .ref 47, .int p2] sh G0 (fun r G' => ∃ v, r = some (.int v) ∧ K v G') := by
  refine CT0_of (by decide) (Nat.le_of_ble_eq_true rfl) rfl ?_
  intro p e s m args below meth c D tA ad A C hr _
  have h66 : ∀ (x2 : Int32) (G0 : Gt), w_L_firstOf_j66 K x2 G0 → aw p l e { frames := 2, cells := 0, slots := 0, locals := 43 } s m args below meth c 3 D tA A (MQ below (QC0 D tA ad A sh (fun r G' => ∃ v, r = some (.int v) ∧ K v G')) args s 0 0 A) 0 0 ad 66 [none, none, some (.int x2)] [] sh G0 := by
    intro  x2 G0 hw
    unfold w_L_firstOf_j66 at hw
    refine aw_iloadn C dL_firstOf_66 rfl ?_
    refine aw_iconst (v := 3) C dL_firstOf_67 (by decide) ?_
    refine aw_callS C dL_firstOf_68 (t_L_low x2 3 _ _ hw) mM_L_93 bL_low rfl rfl ⟨Nat.le_of_ble_eq_true rfl, Nat.le_of_ble_eq_true rfl, Nat.zero_le _, Nat.zero_le _⟩ _ rfl (Nat.le_of_ble_eq_true rfl) (fun r68 G1 hq => ?_)
    obtain ⟨v2, rfl, hw⟩ := hq
    exact aw_ireturn C hr dL_firstOf_71 ⟨_, rfl, hw⟩
  have h108 : ∀ (x2 : Int32) (G0 : Gt), w_L_firstOf_j108 K x2 G0 → aw p l e { frames := 2, cells := 0, slots := 0, locals := 43 } s m args below meth c 3 D tA A (MQ below (QC0 D tA ad A sh (fun r G' => ∃ v, r = some (.int v) ∧ K v G')) args s 0 0 A) 0 0 ad 108 [none, none, some (.int x2)] [] sh G0 := by
    intro  x2 G0 hw
    unfold w_L_firstOf_j108 at hw
    refine aw_iloadn C dL_firstOf_108 rfl ?_
    refine aw_iconst (v := 2) C dL_firstOf_109 (by decide) ?_
    refine aw_callS C dL_firstOf_110 (t_L_low x2 2 _ _ hw) mM_L_93 bL_low rfl rfl ⟨Nat.le_of_ble_eq_true rfl, Nat.le_of_ble_eq_true rfl, Nat.zero_le _, Nat.zero_le _⟩ _ rfl (Nat.le_of_ble_eq_true rfl) (fun r110 G3 hq => ?_)
    obtain ⟨v4, rfl, hw⟩ := hq
    exact aw_ireturn C hr dL_firstOf_113 ⟨_, rfl, hw⟩
  have h126 : ∀ (x2 : Int32) (G0 : Gt), w_L_firstOf_j126 K x2 G0 → aw p l e { frames := 2, cells := 0, slots := 0, locals := 43 } s m args below meth c 3 D tA A (MQ below (QC0 D tA ad A sh (fun r G' => ∃ v, r = some (.int v) ∧ K v G')) args s 0 0 A) 0 0 ad 126 [none, none, some (.int x2)] [] sh G0 := by
    intro  x2 G0 hw
    unfold w_L_firstOf_j126 at hw
    refine aw_iloadn C dL_firstOf_126 rfl ?_
    refine aw_iconst (v := 3) C dL_firstOf_127 (by decide) ?_
    refine aw_callS C dL_firstOf_128 (t_L_low x2 3 _ _ hw) mM_L_93 bL_low rfl rfl ⟨Nat.le_of_ble_eq_true rfl, Nat.le_of_ble_eq_true rfl, Nat.zero_le _, Nat.zero_le _⟩ _ rfl (Nat.le_of_ble_eq_true rfl) (fun r128 G5 hq => ?_)
    obtain ⟨v6, rfl, hw⟩ := hq
    exact aw_ireturn C hr dL_firstOf_131 ⟨_, rfl, hw⟩
  have h179 : ∀ (y0 : Int32) (G0 : Gt), w_L_firstOf_j179 K y0 G0 → aw p l e { frames := 2, cells := 0, slots := 0, locals := 43 } s m args below meth c 3 D tA A (MQ below (QC0 D tA ad A sh (fun r G' => ∃ v, r = some (.int v) ∧ K v G')) args s 0 0 A) 0 0 ad 179 [none, none, none] [.int y0] sh G0 := by
    intro  y0 G0 hw
    unfold w_L_firstOf_j179 at hw
    exact aw_ireturn C hr dL_firstOf_179 ⟨_, rfl, hw⟩
  have h170 : ∀ (G0 : Gt), w_L_firstOf_j170 K  G0 → aw p l e { frames := 2, cells := 0, slots := 0, locals := 43 } s m args below meth c 3 D tA A (MQ below (QC0 D tA ad A sh (fun r G' => ∃ v, r = some (.int v) ∧ K v G')) args s 0 0 A) 0 0 ad 170 [none, none, none] [] sh G0 := by
    intro   G0 hw
    unfold w_L_firstOf_j170 at hw
    refine aw_iconst (v := (-1)) C dL_firstOf_170 (by decide) ?_
    refine aw_goto (tgt := 179) C dL_firstOf_171 (by decide) ?_
    exact aw_msk [false, false, false] (h179 (-1) _ hw)
  have h38 : ∀ (y0 : Int32) (G0 : Gt), w_L_firstOf_j38 K y0 G0 → aw p l e { frames := 2, cells := 0, slots := 0, locals := 43 } s m args below meth c 3 D tA A (MQ below (QC0 D tA ad A sh (fun r G' => ∃ v, r = some (.int v) ∧ K v G')) args s 0 0 A) 0 0 ad 38 [none, none, none] [.int y0] sh G0 := by
    intro  y0 G0 hw
    unfold w_L_firstOf_j38 at hw
    exact aw_ireturn C hr dL_firstOf_38 ⟨_, rfl, hw⟩
  unfold w_L_firstOf at hw
  show aw p l e { frames := 2, cells := 0, slots := 0, locals := 43 } s m args below meth c 3 D tA A (MQ below (QC0 D tA ad A sh (fun r G' => ∃ v, r = some (.int v) ∧ K v G')) args s 0 0 A) 0 0 ad 0 [some (.int p0), some (.ref 47), some (.int p2)] [] sh G0
  refine aw_iloadn C dL_firstOf_0 rfl ?_
  refine aw_if_ne C dL_firstOf_1 39 (by decide) hw (fun hc1 hw => ?_) (fun hc1 hw => ?_)
  · refine aw_iloadn C dL_firstOf_39 rfl ?_
    refine aw_iconst (v := 1) C dL_firstOf_40 (by decide) ?_
    refine aw_ic_eq C dL_firstOf_41 66 (by decide) hw (fun hc41 hw => ?_) (fun hc41 hw => ?_)
    · exact aw_msk [false, false, true] (h66 p2 _ hw)
    · refine aw_iloadn C dL_firstOf_44 rfl ?_
      refine aw_iconst (v := 2) C dL_firstOf_45 (by decide) ?_
      refine aw_ic_eq C dL_firstOf_46 66 (by decide) hw (fun hc46 hw => ?_) (fun hc46 hw => ?_)
      · exact aw_msk [false, false, true] (h66 p2 _ hw)
      · refine aw_iloadn C dL_firstOf_49 rfl ?_
        refine aw_iconst (v := 3) C dL_firstOf_50 (by decide) ?_
        refine aw_ic_eq C dL_firstOf_51 66 (by decide) hw (fun hc51 hw => ?_) (fun hc51 hw => ?_)
        · exact aw_msk [false, false, true] (h66 p2 _ hw)
        · refine aw_iloadn C dL_firstOf_54 rfl ?_
          refine aw_bipush (v := 16) C dL_firstOf_55 (by decide) ?_
          refine aw_ic_eq C dL_firstOf_57 66 (by decide) hw (fun hc57 hw => ?_) (fun hc57 hw => ?_)
          · exact aw_msk [false, false, true] (h66 p2 _ hw)
          · refine aw_iloadn C dL_firstOf_60 rfl ?_
            refine aw_bipush (v := 20) C dL_firstOf_61 (by decide) ?_
            refine aw_ic_ne C dL_firstOf_63 72 (by decide) hw (fun hc63 hw => ?_) (fun hc63 hw => ?_)
            · refine aw_iloadn C dL_firstOf_72 rfl ?_
              refine aw_bipush (v := 13) C dL_firstOf_73 (by decide) ?_
              refine aw_ic_eq C dL_firstOf_75 108 (by decide) hw (fun hc75 hw => ?_) (fun hc75 hw => ?_)
              · exact aw_msk [false, false, true] (h108 p2 _ hw)
              · refine aw_iloadn C dL_firstOf_78 rfl ?_
                refine aw_bipush (v := 14) C dL_firstOf_79 (by decide) ?_
                refine aw_ic_eq C dL_firstOf_81 108 (by decide) hw (fun hc81 hw => ?_) (fun hc81 hw => ?_)
                · exact aw_msk [false, false, true] (h108 p2 _ hw)
                · refine aw_iloadn C dL_firstOf_84 rfl ?_
                  refine aw_bipush (v := 15) C dL_firstOf_85 (by decide) ?_
                  refine aw_ic_eq C dL_firstOf_87 108 (by decide) hw (fun hc87 hw => ?_) (fun hc87 hw => ?_)
                  · exact aw_msk [false, false, true] (h108 p2 _ hw)
                  · refine aw_iloadn C dL_firstOf_90 rfl ?_
                    refine aw_bipush (v := 26) C dL_firstOf_91 (by decide) ?_
                    refine aw_ic_eq C dL_firstOf_93 108 (by decide) hw (fun hc93 hw => ?_) (fun hc93 hw => ?_)
                    · exact aw_msk [false, false, true] (h108 p2 _ hw)
                    · refine aw_iloadn C dL_firstOf_96 rfl ?_
                      refine aw_bipush (v := 27) C dL_firstOf_97 (by decide) ?_
                      refine aw_ic_eq C dL_firstOf_99 108 (by decide) hw (fun hc99 hw => ?_) (fun hc99 hw => ?_)
                      · exact aw_msk [false, false, true] (h108 p2 _ hw)
                      · refine aw_iloadn C dL_firstOf_102 rfl ?_
                        refine aw_bipush (v := 28) C dL_firstOf_103 (by decide) ?_
                        refine aw_ic_ne C dL_firstOf_105 114 (by decide) hw (fun hc105 hw => ?_) (fun hc105 hw => ?_)
                        · refine aw_iloadn C dL_firstOf_114 rfl ?_
                          refine aw_bipush (v := 18) C dL_firstOf_115 (by decide) ?_
                          refine aw_ic_eq C dL_firstOf_117 126 (by decide) hw (fun hc117 hw => ?_) (fun hc117 hw => ?_)
                          · exact aw_msk [false, false, true] (h126 p2 _ hw)
                          · refine aw_iloadn C dL_firstOf_120 rfl ?_
                            refine aw_bipush (v := 38) C dL_firstOf_121 (by decide) ?_
                            refine aw_ic_ne C dL_firstOf_123 132 (by decide) hw (fun hc123 hw => ?_) (fun hc123 hw => ?_)
                            · refine aw_iloadn C dL_firstOf_132 rfl ?_
                              refine aw_bipush (v := 39) C dL_firstOf_133 (by decide) ?_
                              refine aw_ic_ne C dL_firstOf_135 146 (by decide) hw (fun hc135 hw => ?_) (fun hc135 hw => ?_)
                              · refine aw_iloadn C dL_firstOf_146 rfl ?_
                                refine aw_bipush (v := 30) C dL_firstOf_147 (by decide) ?_
                                refine aw_ic_eq C dL_firstOf_149 170 (by decide) hw (fun hc149 hw => ?_) (fun hc149 hw => ?_)
                                · exact aw_msk [false, false, false] (h170 _ hw)
                                · refine aw_iloadn C dL_firstOf_152 rfl ?_
                                  refine aw_bipush (v := 32) C dL_firstOf_153 (by decide) ?_
                                  refine aw_ic_eq C dL_firstOf_155 170 (by decide) hw (fun hc155 hw => ?_) (fun hc155 hw => ?_)
                                  · exact aw_msk [false, false, false] (h170 _ hw)
                                  · refine aw_iloadn C dL_firstOf_158 rfl ?_
                                    refine aw_bipush (v := 33) C dL_firstOf_159 (by decide) ?_
                                    refine aw_ic_eq C dL_firstOf_161 170 (by decide) hw (fun hc161 hw => ?_) (fun hc161 hw => ?_)
                                    · exact aw_msk [false, false, false] (h170 _ hw)
                                    · refine aw_iloadn C dL_firstOf_164 rfl ?_
                                      refine aw_bipush (v := 34) C dL_firstOf_165 (by decide) ?_
                                      refine aw_ic_ne C dL_firstOf_167 174 (by decide) hw (fun hc167 hw => ?_) (fun hc167 hw => ?_)
                                      · refine aw_aloadn C dL_firstOf_174 rfl ?_
                                        refine aw_iloadn C dL_firstOf_175 rfl ?_
                                        refine aw_callS C dL_firstOf_176 (t_L_part S p2 _ _ hw) mM_L_98 bL_part rfl rfl ⟨Nat.le_of_ble_eq_true rfl, Nat.le_of_ble_eq_true rfl, Nat.zero_le _, Nat.zero_le _⟩ _ rfl (Nat.le_of_ble_eq_true rfl) (fun r176 G7 hq => ?_)
                                        obtain ⟨v8, rfl, hw⟩ := hq
                                        exact aw_msk [false, false, false] (h179 v8 _ hw)
                                      · exact aw_msk [false, false, false] (h170 _ hw)
                              · refine aw_iloadn C dL_firstOf_138 rfl ?_
                                refine aw_iconst (v := 4) C dL_firstOf_139 (by decide) ?_
                                refine aw_callS C dL_firstOf_140 (t_L_low p2 4 _ _ hw) mM_L_93 bL_low rfl rfl ⟨Nat.le_of_ble_eq_true rfl, Nat.le_of_ble_eq_true rfl, Nat.zero_le _, Nat.zero_le _⟩ _ rfl (Nat.le_of_ble_eq_true rfl) (fun r140 G9 hq => ?_)
                                obtain ⟨v10, rfl, hw⟩ := hq
                                refine aw_iconst (v := 1) C dL_firstOf_143 (by decide) ?_
                                refine aw_isub C dL_firstOf_144 ?_
                                exact aw_ireturn C hr dL_firstOf_145 ⟨_, rfl, hw⟩
                            · exact aw_msk [false, false, true] (h126 p2 _ hw)
                        · exact aw_msk [false, false, true] (h108 p2 _ hw)
            · exact aw_msk [false, false, true] (h66 p2 _ hw)
  · refine aw_iloadn C dL_firstOf_4 rfl ?_
    refine aw_iconst (v := 5) C dL_firstOf_5 (by decide) ?_
    refine aw_callS C dL_firstOf_6 (t_L_low p2 5 _ _ hw) mM_L_93 bL_low rfl rfl ⟨Nat.le_of_ble_eq_true rfl, Nat.le_of_ble_eq_true rfl, Nat.zero_le _, Nat.zero_le _⟩ _ rfl (Nat.le_of_ble_eq_true rfl) (fun r6 G11 hq => ?_)
    obtain ⟨v12, rfl, hw⟩ := hq
    refine aw_if_ne C dL_firstOf_9 28 (by decide) hw (fun hc9 hw => ?_) (fun hc9 hw => ?_)
    · refine aw_iloadn C dL_firstOf_28 rfl ?_
      refine aw_iconst (v := 3) C dL_firstOf_29 (by decide) ?_
      refine aw_ishr C dL_firstOf_30 ?_
      refine aw_bipush (v := 9) C dL_firstOf_31 (by decide) ?_
      refine aw_callS C dL_firstOf_33 (t_L_low (p2 >>> (3 &&& 31)) 9 _ _ hw) mM_L_93 bL_low rfl rfl ⟨Nat.le_of_ble_eq_true rfl, Nat.le_of_ble_eq_true rfl, Nat.zero_le _, Nat.zero_le _⟩ _ rfl (Nat.le_of_ble_eq_true rfl) (fun r33 G13 hq => ?_)
      obtain ⟨v14, rfl, hw⟩ := hq
      refine aw_iconst (v := 2) C dL_firstOf_36 (by decide) ?_
      refine aw_isub C dL_firstOf_37 ?_
      exact aw_msk [false, false, false] (h38 (v14 - 2) _ hw)
    · refine aw_sipush (v := 5000) C dL_firstOf_12 (by decide) ?_
      refine aw_iloadn C dL_firstOf_15 rfl ?_
      refine aw_iconst (v := 3) C dL_firstOf_16 (by decide) ?_
      refine aw_ishr C dL_firstOf_17 ?_
      refine aw_sipush (v := 4000) C dL_firstOf_18 (by decide) ?_
      refine aw_callS C dL_firstOf_21 (t_L_low (p2 >>> (3 &&& 31)) 4000 _ _ hw) mM_L_93 bL_low rfl rfl ⟨Nat.le_of_ble_eq_true rfl, Nat.le_of_ble_eq_true rfl, Nat.zero_le _, Nat.zero_le _⟩ _ rfl (Nat.le_of_ble_eq_true rfl) (fun r21 G15 hq => ?_)
      obtain ⟨v16, rfl, hw⟩ := hq
      refine aw_iadd C dL_firstOf_24 ?_
      refine aw_goto (tgt := 38) C dL_firstOf_25 (by decide) ?_
      exact aw_msk [false, false, false] (h38 (5000 + v16) _ hw)
