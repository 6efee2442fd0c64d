def w_X11_thrown (K : Int32 → Gt → Prop) (G0 : Gt) : Prop :=
  K (G0 46 71) G0
set_option maxHeartbeats 4000000 in
set_option maxRecDepth 100000 in
theorem t_X11_thrown {l : Launch} {sh : Sh} (S : shOK sh) (G0 : Gt) (K : Int32 → Gt → Prop) (hw : w_X11_thrown K G0) : CT0 l yX11_thrown cX11_thrown 1 (some .int) 0 0 [.ref 46] sh G0 (fun r G' => ∃ v, r = some (.int v) ∧ K v G') := by
  refine CT0_of (by decide) (Nat.le_of_ble_eq_true rfl) rfl ?_
  intro p e s m args below meth c D tA ad A C hr _
  unfold w_X11_thrown at hw
  show aw p l e { frames := 0, cells := 0, slots := 0, locals := 0 } s m args below meth c 1 D tA A (MQ below (QC0 D tA ad A sh (fun r G' => ∃ v, r = some (.int v) ∧ K v G')) args s 0 0 A) 0 0 ad 0 [some (.ref 46)] [] sh G0
  refine aw_aloadn C dX11_thrown_0 rfl ?_
  refine aw_getI C dX11_thrown_1 kcX11 (sA_46 S) 71 (by decide) rfl mF_X11_130 ?_
  exact aw_ireturn C hr dX11_thrown_4 ⟨_, rfl, hw⟩
def w_X11_in_j15 (K : Int32 → Gt → Prop) (y0 : Int32) (G0 : Gt) : Prop :=
  bz y0 ∧ K y0 G0
def w_X11_in_j14 (K : Int32 → Gt → Prop)  (G0 : Gt) : Prop :=
  w_X11_in_j15 K 0 G0
def w_X11_in (K : Int32 → Gt → Prop) (p0 : Int32) (p1 : Int32) (p2 : Int32) (G0 : Gt) : Prop :=
  pif (p0 < p1) (
    w_X11_in_j14 K G0) (
    pif (p2 < p0) (
      w_X11_in_j14 K G0) (
      w_X11_in_j15 K 1 G0))
set_option maxHeartbeats 4000000 in
set_option maxRecDepth 100000 in
theorem t_X11_in {l : Launch} {sh : Sh}  (p0 : Int32) (p1 : Int32) (p2 : Int32) (G0 : Gt) (K : Int32 → Gt → Prop) (hw : w_X11_in K p0 p1 p2 G0) : CT0 l yX11_in cX11_in 3 (some .boolean) 0 0 [.int p0, .int p1, .int p2] sh G0 (fun r G' => ∃ v, r = some (.int v) ∧ K v G') := by
  refine CT0_of (by decide) (Nat.le_of_ble_eq_true rfl) rfl ?_
  intro p e s m args below meth c D tA ad A C hr _
  have h15 : ∀ (y0 : Int32) (G0 : Gt), w_X11_in_j15 K y0 G0 → aw p l e { frames := 0, cells := 0, slots := 0, locals := 0 } s m args below meth c 3 D tA A (MQ below (QC0 D tA ad A sh (fun r G' => ∃ v, r = some (.int v) ∧ K v G')) args s 0 0 A) 0 0 ad 15 [none, none, none] [.int y0] sh G0 := by
    intro  y0 G0 hw
    unfold w_X11_in_j15 at hw
    exact aw_zreturn C hr dX11_in_15 (bz_n hw.1) ⟨_, rfl, hw.2⟩
  have h14 : ∀ (G0 : Gt), w_X11_in_j14 K  G0 → aw p l e { frames := 0, cells := 0, slots := 0, locals := 0 } s m args below meth c 3 D tA A (MQ below (QC0 D tA ad A sh (fun r G' => ∃ v, r = some (.int v) ∧ K v G')) args s 0 0 A) 0 0 ad 14 [none, none, none] [] sh G0 := by
    intro   G0 hw
    unfold w_X11_in_j14 at hw
    refine aw_iconst (v := 0) C dX11_in_14 (by decide) ?_
    exact aw_msk [false, false, false] (h15 0 _ hw)
  unfold w_X11_in at hw
  show aw p l e { frames := 0, cells := 0, slots := 0, locals := 0 } s m args below meth c 3 D tA A (MQ below (QC0 D tA ad A sh (fun r G' => ∃ v, r = some (.int v) ∧ K v G')) args s 0 0 A) 0 0 ad 0 [some (.int p0), some (.int p1), some (.int p2)] [] sh G0
  refine aw_iloadn C dX11_in_0 rfl ?_
  refine aw_iloadn C dX11_in_1 rfl ?_
  refine aw_ic_lt C dX11_in_2 14 (by decide) hw (fun hc2 hw => ?_) (fun hc2 hw => ?_)
  · exact aw_msk [false, false, false] (h14 _ hw)
  · refine aw_iloadn C dX11_in_5 rfl ?_
    refine aw_iloadn C dX11_in_6 rfl ?_
    refine aw_ic_gt C dX11_in_7 14 (by decide) hw (fun hc7 hw => ?_) (fun hc7 hw => ?_)
    · exact aw_msk [false, false, false] (h14 _ hw)
    · refine aw_iconst (v := 1) C dX11_in_10 (by decide) ?_
      refine aw_goto (tgt := 15) C dX11_in_11 (by decide) ?_
      exact aw_msk [false, false, false] (h15 1 _ hw)
def w_X11_partsOf_j184 (K : Int32 → Gt → Prop)  (G0 : Gt) : Prop :=
  K 310 G0
def w_X11_partsOf_j225 (K : Int32 → Gt → Prop)  (G0 : Gt) : Prop :=
  K 100 G0
def w_X11_partsOf_j196 (K : Int32 → Gt → Prop)  (G0 : Gt) : Prop :=
  K 210 G0
def w_X11_partsOf_j200 (K : Int32 → Gt → Prop)  (G0 : Gt) : Prop :=
  K 200 G0
def w_X11_partsOf_j223 (K : Int32 → Gt → Prop)  (G0 : Gt) : Prop :=
  K 0 G0
def w_X11_partsOf_j228 (K : Int32 → Gt → Prop)  (G0 : Gt) : Prop :=
  K 110 G0
def w_X11_partsOf (K : Int32 → Gt → Prop) (p0 : Int32) (G0 : Gt) : Prop :=
  pif (p0 = 0) (
    K 500 G0) (
  pif (p0 = 1) (
    K 300 G0) (
  pif (p0 = 2) (
    w_X11_partsOf_j184 K G0) (
  pif (p0 = 3) (
    w_X11_partsOf_j184 K G0) (
  pif (p0 = 10) (
    K 111 G0) (
  pif (p0 = 12) (
    w_X11_partsOf_j225 K G0) (
  pif (p0 = 13) (
    w_X11_partsOf_j196 K G0) (
  pif (p0 = 14) (
    w_X11_partsOf_j196 K G0) (
  pif (p0 = 15) (
    w_X11_partsOf_j200 K G0) (
  pif (p0 = 16) (
    K 310 G0) (
  pif (p0 = 18) (
    K 488 G0) (
  pif (p0 = 19) (
    w_X11_partsOf_j225 K G0) (
  pif (p0 = 20) (
    K 311 G0) (
  pif (p0 = 22) (
    w_X11_partsOf_j225 K G0) (
  pif (p0 = 23) (
    w_X11_partsOf_j225 K G0) (
  pif (p0 = 24) (
    w_X11_partsOf_j225 K G0) (
  pif (p0 = 25) (
    w_X11_partsOf_j225 K G0) (
  pif (p0 = 26) (
    K 211 G0) (
  pif (p0 = 27) (
    w_X11_partsOf_j200 K G0) (
  pif (p0 = 28) (
    w_X11_partsOf_j196 K G0) (
  pif (p0 = 29) (
    w_X11_partsOf_j225 K G0) (
  pif (p0 = 30) (
    w_X11_partsOf_j223 K G0) (
  pif (p0 = 31) (
    w_X11_partsOf_j225 K G0) (
  pif (p0 = 32) (
    w_X11_partsOf_j223 K G0) (
  pif (p0 = 33) (
    w_X11_partsOf_j223 K G0) (
  pif (p0 = 34) (
    w_X11_partsOf_j223 K G0) (
  pif (p0 = 35) (
    w_X11_partsOf_j225 K G0) (
  pif (p0 = 36) (
    w_X11_partsOf_j225 K G0) (
  pif (p0 = 37) (
    w_X11_partsOf_j225 K G0) (
  pif (p0 = 38) (
    K 470 G0) (
  pif (p0 = 39) (
    K 600 G0) (
    w_X11_partsOf_j228 K G0)))))))))))))))))))))))))))))))
set_option maxHeartbeats 4000000 in
set_option maxRecDepth 100000 in
theorem t_X11_partsOf {l : Launch} {sh : Sh}  (p0 : Int32) (G0 : Gt) (K : Int32 → Gt → Prop) (hw : w_X11_partsOf K p0 G0) : CT0 l yX11_partsOf cX11_partsOf 1 (some .int) 0 0 [.int p0] sh G0 (fun r G' => ∃ v, r = some (.int v) ∧ K v G') := by
  refine CT0_of (by decide) (Nat.le_of_ble_eq_true rfl) rfl ?_
  intro p e s m args below meth c D tA ad A C hr _
  have h184 : ∀ (G0 : Gt), w_X11_partsOf_j184 K  G0 → aw p l e { frames := 0, cells := 0, slots := 0, locals := 0 } s m args below meth c 1 D tA A (MQ below (QC0 D tA ad A sh (fun r G' => ∃ v, r = some (.int v) ∧ K v G')) args s 0 0 A) 0 0 ad 184 [none] [] sh G0 := by
    intro   G0 hw
    unfold w_X11_partsOf_j184 at hw
    refine aw_sipush (v := 310) C dX11_partsOf_184 (by decide) ?_
    exact aw_ireturn C hr dX11_partsOf_187 ⟨_, rfl, hw⟩
  have h225 : ∀ (G0 : Gt), w_X11_partsOf_j225 K  G0 → aw p l e { frames := 0, cells := 0, slots := 0, locals := 0 } s m args below meth c 1 D tA A (MQ below (QC0 D tA ad A sh (fun r G' => ∃ v, r = some (.int v) ∧ K v G')) args s 0 0 A) 0 0 ad 225 [none] [] sh G0 := by
    intro   G0 hw
    unfold w_X11_partsOf_j225 at hw
    refine aw_bipush (v := 100) C dX11_partsOf_225 (by decide) ?_
    exact aw_ireturn C hr dX11_partsOf_227 ⟨_, rfl, hw⟩
  have h196 : ∀ (G0 : Gt), w_X11_partsOf_j196 K  G0 → aw p l e { frames := 0, cells := 0, slots := 0, locals := 0 } s m args below meth c 1 D tA A (MQ below (QC0 D tA ad A sh (fun r G' => ∃ v, r = some (.int v) ∧ K v G')) args s 0 0 A) 0 0 ad 196 [none] [] sh G0 := by
    intro   G0 hw
    unfold w_X11_partsOf_j196 at hw
    refine aw_sipush (v := 210) C dX11_partsOf_196 (by decide) ?_
    exact aw_ireturn C hr dX11_partsOf_199 ⟨_, rfl, hw⟩
  have h200 : ∀ (G0 : Gt), w_X11_partsOf_j200 K  G0 → aw p l e { frames := 0, cells := 0, slots := 0, locals := 0 } s m args below meth c 1 D tA A (MQ below (QC0 D tA ad A sh (fun r G' => ∃ v, r = some (.int v) ∧ K v G')) args s 0 0 A) 0 0 ad 200 [none] [] sh G0 := by
    intro   G0 hw
    unfold w_X11_partsOf_j200 at hw
    refine aw_sipush (v := 200) C dX11_partsOf_200 (by decide) ?_
    exact aw_ireturn C hr dX11_partsOf_203 ⟨_, rfl, hw⟩
  have h223 : ∀ (G0 : Gt), w_X11_partsOf_j223 K  G0 → aw p l e { frames := 0, cells := 0, slots := 0, locals := 0 } s m args below meth c 1 D tA A (MQ below (QC0 D tA ad A sh (fun r G' => ∃ v, r = some (.int v) ∧ K v G')) args s 0 0 A) 0 0 ad 223 [none] [] sh G0 := by
    intro   G0 hw
    unfold w_X11_partsOf_j223 at hw
    refine aw_iconst (v := 0) C dX11_partsOf_223 (by decide) ?_
    exact aw_ireturn C hr dX11_partsOf_224 ⟨_, rfl, hw⟩
  have h228 : ∀ (G0 : Gt), w_X11_partsOf_j228 K  G0 → aw p l e { frames := 0, cells := 0, slots := 0, locals := 0 } s m args below meth c 1 D tA A (MQ below (QC0 D tA ad A sh (fun r G' => ∃ v, r = some (.int v) ∧ K v G')) args s 0 0 A) 0 0 ad 228 [none] [] sh G0 := by
    intro   G0 hw
    unfold w_X11_partsOf_j228 at hw
    refine aw_bipush (v := 110) C dX11_partsOf_228 (by decide) ?_
    exact aw_ireturn C hr dX11_partsOf_230 ⟨_, rfl, hw⟩
  unfold w_X11_partsOf at hw
  show aw p l e { frames := 0, cells := 0, slots := 0, locals := 0 } s m args below meth c 1 D tA A (MQ below (QC0 D tA ad A sh (fun r G' => ∃ v, r = some (.int v) ∧ K v G')) args s 0 0 A) 0 0 ad 0 [some (.int p0)] [] sh G0
  refine aw_iloadn C dX11_partsOf_0 rfl ?_
  refine sw_if hw (fun ha1_0 hw => ?_) (fun ha1_0 hw => ?_)
  · refine aw_tab C 176 dX11_partsOf_1 ha1_0 (by decide) (by decide) rfl (by decide) ?_
    refine aw_sipush (v := 500) C dX11_partsOf_176 (by decide) ?_
    exact aw_ireturn C hr dX11_partsOf_179 ⟨_, rfl, hw⟩
  refine sw_if hw (fun ha1_1 hw => ?_) (fun ha1_1 hw => ?_)
  · refine aw_tab C 180 dX11_partsOf_1 ha1_1 (by decide) (by decide) rfl (by decide) ?_
    refine aw_sipush (v := 300) C dX11_partsOf_180 (by decide) ?_
    exact aw_ireturn C hr dX11_partsOf_183 ⟨_, rfl, hw⟩
  refine sw_if hw (fun ha1_2 hw => ?_) (fun ha1_2 hw => ?_)
  · refine aw_tab C 184 dX11_partsOf_1 ha1_2 (by decide) (by decide) rfl (by decide) ?_
    exact aw_msk [false] (h184 _ hw)
  refine sw_if hw (fun ha1_3 hw => ?_) (fun ha1_3 hw => ?_)
  · refine aw_tab C 184 dX11_partsOf_1 ha1_3 (by decide) (by decide) rfl (by decide) ?_
    exact aw_msk [false] (h184 _ hw)
  refine sw_if hw (fun ha1_10 hw => ?_) (fun ha1_10 hw => ?_)
  · refine aw_tab C 220 dX11_partsOf_1 ha1_10 (by decide) (by decide) rfl (by decide) ?_
    refine aw_bipush (v := 111) C dX11_partsOf_220 (by decide) ?_
    exact aw_ireturn C hr dX11_partsOf_222 ⟨_, rfl, hw⟩
  refine sw_if hw (fun ha1_12 hw => ?_) (fun ha1_12 hw => ?_)
  · refine aw_tab C 225 dX11_partsOf_1 ha1_12 (by decide) (by decide) rfl (by decide) ?_
    exact aw_msk [false] (h225 _ hw)
  refine sw_if hw (fun ha1_13 hw => ?_) (fun ha1_13 hw => ?_)
  · refine aw_tab C 196 dX11_partsOf_1 ha1_13 (by decide) (by decide) rfl (by decide) ?_
    exact aw_msk [false] (h196 _ hw)
  refine sw_if hw (fun ha1_14 hw => ?_) (fun ha1_14 hw => ?_)
  · refine aw_tab C 196 dX11_partsOf_1 ha1_14 (by decide) (by decide) rfl (by decide) ?_
    exact aw_msk [false] (h196 _ hw)
  refine sw_if hw (fun ha1_15 hw => ?_) (fun ha1_15 hw => ?_)
  · refine aw_tab C 200 dX11_partsOf_1 ha1_15 (by decide) (by decide) rfl (by decide) ?_
    exact aw_msk [false] (h200 _ hw)
  refine sw_if hw (fun ha1_16 hw => ?_) (fun ha1_16 hw => ?_)
  · refine aw_tab C 188 dX11_partsOf_1 ha1_16 (by decide) (by decide) rfl (by decide) ?_
    refine aw_sipush (v := 310) C dX11_partsOf_188 (by decide) ?_
    exact aw_ireturn C hr dX11_partsOf_191 ⟨_, rfl, hw⟩
  refine sw_if hw (fun ha1_18 hw => ?_) (fun ha1_18 hw => ?_)
  · refine aw_tab C 208 dX11_partsOf_1 ha1_18 (by decide) (by decide) rfl (by decide) ?_
    refine aw_sipush (v := 488) C dX11_partsOf_208 (by decide) ?_
    exact aw_ireturn C hr dX11_partsOf_211 ⟨_, rfl, hw⟩
  refine sw_if hw (fun ha1_19 hw => ?_) (fun ha1_19 hw => ?_)
  · refine aw_tab C 225 dX11_partsOf_1 ha1_19 (by decide) (by decide) rfl (by decide) ?_
    exact aw_msk [false] (h225 _ hw)
  refine sw_if hw (fun ha1_20 hw => ?_) (fun ha1_20 hw => ?_)
  · refine aw_tab C 192 dX11_partsOf_1 ha1_20 (by decide) (by decide) rfl (by decide) ?_
    refine aw_sipush (v := 311) C dX11_partsOf_192 (by decide) ?_
    exact aw_ireturn C hr dX11_partsOf_195 ⟨_, rfl, hw⟩
  refine sw_if hw (fun ha1_22 hw => ?_) (fun ha1_22 hw => ?_)
  · refine aw_tab C 225 dX11_partsOf_1 ha1_22 (by decide) (by decide) rfl (by decide) ?_
    exact aw_msk [false] (h225 _ hw)
  refine sw_if hw (fun ha1_23 hw => ?_) (fun ha1_23 hw => ?_)
  · refine aw_tab C 225 dX11_partsOf_1 ha1_23 (by decide) (by decide) rfl (by decide) ?_
    exact aw_msk [false] (h225 _ hw)
  refine sw_if hw (fun ha1_24 hw => ?_) (fun ha1_24 hw => ?_)
  · refine aw_tab C 225 dX11_partsOf_1 ha1_24 (by decide) (by decide) rfl (by decide) ?_
    exact aw_msk [false] (h225 _ hw)
  refine sw_if hw (fun ha1_25 hw => ?_) (fun ha1_25 hw => ?_)
  · refine aw_tab C 225 dX11_partsOf_1 ha1_25 (by decide) (by decide) rfl (by decide) ?_
    exact aw_msk [false] (h225 _ hw)
  refine sw_if hw (fun ha1_26 hw => ?_) (fun ha1_26 hw => ?_)
  · refine aw_tab C 204 dX11_partsOf_1 ha1_26 (by decide) (by decide) rfl (by decide) ?_
    refine aw_sipush (v := 211) C dX11_partsOf_204 (by decide) ?_
    exact aw_ireturn C hr dX11_partsOf_207 ⟨_, rfl, hw⟩
  refine sw_if hw (fun ha1_27 hw => ?_) (fun ha1_27 hw => ?_)
  · refine aw_tab C 200 dX11_partsOf_1 ha1_27 (by decide) (by decide) rfl (by decide) ?_
    exact aw_msk [false] (h200 _ hw)
  refine sw_if hw (fun ha1_28 hw => ?_) (fun ha1_28 hw => ?_)
  · refine aw_tab C 196 dX11_partsOf_1 ha1_28 (by decide) (by decide) rfl (by decide) ?_
    exact aw_msk [false] (h196 _ hw)
  refine sw_if hw (fun ha1_29 hw => ?_) (fun ha1_29 hw => ?_)
  · refine aw_tab C 225 dX11_partsOf_1 ha1_29 (by decide) (by decide) rfl (by decide) ?_
    exact aw_msk [false] (h225 _ hw)
  refine sw_if hw (fun ha1_30 hw => ?_) (fun ha1_30 hw => ?_)
  · refine aw_tab C 223 dX11_partsOf_1 ha1_30 (by decide) (by decide) rfl (by decide) ?_
    exact aw_msk [false] (h223 _ hw)
  refine sw_if hw (fun ha1_31 hw => ?_) (fun ha1_31 hw => ?_)
  · refine aw_tab C 225 dX11_partsOf_1 ha1_31 (by decide) (by decide) rfl (by decide) ?_
    exact aw_msk [false] (h225 _ hw)
  refine sw_if hw (fun ha1_32 hw => ?_) (fun ha1_32 hw => ?_)
  · refine aw_tab C 223 dX11_partsOf_1 ha1_32 (by decide) (by decide) rfl (by decide) ?_
    exact aw_msk [false] (h223 _ hw)
  refine sw_if hw (fun ha1_33 hw => ?_) (fun ha1_33 hw => ?_)
  · refine aw_tab C 223 dX11_partsOf_1 ha1_33 (by decide) (by decide) rfl (by decide) ?_
    exact aw_msk [false] (h223 _ hw)
  refine sw_if hw (fun ha1_34 hw => ?_) (fun ha1_34 hw => ?_)
  · refine aw_tab C 223 dX11_partsOf_1 ha1_34 (by decide) (by decide) rfl (by decide) ?_
    exact aw_msk [false] (h223 _ hw)
  refine sw_if hw (fun ha1_35 hw => ?_) (fun ha1_35 hw => ?_)
  · refine aw_tab C 225 dX11_partsOf_1 ha1_35 (by decide) (by decide) rfl (by decide) ?_
    exact aw_msk [false] (h225 _ hw)
  refine sw_if hw (fun ha1_36 hw => ?_) (fun ha1_36 hw => ?_)
  · refine aw_tab C 225 dX11_partsOf_1 ha1_36 (by decide) (by decide) rfl (by decide) ?_
    exact aw_msk [false] (h225 _ hw)
  refine sw_if hw (fun ha1_37 hw => ?_) (fun ha1_37 hw => ?_)
  · refine aw_tab C 225 dX11_partsOf_1 ha1_37 (by decide) (by decide) rfl (by decide) ?_
    exact aw_msk [false] (h225 _ hw)
  refine sw_if hw (fun ha1_38 hw => ?_) (fun ha1_38 hw => ?_)
  · refine aw_tab C 212 dX11_partsOf_1 ha1_38 (by decide) (by decide) rfl (by decide) ?_
    refine aw_sipush (v := 470) C dX11_partsOf_212 (by decide) ?_
    exact aw_ireturn C hr dX11_partsOf_215 ⟨_, rfl, hw⟩
  refine sw_if hw (fun ha1_39 hw => ?_) (fun ha1_39 hw => ?_)
  · refine aw_tab C 216 dX11_partsOf_1 ha1_39 (by decide) (by decide) rfl (by decide) ?_
    refine aw_sipush (v := 600) C dX11_partsOf_216 (by decide) ?_
    exact aw_ireturn C hr dX11_partsOf_219 ⟨_, rfl, hw⟩
  refine aw_tabDef C 228 dX11_partsOf_1 39 (by decide) (by decide) (by decide) (fun i hi h => ?_) (by decide) ?_
  · exact match i, hi, h with
      | 0, _, h => absurd (h.trans (by decide)) ha1_0
      | 1, _, h => absurd (h.trans (by decide)) ha1_1
      | 2, _, h => absurd (h.trans (by decide)) ha1_2
      | 3, _, h => absurd (h.trans (by decide)) ha1_3
      | 4, _, h => rfl
      | 5, _, h => rfl
      | 6, _, h => rfl
      | 7, _, h => rfl
      | 8, _, h => rfl
      | 9, _, h => rfl
      | 10, _, h => absurd (h.trans (by decide)) ha1_10
      | 11, _, h => rfl
      | 12, _, h => absurd (h.trans (by decide)) ha1_12
      | 13, _, h => absurd (h.trans (by decide)) ha1_13
      | 14, _, h => absurd (h.trans (by decide)) ha1_14
      | 15, _, h => absurd (h.trans (by decide)) ha1_15
      | 16, _, h => absurd (h.trans (by decide)) ha1_16
      | 17, _, h => rfl
      | 18, _, h => absurd (h.trans (by decide)) ha1_18
      | 19, _, h => absurd (h.trans (by decide)) ha1_19
      | 20, _, h => absurd (h.trans (by decide)) ha1_20
      | 21, _, h => rfl
      | 22, _, h => absurd (h.trans (by decide)) ha1_22
      | 23, _, h => absurd (h.trans (by decide)) ha1_23
      | 24, _, h => absurd (h.trans (by decide)) ha1_24
      | 25, _, h => absurd (h.trans (by decide)) ha1_25
      | 26, _, h => absurd (h.trans (by decide)) ha1_26
      | 27, _, h => absurd (h.trans (by decide)) ha1_27
      | 28, _, h => absurd (h.trans (by decide)) ha1_28
      | 29, _, h => absurd (h.trans (by decide)) ha1_29
      | 30, _, h => absurd (h.trans (by decide)) ha1_30
      | 31, _, h => absurd (h.trans (by decide)) ha1_31
      | 32, _, h => absurd (h.trans (by decide)) ha1_32
      | 33, _, h => absurd (h.trans (by decide)) ha1_33
      | 34, _, h => absurd (h.trans (by decide)) ha1_34
      | 35, _, h => absurd (h.trans (by decide)) ha1_35
      | 36, _, h => absurd (h.trans (by decide)) ha1_36
      | 37, _, h => absurd (h.trans (by decide)) ha1_37
      | 38, _, h => absurd (h.trans (by decide)) ha1_38
      | 39, _, h => absurd (h.trans (by decide)) ha1_39
      | i + 40, hi, _ => absurd hi (by omega)
  exact aw_msk [false] (h228 _ hw)
def w_X11_isNode (K : Int32 → Gt → Prop) (p0 : Int32) (G0 : Gt) : Prop :=
  w_X11_in (fun v2 G1 =>
    bz v2 ∧ K v2 G1) p0 0 ((G0 46 0) - 1) G0
set_option maxHeartbeats 4000000 in
set_option maxRecDepth 100000 in
theorem t_X11_isNode {l : Launch} {sh : Sh} (S : shOK sh) (p0 : Int32) (G0 : Gt) (K : Int32 → Gt → Prop) (hw : w_X11_isNode K p0 G0) : CT0 l yX11_isNode cX11_isNode 2 (some .boolean) 1 22 [.ref 46, .int p0] sh G0 (fun r G' => ∃ v, r = some (.int v) ∧ K v G') := by
  refine CT0_of (by decide) (Nat.le_of_ble_eq_true rfl) rfl ?_
  intro p e s m args below meth c D tA ad A C hr _
  unfold w_X11_isNode at hw
  show aw p l e { frames := 1, cells := 0, slots := 0, locals := 22 } s m args below meth c 2 D tA A (MQ below (QC0 D tA ad A sh (fun r G' => ∃ v, r = some (.int v) ∧ K v G')) args s 0 0 A) 0 0 ad 0 [some (.ref 46), some (.int p0)] [] sh G0
  refine aw_iloadn C dX11_isNode_0 rfl ?_
  refine aw_iconst (v := 0) C dX11_isNode_1 (by decide) ?_
  refine aw_aloadn C dX11_isNode_2 rfl ?_
  refine aw_getI C dX11_isNode_3 kcX11 (sA_46 S) 0 (by decide) rfl mF_X11_133 ?_
  refine aw_iconst (v := 1) C dX11_isNode_6 (by decide) ?_
  refine aw_isub C dX11_isNode_7 ?_
  refine aw_callS C dX11_isNode_8 (t_X11_in p0 0 ((G0 46 0) - 1) _ _ hw) mM_X11_136 bX11_in rfl rfl ⟨Nat.le_of_ble_eq_true rfl, Nat.le_of_ble_eq_true rfl, Nat.zero_le _, Nat.zero_le _⟩ _ rfl (Nat.le_of_ble_eq_true rfl) (fun r8 G1 hq => ?_)
  obtain ⟨v2, rfl, hw⟩ := hq
  exact aw_zreturn C hr dX11_isNode_11 (bz_n hw.1) ⟨_, rfl, hw.2⟩
def w_X11_isFew (K : Int32 → Gt → Prop) (p0 : Int32) (G0 : Gt) : Prop :=
  w_X11_in (fun v2 G1 =>
    bz v2 ∧ K v2 G1) p0 0 3 G0
set_option maxHeartbeats 4000000 in
set_option maxRecDepth 100000 in
theorem t_X11_isFew {l : Launch} {sh : Sh}  (p0 : Int32) (G0 : Gt) (K : Int32 → Gt → Prop) (hw : w_X11_isFew K p0 G0) : CT0 l yX11_isFew cX11_isFew 1 (some .boolean) 1 22 [.int p0] sh G0 (fun r G' => ∃ v, r = some (.int v) ∧ K v G') := by
  refine CT0_of (by decide) (Nat.le_of_ble_eq_true rfl) rfl ?_
  intro p e s m args below meth c D tA ad A C hr _
  unfold w_X11_isFew at hw
  show aw p l e { frames := 1, cells := 0, slots := 0, locals := 22 } s m args below meth c 1 D tA A (MQ below (QC0 D tA ad A sh (fun r G' => ∃ v, r = some (.int v) ∧ K v G')) args s 0 0 A) 0 0 ad 0 [some (.int p0)] [] sh G0
  refine aw_iloadn C dX11_isFew_0 rfl ?_
  refine aw_iconst (v := 0) C dX11_isFew_1 (by decide) ?_
  refine aw_iconst (v := 3) C dX11_isFew_2 (by decide) ?_
  refine aw_callS C dX11_isFew_3 (t_X11_in p0 0 3 _ _ hw) mM_X11_136 bX11_in rfl rfl ⟨Nat.le_of_ble_eq_true rfl, Nat.le_of_ble_eq_true rfl, Nat.zero_le _, Nat.zero_le _⟩ _ rfl (Nat.le_of_ble_eq_true rfl) (fun r3 G1 hq => ?_)
  obtain ⟨v2, rfl, hw⟩ := hq
  exact aw_zreturn C hr dX11_isFew_6 (bz_n hw.1) ⟨_, rfl, hw.2⟩
def w_X11_isName (K : Int32 → Gt → Prop) (p0 : Int32) (G0 : Gt) : Prop :=
  w_X11_in (fun v2 G1 =>
    bz v2 ∧ K v2 G1) p0 0 7 G0
set_option maxHeartbeats 4000000 in
set_option maxRecDepth 100000 in
theorem t_X11_isName {l : Launch} {sh : Sh}  (p0 : Int32) (G0 : Gt) (K : Int32 → Gt → Prop) (hw : w_X11_isName K p0 G0) : CT0 l yX11_isName cX11_isName 1 (some .boolean) 1 22 [.int p0] sh G0 (fun r G' => ∃ v, r = some (.int v) ∧ K v G') := by
  refine CT0_of (by decide) (Nat.le_of_ble_eq_true rfl) rfl ?_
  intro p e s m args below meth c D tA ad A C hr _
  unfold w_X11_isName at hw
  show aw p l e { frames := 1, cells := 0, slots := 0, locals := 22 } s m args below meth c 1 D tA A (MQ below (QC0 D tA ad A sh (fun r G' => ∃ v, r = some (.int v) ∧ K v G')) args s 0 0 A) 0 0 ad 0 [some (.int p0)] [] sh G0
  refine aw_iloadn C dX11_isName_0 rfl ?_
  refine aw_iconst (v := 0) C dX11_isName_1 (by decide) ?_
  refine aw_bipush (v := 7) C dX11_isName_2 (by decide) ?_
  refine aw_callS C dX11_isName_4 (t_X11_in p0 0 7 _ _ hw) mM_X11_136 bX11_in rfl rfl ⟨Nat.le_of_ble_eq_true rfl, Nat.le_of_ble_eq_true rfl, Nat.zero_le _, Nat.zero_le _⟩ _ rfl (Nat.le_of_ble_eq_true rfl) (fun r4 G1 hq => ?_)
  obtain ⟨v2, rfl, hw⟩ := hq
  exact aw_zreturn C hr dX11_isName_7 (bz_n hw.1) ⟨_, rfl, hw.2⟩
def w_X11_isSlot (K : Int32 → Gt → Prop) (p0 : Int32) (G0 : Gt) : Prop :=
  w_X11_in (fun v2 G1 =>
    bz v2 ∧ K v2 G1) p0 0 5 G0
set_option maxHeartbeats 4000000 in
set_option maxRecDepth 100000 in
theorem t_X11_isSlot {l : Launch} {sh : Sh}  (p0 : Int32) (G0 : Gt) (K : Int32 → Gt → Prop) (hw : w_X11_isSlot K p0 G0) : CT0 l yX11_isSlot cX11_isSlot 1 (some .boolean) 1 22 [.int p0] sh G0 (fun r G' => ∃ v, r = some (.int v) ∧ K v G') := by
  refine CT0_of (by decide) (Nat.le_of_ble_eq_true rfl) rfl ?_
  intro p e s m args below meth c D tA ad A C hr _
  unfold w_X11_isSlot at hw
  show aw p l e { frames := 1, cells := 0, slots := 0, locals := 22 } s m args below meth c 1 D tA A (MQ below (QC0 D tA ad A sh (fun r G' => ∃ v, r = some (.int v) ∧ K v G')) args s 0 0 A) 0 0 ad 0 [some (.int p0)] [] sh G0
  refine aw_iloadn C dX11_isSlot_0 rfl ?_
  refine aw_iconst (v := 0) C dX11_isSlot_1 (by decide) ?_
  refine aw_iconst (v := 5) C dX11_isSlot_2 (by decide) ?_
  refine aw_callS C dX11_isSlot_3 (t_X11_in p0 0 5 _ _ hw) mM_X11_136 bX11_in rfl rfl ⟨Nat.le_of_ble_eq_true rfl, Nat.le_of_ble_eq_true rfl, Nat.zero_le _, Nat.zero_le _⟩ _ rfl (Nat.le_of_ble_eq_true rfl) (fun r3 G1 hq => ?_)
  obtain ⟨v2, rfl, hw⟩ := hq
  exact aw_zreturn C hr dX11_isSlot_6 (bz_n hw.1) ⟨_, rfl, hw.2⟩
def w_X11_sizeOf_j26 (K : Int32 → Gt → Prop) (y0 : Int32) (G0 : Gt) : Prop :=
  K y0 G0
def w_X11_sizeOf_j16 (K : Int32 → Gt → Prop) (x2 : Int32) (G0 : Gt) : Prop :=
  vp_in x2 120 ∧
  w_X11_sizeOf_j26 K (G0 51 (x2 : Int32).toNatClampNeg) G0
def w_X11_sizeOf_j25 (K : Int32 → Gt → Prop)  (G0 : Gt) : Prop :=
  w_X11_sizeOf_j26 K 0 G0
def w_X11_sizeOf (K : Int32 → Gt → Prop) (p0 : Int32) (p1 : Int32) (G0 : Gt) : Prop :=
  pif (p0 = 1) (
    w_X11_sizeOf_j16 K p1 G0) (
    pif (p0 = 8) (
      pif (p1 = (-1)) (
        w_X11_sizeOf_j25 K G0) (
        w_X11_sizeOf_j16 K p1 G0)) (
      w_X11_sizeOf_j25 K G0))
set_option maxHeartbeats 4000000 in
set_option maxRecDepth 100000 in
theorem t_X11_sizeOf {l : Launch} {sh : Sh} (S : shOK sh) (p0 : Int32) (p1 : Int32) (G0 : Gt) (K : Int32 → Gt → Prop) (hw : w_X11_sizeOf K p0 p1 G0) : CT0 l yX11_sizeOf cX11_sizeOf 3 (some .int) 0 0 [.ref 46, .int p0, .int p1] sh G0 (fun r G' => ∃ v, r = some (.int v) ∧ K v G') := by
  refine CT0_of (by decide) (Nat.le_of_ble_eq_true rfl) rfl ?_
  intro p e s m args below meth c D tA ad A C hr _
  have h26 : ∀ (y0 : Int32) (G0 : Gt), w_X11_sizeOf_j26 K y0 G0 → aw p l e { frames := 0, cells := 0, slots := 0, locals := 0 } s m args below meth c 3 D tA A (MQ below (QC0 D tA ad A sh (fun r G' => ∃ v, r = some (.int v) ∧ K v G')) args s 0 0 A) 0 0 ad 26 [none, none, none] [.int y0] sh G0 := by
    intro  y0 G0 hw
    unfold w_X11_sizeOf_j26 at hw
    exact aw_ireturn C hr dX11_sizeOf_26 ⟨_, rfl, hw⟩
  have h16 : ∀ (x2 : Int32) (G0 : Gt), w_X11_sizeOf_j16 K x2 G0 → aw p l e { frames := 0, cells := 0, slots := 0, locals := 0 } s m args below meth c 3 D tA A (MQ below (QC0 D tA ad A sh (fun r G' => ∃ v, r = some (.int v) ∧ K v G')) args s 0 0 A) 0 0 ad 16 [some (.ref 46), none, some (.int x2)] [] sh G0 := by
    intro  x2 G0 hw
    unfold w_X11_sizeOf_j16 at hw
    refine aw_aloadn C dX11_sizeOf_16 rfl ?_
    refine aw_getR (r := 51) C dX11_sizeOf_17 kcX11 (sA_46 S) 5 (by decide) rfl mF_X11_22 ?_
    refine aw_iloadn C dX11_sizeOf_20 rfl ?_
    refine aw_iald C dX11_sizeOf_21 (sA_51 S) hw.1 ?_
    replace hw := hw.2
    refine aw_goto (tgt := 26) C dX11_sizeOf_22 (by decide) ?_
    exact aw_msk [false, false, false] (h26 (G0 51 (x2 : Int32).toNatClampNeg) _ hw)
  have h25 : ∀ (G0 : Gt), w_X11_sizeOf_j25 K  G0 → aw p l e { frames := 0, cells := 0, slots := 0, locals := 0 } s m args below meth c 3 D tA A (MQ below (QC0 D tA ad A sh (fun r G' => ∃ v, r = some (.int v) ∧ K v G')) args s 0 0 A) 0 0 ad 25 [none, none, none] [] sh G0 := by
    intro   G0 hw
    unfold w_X11_sizeOf_j25 at hw
    refine aw_iconst (v := 0) C dX11_sizeOf_25 (by decide) ?_
    exact aw_msk [false, false, false] (h26 0 _ hw)
  unfold w_X11_sizeOf at hw
  show aw p l e { frames := 0, cells := 0, slots := 0, locals := 0 } s m args below meth c 3 D tA A (MQ below (QC0 D tA ad A sh (fun r G' => ∃ v, r = some (.int v) ∧ K v G')) args s 0 0 A) 0 0 ad 0 [some (.ref 46), some (.int p0), some (.int p1)] [] sh G0
  refine aw_iloadn C dX11_sizeOf_0 rfl ?_
  refine aw_iconst (v := 1) C dX11_sizeOf_1 (by decide) ?_
  refine aw_ic_eq C dX11_sizeOf_2 16 (by decide) hw (fun hc2 hw => ?_) (fun hc2 hw => ?_)
  · exact aw_msk [true, false, true] (h16 p1 _ hw)
  · refine aw_iloadn C dX11_sizeOf_5 rfl ?_
    refine aw_bipush (v := 8) C dX11_sizeOf_6 (by decide) ?_
    refine aw_ic_ne C dX11_sizeOf_8 25 (by decide) hw (fun hc8 hw => ?_) (fun hc8 hw => ?_)
    · exact aw_msk [false, false, false] (h25 _ hw)
    · refine aw_iloadn C dX11_sizeOf_11 rfl ?_
      refine aw_iconst (v := (-1)) C dX11_sizeOf_12 (by decide) ?_
      refine aw_ic_eq C dX11_sizeOf_13 25 (by decide) hw (fun hc13 hw => ?_) (fun hc13 hw => ?_)
      · exact aw_msk [false, false, false] (h25 _ hw)
      · exact aw_msk [true, false, true] (h16 p1 _ hw)
def w_X11_goes_j41 (K : Int32 → Gt → Prop) (y0 : Int32) (G0 : Gt) : Prop :=
  bz y0 ∧ K y0 G0
def w_X11_goes_j26 (K : Int32 → Gt → Prop) (y1 : Int32) (G0 : Gt) : Prop :=
  pt (gu G0 46 71 y1) fun G1 =>
  pif ((G1 46 71) = 0) (
    w_X11_goes_j41 K 1 G1) (
    w_X11_goes_j41 K 0 G1)
def w_X11_goes (K : Int32 → Gt → Prop) (p0 : Int32) (p1 : Int32) (p2 : Int32) (G0 : Gt) : Prop :=
  pif (p0 = 0) (
    w_X11_goes_j26 K 1 G0) (
    pif (p1 = 0) (
      w_X11_goes_j26 K 2 G0) (
      pif (p2 = 0) (
        w_X11_goes_j26 K 3 G0) (
        w_X11_goes_j26 K 0 G0)))
set_option maxHeartbeats 4000000 in
set_option maxRecDepth 100000 in
theorem t_X11_goes {l : Launch} {sh : Sh} (S : shOK sh) (p0 : Int32) (p1 : Int32) (p2 : Int32) (G0 : Gt) (K : Int32 → Gt → Prop) (hw : w_X11_goes K p0 p1 p2 G0) : CT0 l yX11_goes cX11_goes 4 (some .boolean) 0 0 [.ref 46, .int p0, .int p1, .int p2] sh G0 (fun r G' => ∃ v, r = some (.int v) ∧ K v G') := by
  refine CT0_of (by decide) (Nat.le_of_ble_eq_true rfl) rfl ?_
  intro p e s m args below meth c D tA ad A C hr _
  have h41 : ∀ (y0 : Int32) (G0 : Gt), w_X11_goes_j41 K y0 G0 → aw p l e { frames := 0, cells := 0, slots := 0, locals := 0 } s m args below meth c 4 D tA A (MQ below (QC0 D tA ad A sh (fun r G' => ∃ v, r = some (.int v) ∧ K v G')) args s 0 0 A) 0 0 ad 41 [none, none, none, none] [.int y0] sh G0 := by
    intro  y0 G0 hw
    unfold w_X11_goes_j41 at hw
    exact aw_zreturn C hr dX11_goes_41 (bz_n hw.1) ⟨_, rfl, hw.2⟩
  have h26 : ∀ (y1 : Int32) (G0 : Gt), w_X11_goes_j26 K y1 G0 → aw p l e { frames := 0, cells := 0, slots := 0, locals := 0 } s m args below meth c 4 D tA A (MQ below (QC0 D tA ad A sh (fun r G' => ∃ v, r = some (.int v) ∧ K v G')) args s 0 0 A) 0 0 ad 26 [some (.ref 46), none, none, none] [.int y1, .ref 46] sh G0 := by
    intro  y1 G0 hw
    unfold w_X11_goes_j26 at hw
    refine aw_putI C dX11_goes_26 kcX11 (sA_46 S) 71 (by decide) rfl mF_X11_130 rfl rfl rfl hw (fun G1 hw => ?_)
    refine aw_aloadn C dX11_goes_29 rfl ?_
    refine aw_getI C dX11_goes_30 kcX11 (sA_46 S) 71 (by decide) rfl mF_X11_130 ?_
    refine aw_if_ne C dX11_goes_33 40 (by decide) hw (fun hc33 hw => ?_) (fun hc33 hw => ?_)
    · refine aw_iconst (v := 0) C dX11_goes_40 (by decide) ?_
      exact aw_msk [false, false, false, false] (h41 0 _ hw)
    · refine aw_iconst (v := 1) C dX11_goes_36 (by decide) ?_
      refine aw_goto (tgt := 41) C dX11_goes_37 (by decide) ?_
      exact aw_msk [false, false, false, false] (h41 1 _ hw)
  unfold w_X11_goes at hw
  show aw p l e { frames := 0, cells := 0, slots := 0, locals := 0 } s m args below meth c 4 D tA A (MQ below (QC0 D tA ad A sh (fun r G' => ∃ v, r = some (.int v) ∧ K v G')) args s 0 0 A) 0 0 ad 0 [some (.ref 46), some (.int p0), some (.int p1), some (.int p2)] [] sh G0
  refine aw_aloadn C dX11_goes_0 rfl ?_
  refine aw_iloadn C dX11_goes_1 rfl ?_
  refine aw_if_ne C dX11_goes_2 9 (by decide) hw (fun hc2 hw => ?_) (fun hc2 hw => ?_)
  · refine aw_iloadn C dX11_goes_9 rfl ?_
    refine aw_if_ne C dX11_goes_10 17 (by decide) hw (fun hc10 hw => ?_) (fun hc10 hw => ?_)
    · refine aw_iloadn C dX11_goes_17 rfl ?_
      refine aw_if_ne C dX11_goes_18 25 (by decide) hw (fun hc18 hw => ?_) (fun hc18 hw => ?_)
      · refine aw_iconst (v := 0) C dX11_goes_25 (by decide) ?_
        exact aw_msk [true, false, false, false] (h26 0 _ hw)
      · refine aw_iconst (v := 3) C dX11_goes_21 (by decide) ?_
        refine aw_goto (tgt := 26) C dX11_goes_22 (by decide) ?_
        exact aw_msk [true, false, false, false] (h26 3 _ hw)
    · refine aw_iconst (v := 2) C dX11_goes_13 (by decide) ?_
      refine aw_goto (tgt := 26) C dX11_goes_14 (by decide) ?_
      exact aw_msk [true, false, false, false] (h26 2 _ hw)
  · refine aw_iconst (v := 1) C dX11_goes_5 (by decide) ?_
    refine aw_goto (tgt := 26) C dX11_goes_6 (by decide) ?_
    exact aw_msk [true, false, false, false] (h26 1 _ hw)
def w_X11_define_j77 (K : Int32 → Gt → Prop) (x1 : Int32) (x2 : Int32) (x3 : Int32) (x4 : Int32) (y1 : Int32) (y2 : Int32) (y3 : Int32) (G0 : Gt) : Prop :=
  w_X11_goes (fun v6 G5 =>
    pif (v6 = 0) (
      K 0 G5) (
      vp_in x1 6 ∧
      vp_in x1 6 ∧
      pt (gu G5 53 (x1 : Int32).toNatClampNeg x2) fun G7 =>
      vp_in x1 6 ∧
      pt (gu G7 54 (x1 : Int32).toNatClampNeg x3) fun G8 =>
      vp_in x1 6 ∧
      pt (gu G8 55 (x1 : Int32).toNatClampNeg x4) fun G9 =>
      K (G5 54 (x1 : Int32).toNatClampNeg) G9)) y1 y2 y3 G0
def w_X11_define_j65 (K : Int32 → Gt → Prop) (x1 : Int32) (x2 : Int32) (x3 : Int32) (x4 : Int32) (y1 : Int32) (y2 : Int32) (G0 : Gt) : Prop :=
  pif ((G0 46 52) = 0) (
    w_X11_define_j77 K x1 x2 x3 x4 y1 y2 1 G0) (
    w_X11_define_j77 K x1 x2 x3 x4 y1 y2 0 G0)
def w_X11_define_j64 (K : Int32 → Gt → Prop) (x1 : Int32) (x2 : Int32) (x3 : Int32) (x4 : Int32) (y1 : Int32) (G0 : Gt) : Prop :=
  w_X11_define_j65 K x1 x2 x3 x4 y1 0 G0
def w_X11_define_j60 (K : Int32 → Gt → Prop) (x1 : Int32) (x2 : Int32) (x3 : Int32) (x4 : Int32) (y1 : Int32) (G0 : Gt) : Prop :=
  w_X11_define_j65 K x1 x2 x3 x4 y1 1 G0
def w_X11_define_j35 (K : Int32 → Gt → Prop) (x1 : Int32) (x2 : Int32) (x3 : Int32) (x4 : Int32) (y0 : Int32) (G0 : Gt) : Prop :=
  w_X11_in (fun v4 G3 =>
    pif (v4 = 0) (
      w_X11_define_j64 K x1 x2 x3 x4 y0 G3) (
      pif (x4 = (-1)) (
        w_X11_define_j60 K x1 x2 x3 x4 y0 G3) (
        pif (x2 = 2) (
          w_X11_define_j60 K x1 x2 x3 x4 y0 G3) (
          w_X11_define_j64 K x1 x2 x3 x4 y0 G3)))) x2 0 2 G0
def w_X11_define_j34 (K : Int32 → Gt → Prop) (x1 : Int32) (x2 : Int32) (x3 : Int32) (x4 : Int32) (G0 : Gt) : Prop :=
  w_X11_define_j35 K x1 x2 x3 x4 0 G0
def w_X11_define_j30 (K : Int32 → Gt → Prop) (x1 : Int32) (x2 : Int32) (x3 : Int32) (x4 : Int32) (G0 : Gt) : Prop :=
  w_X11_define_j35 K x1 x2 x3 x4 1 G0
def w_X11_define (K : Int32 → Gt → Prop) (p0 : Int32) (p1 : Int32) (p2 : Int32) (p3 : Int32) (G0 : Gt) : Prop :=
  w_X11_isSlot (fun v2 G1 =>
    pif (v2 = 0) (
      w_X11_define_j34 K p0 p1 p2 p3 G1) (
      w_X11_isNode (fun v11 G10 =>
        pif (v11 = 0) (
          w_X11_define_j34 K p0 p1 p2 p3 G10) (
          pif (p3 = (-1)) (
            w_X11_define_j30 K p0 p1 p2 p3 G10) (
            w_X11_isNode (fun v13 G12 =>
              pif (v13 = 0) (
                w_X11_define_j34 K p0 p1 p2 p3 G12) (
                w_X11_define_j30 K p0 p1 p2 p3 G12)) p3 G10))) p2 G1)) p0 G0
set_option maxHeartbeats 4000000 in
set_option maxRecDepth 100000 in
theorem t_X11_define {l : Launch} {sh : Sh} (S : shOK sh) (p0 : Int32) (p1 : Int32) (p2 : Int32) (p3 : Int32) (G0 : Gt) (K : Int32 → Gt → Prop) (hw : w_X11_define K p0 p1 p2 p3 G0) : CT0 l yX11_define cX11_define 7 (some .int) 2 43 [.ref 46, .int p0, .int p1, .int p2, .int p3] sh G0 (fun r G' => ∃ v, r = some (.int v) ∧ K v G') := by
  refine CT0_of (by decide) (Nat.le_of_ble_eq_true rfl) rfl ?_
  intro p e s m args below meth c D tA ad A C hr _
  have h77 : ∀ (x1 : Int32) (x2 : Int32) (x3 : Int32) (x4 : Int32) (y1 : Int32) (y2 : Int32) (y3 : Int32) (G0 : Gt), w_X11_define_j77 K x1 x2 x3 x4 y1 y2 y3 G0 → aw p l e { frames := 2, cells := 0, slots := 0, locals := 43 } s m args below meth c 7 D tA A (MQ below (QC0 D tA ad A sh (fun r G' => ∃ v, r = some (.int v) ∧ K v G')) args s 0 0 A) 0 0 ad 77 [some (.ref 46), some (.int x1), some (.int x2), some (.int x3), some (.int x4), none, none] [.int y3, .int y2, .int y1, .ref 46] sh G0 := by
    intro  x1 x2 x3 x4 y1 y2 y3 G0 hw
    unfold w_X11_define_j77 at hw
    refine aw_callV C dX11_define_77 (t_X11_goes S y1 y2 y3 _ _ hw) mM_X11_169 bX11_goes (sA_46 S) rfl rfl ⟨Nat.le_of_ble_eq_true rfl, Nat.le_of_ble_eq_true rfl, Nat.zero_le _, Nat.zero_le _⟩ _ rfl (Nat.le_of_ble_eq_true rfl) (fun r77 G5 hq => ?_)
    obtain ⟨v6, rfl, hw⟩ := hq
    refine aw_if_ne C dX11_define_80 85 (by decide) hw (fun hc80 hw => ?_) (fun hc80 hw => ?_)
    · refine aw_aloadn C dX11_define_85 rfl ?_
      refine aw_getR (r := 54) C dX11_define_86 kcX11 (sA_46 S) 8 (by decide) rfl mF_X11_32 ?_
      refine aw_iloadn C dX11_define_89 rfl ?_
      refine aw_iald C dX11_define_90 (sA_54 S) hw.1 ?_
      replace hw := hw.2
      refine aw_istore C dX11_define_91 (by decide) rfl ?_
      refine aw_aloadn C dX11_define_93 rfl ?_
      refine aw_getR (r := 53) C dX11_define_94 kcX11 (sA_46 S) 7 (by decide) rfl mF_X11_29 ?_
      refine aw_iloadn C dX11_define_97 rfl ?_
      refine aw_iloadn C dX11_define_98 rfl ?_
      refine aw_iast C dX11_define_99 (sA_53 S) hw.1 hw.2 (fun G7 hw => ?_)
      refine aw_aloadn C dX11_define_100 rfl ?_
      refine aw_getR (r := 54) C dX11_define_101 kcX11 (sA_46 S) 8 (by decide) rfl mF_X11_32 ?_
      refine aw_iloadn C dX11_define_104 rfl ?_
      refine aw_iloadn C dX11_define_105 rfl ?_
      refine aw_iast C dX11_define_106 (sA_54 S) hw.1 hw.2 (fun G8 hw => ?_)
      refine aw_aloadn C dX11_define_107 rfl ?_
      refine aw_getR (r := 55) C dX11_define_108 kcX11 (sA_46 S) 9 (by decide) rfl mF_X11_35 ?_
      refine aw_iloadn C dX11_define_111 rfl ?_
      refine aw_iload C dX11_define_112 rfl ?_
      refine aw_iast C dX11_define_114 (sA_55 S) hw.1 hw.2 (fun G9 hw => ?_)
      refine aw_iload C dX11_define_115 rfl ?_
      exact aw_ireturn C hr dX11_define_117 ⟨_, rfl, hw⟩
    · refine aw_iconst (v := 0) C dX11_define_83 (by decide) ?_
      exact aw_ireturn C hr dX11_define_84 ⟨_, rfl, hw⟩
  have h65 : ∀ (x1 : Int32) (x2 : Int32) (x3 : Int32) (x4 : Int32) (y1 : Int32) (y2 : Int32) (G0 : Gt), w_X11_define_j65 K x1 x2 x3 x4 y1 y2 G0 → aw p l e { frames := 2, cells := 0, slots := 0, locals := 43 } s m args below meth c 7 D tA A (MQ below (QC0 D tA ad A sh (fun r G' => ∃ v, r = some (.int v) ∧ K v G')) args s 0 0 A) 0 0 ad 65 [some (.ref 46), some (.int x1), some (.int x2), some (.int x3), some (.int x4), none, none] [.int y2, .int y1, .ref 46] sh G0 := by
    intro  x1 x2 x3 x4 y1 y2 G0 hw
    unfold w_X11_define_j65 at hw
    refine aw_aloadn C dX11_define_65 rfl ?_
    refine aw_getI C dX11_define_66 kcX11 (sA_46 S) 52 (by decide) rfl mF_X11_173 ?_
    refine aw_if_ne C dX11_define_69 76 (by decide) hw (fun hc69 hw => ?_) (fun hc69 hw => ?_)
    · refine aw_iconst (v := 0) C dX11_define_76 (by decide) ?_
      exact aw_msk [true, true, true, true, true, false, false] (h77 x1 x2 x3 x4 y1 y2 0 _ hw)
    · refine aw_iconst (v := 1) C dX11_define_72 (by decide) ?_
      refine aw_goto (tgt := 77) C dX11_define_73 (by decide) ?_
      exact aw_msk [true, true, true, true, true, false, false] (h77 x1 x2 x3 x4 y1 y2 1 _ hw)
  have h64 : ∀ (x1 : Int32) (x2 : Int32) (x3 : Int32) (x4 : Int32) (y1 : Int32) (G0 : Gt), w_X11_define_j64 K x1 x2 x3 x4 y1 G0 → aw p l e { frames := 2, cells := 0, slots := 0, locals := 43 } s m args below meth c 7 D tA A (MQ below (QC0 D tA ad A sh (fun r G' => ∃ v, r = some (.int v) ∧ K v G')) args s 0 0 A) 0 0 ad 64 [some (.ref 46), some (.int x1), some (.int x2), some (.int x3), some (.int x4), none, none] [.int y1, .ref 46] sh G0 := by
    intro  x1 x2 x3 x4 y1 G0 hw
    unfold w_X11_define_j64 at hw
    refine aw_iconst (v := 0) C dX11_define_64 (by decide) ?_
    exact aw_msk [true, true, true, true, true, false, false] (h65 x1 x2 x3 x4 y1 0 _ hw)
  have h60 : ∀ (x1 : Int32) (x2 : Int32) (x3 : Int32) (x4 : Int32) (y1 : Int32) (G0 : Gt), w_X11_define_j60 K x1 x2 x3 x4 y1 G0 → aw p l e { frames := 2, cells := 0, slots := 0, locals := 43 } s m args below meth c 7 D tA A (MQ below (QC0 D tA ad A sh (fun r G' => ∃ v, r = some (.int v) ∧ K v G')) args s 0 0 A) 0 0 ad 60 [some (.ref 46), some (.int x1), some (.int x2), some (.int x3), some (.int x4), none, none] [.int y1, .ref 46] sh G0 := by
    intro  x1 x2 x3 x4 y1 G0 hw
    unfold w_X11_define_j60 at hw
    refine aw_iconst (v := 1) C dX11_define_60 (by decide) ?_
    refine aw_goto (tgt := 65) C dX11_define_61 (by decide) ?_
    exact aw_msk [true, true, true, true, true, false, false] (h65 x1 x2 x3 x4 y1 1 _ hw)
  have h35 : ∀ (x1 : Int32) (x2 : Int32) (x3 : Int32) (x4 : Int32) (y0 : Int32) (G0 : Gt), w_X11_define_j35 K x1 x2 x3 x4 y0 G0 → aw p l e { frames := 2, cells := 0, slots := 0, locals := 43 } s m args below meth c 7 D tA A (MQ below (QC0 D tA ad A sh (fun r G' => ∃ v, r = some (.int v) ∧ K v G')) args s 0 0 A) 0 0 ad 35 [some (.ref 46), some (.int x1), some (.int x2), some (.int x3), some (.int x4), none, none] [.int y0] sh G0 := by
    intro  x1 x2 x3 x4 y0 G0 hw
    unfold w_X11_define_j35 at hw
    refine aw_istore C dX11_define_35 (by decide) rfl ?_
    refine aw_aloadn C dX11_define_37 rfl ?_
    refine aw_iload C dX11_define_38 rfl ?_
    refine aw_iloadn C dX11_define_40 rfl ?_
    refine aw_iconst (v := 0) C dX11_define_41 (by decide) ?_
    refine aw_iconst (v := 2) C dX11_define_42 (by decide) ?_
    refine aw_callS C dX11_define_43 (t_X11_in x2 0 2 _ _ hw) mM_X11_136 bX11_in rfl rfl ⟨Nat.le_of_ble_eq_true rfl, Nat.le_of_ble_eq_true rfl, Nat.zero_le _, Nat.zero_le _⟩ _ rfl (Nat.le_of_ble_eq_true rfl) (fun r43 G3 hq => ?_)
    obtain ⟨v4, rfl, hw⟩ := hq
    refine aw_if_eq C dX11_define_46 64 (by decide) hw (fun hc46 hw => ?_) (fun hc46 hw => ?_)
    · exact aw_msk [true, true, true, true, true, false, false] (h64 x1 x2 x3 x4 y0 _ hw)
    · refine aw_iload C dX11_define_49 rfl ?_
      refine aw_iconst (v := (-1)) C dX11_define_51 (by decide) ?_
      refine aw_ic_eq C dX11_define_52 60 (by decide) hw (fun hc52 hw => ?_) (fun hc52 hw => ?_)
      · exact aw_msk [true, true, true, true, true, false, false] (h60 x1 x2 x3 x4 y0 _ hw)
      · refine aw_iloadn C dX11_define_55 rfl ?_
        refine aw_iconst (v := 2) C dX11_define_56 (by decide) ?_
        refine aw_ic_ne C dX11_define_57 64 (by decide) hw (fun hc57 hw => ?_) (fun hc57 hw => ?_)
        · exact aw_msk [true, true, true, true, true, false, false] (h64 x1 x2 x3 x4 y0 _ hw)
        · exact aw_msk [true, true, true, true, true, false, false] (h60 x1 x2 x3 x4 y0 _ hw)
  have h34 : ∀ (x1 : Int32) (x2 : Int32) (x3 : Int32) (x4 : Int32) (G0 : Gt), w_X11_define_j34 K x1 x2 x3 x4 G0 → aw p l e { frames := 2, cells := 0, slots := 0, locals := 43 } s m args below meth c 7 D tA A (MQ below (QC0 D tA ad A sh (fun r G' => ∃ v, r = some (.int v) ∧ K v G')) args s 0 0 A) 0 0 ad 34 [some (.ref 46), some (.int x1), some (.int x2), some (.int x3), some (.int x4), none, none] [] sh G0 := by
    intro  x1 x2 x3 x4 G0 hw
    unfold w_X11_define_j34 at hw
    refine aw_iconst (v := 0) C dX11_define_34 (by decide) ?_
    exact aw_msk [true, true, true, true, true, false, false] (h35 x1 x2 x3 x4 0 _ hw)
  have h30 : ∀ (x1 : Int32) (x2 : Int32) (x3 : Int32) (x4 : Int32) (G0 : Gt), w_X11_define_j30 K x1 x2 x3 x4 G0 → aw p l e { frames := 2, cells := 0, slots := 0, locals := 43 } s m args below meth c 7 D tA A (MQ below (QC0 D tA ad A sh (fun r G' => ∃ v, r = some (.int v) ∧ K v G')) args s 0 0 A) 0 0 ad 30 [some (.ref 46), some (.int x1), some (.int x2), some (.int x3), some (.int x4), none, none] [] sh G0 := by
    intro  x1 x2 x3 x4 G0 hw
    unfold w_X11_define_j30 at hw
    refine aw_iconst (v := 1) C dX11_define_30 (by decide) ?_
    refine aw_goto (tgt := 35) C dX11_define_31 (by decide) ?_
    exact aw_msk [true, true, true, true, true, false, false] (h35 x1 x2 x3 x4 1 _ hw)
  unfold w_X11_define at hw
  show aw p l e { frames := 2, cells := 0, slots := 0, locals := 43 } s m args below meth c 7 D tA A (MQ below (QC0 D tA ad A sh (fun r G' => ∃ v, r = some (.int v) ∧ K v G')) args s 0 0 A) 0 0 ad 0 [some (.ref 46), some (.int p0), some (.int p1), some (.int p2), some (.int p3), none, none] [] sh G0
  refine aw_iloadn C dX11_define_0 rfl ?_
  refine aw_callS C dX11_define_1 (t_X11_isSlot p0 _ _ hw) mM_X11_150 bX11_isSlot rfl rfl ⟨Nat.le_of_ble_eq_true rfl, Nat.le_of_ble_eq_true rfl, Nat.zero_le _, Nat.zero_le _⟩ _ rfl (Nat.le_of_ble_eq_true rfl) (fun r1 G1 hq => ?_)
  obtain ⟨v2, rfl, hw⟩ := hq
  refine aw_if_eq C dX11_define_4 34 (by decide) hw (fun hc4 hw => ?_) (fun hc4 hw => ?_)
  · exact aw_msk [true, true, true, true, true, false, false] (h34 p0 p1 p2 p3 _ hw)
  · refine aw_aloadn C dX11_define_7 rfl ?_
    refine aw_iloadn C dX11_define_8 rfl ?_
    refine aw_callV C dX11_define_9 (t_X11_isNode S p2 _ _ hw) mM_X11_140 bX11_isNode (sA_46 S) rfl rfl ⟨Nat.le_of_ble_eq_true rfl, Nat.le_of_ble_eq_true rfl, Nat.zero_le _, Nat.zero_le _⟩ _ rfl (Nat.le_of_ble_eq_true rfl) (fun r9 G10 hq => ?_)
    obtain ⟨v11, rfl, hw⟩ := hq
    refine aw_if_eq C dX11_define_12 34 (by decide) hw (fun hc12 hw => ?_) (fun hc12 hw => ?_)
    · exact aw_msk [true, true, true, true, true, false, false] (h34 p0 p1 p2 p3 _ hw)
    · refine aw_iload C dX11_define_15 rfl ?_
      refine aw_iconst (v := (-1)) C dX11_define_17 (by decide) ?_
      refine aw_ic_eq C dX11_define_18 30 (by decide) hw (fun hc18 hw => ?_) (fun hc18 hw => ?_)
      · exact aw_msk [true, true, true, true, true, false, false] (h30 p0 p1 p2 p3 _ hw)
      · refine aw_aloadn C dX11_define_21 rfl ?_
        refine aw_iload C dX11_define_22 rfl ?_
        refine aw_callV C dX11_define_24 (t_X11_isNode S p3 _ _ hw) mM_X11_140 bX11_isNode (sA_46 S) rfl rfl ⟨Nat.le_of_ble_eq_true rfl, Nat.le_of_ble_eq_true rfl, Nat.zero_le _, Nat.zero_le _⟩ _ rfl (Nat.le_of_ble_eq_true rfl) (fun r24 G12 hq => ?_)
        obtain ⟨v13, rfl, hw⟩ := hq
        refine aw_if_eq C dX11_define_27 34 (by decide) hw (fun hc27 hw => ?_) (fun hc27 hw => ?_)
        · exact aw_msk [true, true, true, true, true, false, false] (h34 p0 p1 p2 p3 _ hw)
        · exact aw_msk [true, true, true, true, true, false, false] (h30 p0 p1 p2 p3 _ hw)
def w_X11_size_j24 (K : Int32 → Gt → Prop) (y0 : Int32) (G0 : Gt) : Prop :=
  K y0 G0
def w_X11_size (K : Int32 → Gt → Prop) (p0 : Int32) (G0 : Gt) : Prop :=
  w_X11_isNode (fun v2 G1 =>
    w_X11_goes (fun v4 G3 =>
      pif (v4 = 0) (
        w_X11_size_j24 K 0 G3) (
        vp_in p0 120 ∧
        w_X11_size_j24 K (G3 51 (p0 : Int32).toNatClampNeg) G3)) v2 1 1 G1) p0 G0
set_option maxHeartbeats 4000000 in
set_option maxRecDepth 100000 in
theorem t_X11_size {l : Launch} {sh : Sh} (S : shOK sh) (p0 : Int32) (G0 : Gt) (K : Int32 → Gt → Prop) (hw : w_X11_size K p0 G0) : CT0 l yX11_size cX11_size 2 (some .int) 2 43 [.ref 46, .int p0] sh G0 (fun r G' => ∃ v, r = some (.int v) ∧ K v G') := by
  refine CT0_of (by decide) (Nat.le_of_ble_eq_true rfl) rfl ?_
  intro p e s m args below meth c D tA ad A C hr _
  have h24 : ∀ (y0 : Int32) (G0 : Gt), w_X11_size_j24 K y0 G0 → aw p l e { frames := 2, cells := 0, slots := 0, locals := 43 } s m args below meth c 2 D tA A (MQ below (QC0 D tA ad A sh (fun r G' => ∃ v, r = some (.int v) ∧ K v G')) args s 0 0 A) 0 0 ad 24 [none, none] [.int y0] sh G0 := by
    intro  y0 G0 hw
    unfold w_X11_size_j24 at hw
    exact aw_ireturn C hr dX11_size_24 ⟨_, rfl, hw⟩
  unfold w_X11_size at hw
  show aw p l e { frames := 2, cells := 0, slots := 0, locals := 43 } s m args below meth c 2 D tA A (MQ below (QC0 D tA ad A sh (fun r G' => ∃ v, r = some (.int v) ∧ K v G')) args s 0 0 A) 0 0 ad 0 [some (.ref 46), some (.int p0)] [] sh G0
  refine aw_aloadn C dX11_size_0 rfl ?_
  refine aw_aloadn C dX11_size_1 rfl ?_
  refine aw_iloadn C dX11_size_2 rfl ?_
  refine aw_callV C dX11_size_3 (t_X11_isNode S p0 _ _ hw) mM_X11_140 bX11_isNode (sA_46 S) rfl rfl ⟨Nat.le_of_ble_eq_true rfl, Nat.le_of_ble_eq_true rfl, Nat.zero_le _, Nat.zero_le _⟩ _ rfl (Nat.le_of_ble_eq_true rfl) (fun r3 G1 hq => ?_)
  obtain ⟨v2, rfl, hw⟩ := hq
  refine aw_iconst (v := 1) C dX11_size_6 (by decide) ?_
  refine aw_iconst (v := 1) C dX11_size_7 (by decide) ?_
  refine aw_callV C dX11_size_8 (t_X11_goes S v2 1 1 _ _ hw) mM_X11_169 bX11_goes (sA_46 S) rfl rfl ⟨Nat.le_of_ble_eq_true rfl, Nat.le_of_ble_eq_true rfl, Nat.zero_le _, Nat.zero_le _⟩ _ rfl (Nat.le_of_ble_eq_true rfl) (fun r8 G3 hq => ?_)
  obtain ⟨v4, rfl, hw⟩ := hq
  refine aw_if_eq C dX11_size_11 23 (by decide) hw (fun hc11 hw => ?_) (fun hc11 hw => ?_)
  · refine aw_iconst (v := 0) C dX11_size_23 (by decide) ?_
    exact aw_msk [false, false] (h24 0 _ hw)
  · refine aw_aloadn C dX11_size_14 rfl ?_
    refine aw_getR (r := 51) C dX11_size_15 kcX11 (sA_46 S) 5 (by decide) rfl mF_X11_22 ?_
    refine aw_iloadn C dX11_size_18 rfl ?_
    refine aw_iald C dX11_size_19 (sA_51 S) hw.1 ?_
    replace hw := hw.2
    refine aw_goto (tgt := 24) C dX11_size_20 (by decide) ?_
    exact aw_msk [false, false] (h24 (G3 51 (p0 : Int32).toNatClampNeg) _ hw)
def w_X11_setOption_j27 (K : Int32 → Gt → Prop) (x1 : Int32) (x2 : Int32) (y1 : Int32) (y2 : Int32) (y3 : Int32) (G0 : Gt) : Prop :=
  w_X11_goes (fun v6 G5 =>
    pif (v6 = 0) (
      K 0 G5) (
      vp_in x1 4 ∧
      vp_in x1 4 ∧
      pt (gu G5 56 (x1 : Int32).toNatClampNeg x2) fun G7 =>
      K (G5 56 (x1 : Int32).toNatClampNeg) G7)) y1 y2 y3 G0
def w_X11_setOption (K : Int32 → Gt → Prop) (p0 : Int32) (p1 : Int32) (G0 : Gt) : Prop :=
  w_X11_isFew (fun v2 G1 =>
    w_X11_in (fun v4 G3 =>
      pif ((G3 46 52) = 0) (
        w_X11_setOption_j27 K p0 p1 v2 v4 1 G3) (
        w_X11_setOption_j27 K p0 p1 v2 v4 0 G3)) p1 (-9999) 9999 G1) p0 G0
set_option maxHeartbeats 4000000 in
set_option maxRecDepth 100000 in
theorem t_X11_setOption {l : Launch} {sh : Sh} (S : shOK sh) (p0 : Int32) (p1 : Int32) (G0 : Gt) (K : Int32 → Gt → Prop) (hw : w_X11_setOption K p0 p1 G0) : CT0 l yX11_setOption cX11_setOption 4 (some .int) 2 42 [.ref 46, .int p0, .int p1] sh G0 (fun r G' => ∃ v, r = some (.int v) ∧ K v G') := by
  refine CT0_of (by decide) (Nat.le_of_ble_eq_true rfl) rfl ?_
  intro p e s m args below meth c D tA ad A C hr _
  have h27 : ∀ (x1 : Int32) (x2 : Int32) (y1 : Int32) (y2 : Int32) (y3 : Int32) (G0 : Gt), w_X11_setOption_j27 K x1 x2 y1 y2 y3 G0 → aw p l e { frames := 2, cells := 0, slots := 0, locals := 42 } s m args below meth c 4 D tA A (MQ below (QC0 D tA ad A sh (fun r G' => ∃ v, r = some (.int v) ∧ K v G')) args s 0 0 A) 0 0 ad 27 [some (.ref 46), some (.int x1), some (.int x2), none] [.int y3, .int y2, .int y1, .ref 46] sh G0 := by
    intro  x1 x2 y1 y2 y3 G0 hw
    unfold w_X11_setOption_j27 at hw
    refine aw_callV C dX11_setOption_27 (t_X11_goes S y1 y2 y3 _ _ hw) mM_X11_169 bX11_goes (sA_46 S) rfl rfl ⟨Nat.le_of_ble_eq_true rfl, Nat.le_of_ble_eq_true rfl, Nat.zero_le _, Nat.zero_le _⟩ _ rfl (Nat.le_of_ble_eq_true rfl) (fun r27 G5 hq => ?_)
    obtain ⟨v6, rfl, hw⟩ := hq
    refine aw_if_ne C dX11_setOption_30 35 (by decide) hw (fun hc30 hw => ?_) (fun hc30 hw => ?_)
    · refine aw_aloadn C dX11_setOption_35 rfl ?_
      refine aw_getR (r := 56) C dX11_setOption_36 kcX11 (sA_46 S) 10 (by decide) rfl mF_X11_38 ?_
      refine aw_iloadn C dX11_setOption_39 rfl ?_
      refine aw_iald C dX11_setOption_40 (sA_56 S) hw.1 ?_
      replace hw := hw.2
      refine aw_istoren C dX11_setOption_41 (by decide) rfl ?_
      refine aw_aloadn C dX11_setOption_42 rfl ?_
      refine aw_getR (r := 56) C dX11_setOption_43 kcX11 (sA_46 S) 10 (by decide) rfl mF_X11_38 ?_
      refine aw_iloadn C dX11_setOption_46 rfl ?_
      refine aw_iloadn C dX11_setOption_47 rfl ?_
      refine aw_iast C dX11_setOption_48 (sA_56 S) hw.1 hw.2 (fun G7 hw => ?_)
      refine aw_iloadn C dX11_setOption_49 rfl ?_
      exact aw_ireturn C hr dX11_setOption_50 ⟨_, rfl, hw⟩
    · refine aw_iconst (v := 0) C dX11_setOption_33 (by decide) ?_
      exact aw_ireturn C hr dX11_setOption_34 ⟨_, rfl, hw⟩
  unfold w_X11_setOption at hw
  show aw p l e { frames := 2, cells := 0, slots := 0, locals := 42 } s m args below meth c 4 D tA A (MQ below (QC0 D tA ad A sh (fun r G' => ∃ v, r = some (.int v) ∧ K v G')) args s 0 0 A) 0 0 ad 0 [some (.ref 46), some (.int p0), some (.int p1), none] [] sh G0
  refine aw_aloadn C dX11_setOption_0 rfl ?_
  refine aw_iloadn C dX11_setOption_1 rfl ?_
  refine aw_callS C dX11_setOption_2 (t_X11_isFew p0 _ _ hw) mM_X11_144 bX11_isFew rfl rfl ⟨Nat.le_of_ble_eq_true rfl, Nat.le_of_ble_eq_true rfl, Nat.zero_le _, Nat.zero_le _⟩ _ rfl (Nat.le_of_ble_eq_true rfl) (fun r2 G1 hq => ?_)
  obtain ⟨v2, rfl, hw⟩ := hq
  refine aw_iloadn C dX11_setOption_5 rfl ?_
  refine aw_sipush (v := (-9999)) C dX11_setOption_6 (by decide) ?_
  refine aw_sipush (v := 9999) C dX11_setOption_9 (by decide) ?_
  refine aw_callS C dX11_setOption_12 (t_X11_in p1 (-9999) 9999 _ _ hw) mM_X11_136 bX11_in rfl rfl ⟨Nat.le_of_ble_eq_true rfl, Nat.le_of_ble_eq_true rfl, Nat.zero_le _, Nat.zero_le _⟩ _ rfl (Nat.le_of_ble_eq_true rfl) (fun r12 G3 hq => ?_)
  obtain ⟨v4, rfl, hw⟩ := hq
  refine aw_aloadn C dX11_setOption_15 rfl ?_
  refine aw_getI C dX11_setOption_16 kcX11 (sA_46 S) 52 (by decide) rfl mF_X11_173 ?_
  refine aw_if_ne C dX11_setOption_19 26 (by decide) hw (fun hc19 hw => ?_) (fun hc19 hw => ?_)
  · refine aw_iconst (v := 0) C dX11_setOption_26 (by decide) ?_
    exact aw_msk [true, true, true, false] (h27 p0 p1 v2 v4 0 _ hw)
  · refine aw_iconst (v := 1) C dX11_setOption_22 (by decide) ?_
    refine aw_goto (tgt := 27) C dX11_setOption_23 (by decide) ?_
    exact aw_msk [true, true, true, false] (h27 p0 p1 v2 v4 1 _ hw)
def w_X11_setBudget (K : Int32 → Gt → Prop) (p0 : Int32) (G0 : Gt) : Prop :=
  w_X11_in (fun v2 G1 =>
    w_X11_goes (fun v4 G3 =>
      pif (v4 = 0) (
        K 0 G3) (
        pt (gu G3 46 13 p0) fun G5 =>
        K (G3 46 13) G5)) v2 1 1 G1) p0 1 600 G0
set_option maxHeartbeats 4000000 in
set_option maxRecDepth 100000 in
theorem t_X11_setBudget {l : Launch} {sh : Sh} (S : shOK sh) (p0 : Int32) (G0 : Gt) (K : Int32 → Gt → Prop) (hw : w_X11_setBudget K p0 G0) : CT0 l yX11_setBudget cX11_setBudget 3 (some .int) 1 23 [.ref 46, .int p0] sh G0 (fun r G' => ∃ v, r = some (.int v) ∧ K v G') := by
  refine CT0_of (by decide) (Nat.le_of_ble_eq_true rfl) rfl ?_
  intro p e s m args below meth c D tA ad A C hr _
  unfold w_X11_setBudget at hw
  show aw p l e { frames := 1, cells := 0, slots := 0, locals := 23 } s m args below meth c 3 D tA A (MQ below (QC0 D tA ad A sh (fun r G' => ∃ v, r = some (.int v) ∧ K v G')) args s 0 0 A) 0 0 ad 0 [some (.ref 46), some (.int p0), none] [] sh G0
  refine aw_aloadn C dX11_setBudget_0 rfl ?_
  refine aw_iloadn C dX11_setBudget_1 rfl ?_
  refine aw_iconst (v := 1) C dX11_setBudget_2 (by decide) ?_
  refine aw_sipush (v := 600) C dX11_setBudget_3 (by decide) ?_
  refine aw_callS C dX11_setBudget_6 (t_X11_in p0 1 600 _ _ hw) mM_X11_136 bX11_in rfl rfl ⟨Nat.le_of_ble_eq_true rfl, Nat.le_of_ble_eq_true rfl, Nat.zero_le _, Nat.zero_le _⟩ _ rfl (Nat.le_of_ble_eq_true rfl) (fun r6 G1 hq => ?_)
  obtain ⟨v2, rfl, hw⟩ := hq
  refine aw_iconst (v := 1) C dX11_setBudget_9 (by decide) ?_
  refine aw_iconst (v := 1) C dX11_setBudget_10 (by decide) ?_
  refine aw_callV C dX11_setBudget_11 (t_X11_goes S v2 1 1 _ _ hw) mM_X11_169 bX11_goes (sA_46 S) rfl rfl ⟨Nat.le_of_ble_eq_true rfl, Nat.le_of_ble_eq_true rfl, Nat.zero_le _, Nat.zero_le _⟩ _ rfl (Nat.le_of_ble_eq_true rfl) (fun r11 G3 hq => ?_)
  obtain ⟨v4, rfl, hw⟩ := hq
  refine aw_if_ne C dX11_setBudget_14 19 (by decide) hw (fun hc14 hw => ?_) (fun hc14 hw => ?_)
  · refine aw_aloadn C dX11_setBudget_19 rfl ?_
    refine aw_getI C dX11_setBudget_20 kcX11 (sA_46 S) 13 (by decide) rfl mF_X11_48 ?_
    refine aw_istoren C dX11_setBudget_23 (by decide) rfl ?_
    refine aw_aloadn C dX11_setBudget_24 rfl ?_
    refine aw_iloadn C dX11_setBudget_25 rfl ?_
    refine aw_putI C dX11_setBudget_26 kcX11 (sA_46 S) 13 (by decide) rfl mF_X11_48 rfl rfl rfl hw (fun G5 hw => ?_)
    refine aw_iloadn C dX11_setBudget_29 rfl ?_
    exact aw_ireturn C hr dX11_setBudget_30 ⟨_, rfl, hw⟩
  · refine aw_iconst (v := 0) C dX11_setBudget_17 (by decide) ?_
    exact aw_ireturn C hr dX11_setBudget_18 ⟨_, rfl, hw⟩
def w_X11_isBuffer_j14 (K : Int32 → Gt → Prop) (y0 : Int32) (G0 : Gt) : Prop :=
  bz y0 ∧ K y0 G0
def w_X11_isBuffer_j9 (K : Int32 → Gt → Prop)  (G0 : Gt) : Prop :=
  w_X11_isBuffer_j14 K 1 G0
def w_X11_isBuffer (K : Int32 → Gt → Prop) (p0 : Int32) (G0 : Gt) : Prop :=
  pif (p0 = 0) (
    w_X11_isBuffer_j9 K G0) (
    pif (p0 = 1) (
      w_X11_isBuffer_j9 K G0) (
      w_X11_isBuffer_j14 K 0 G0))
set_option maxHeartbeats 4000000 in
set_option maxRecDepth 100000 in
theorem t_X11_isBuffer {l : Launch} {sh : Sh}  (p0 : Int32) (G0 : Gt) (K : Int32 → Gt → Prop) (hw : w_X11_isBuffer K p0 G0) : CT0 l yX11_isBuffer cX11_isBuffer 1 (some .boolean) 0 0 [.int p0] sh G0 (fun r G' => ∃ v, r = some (.int v) ∧ K v G') := by
  refine CT0_of (by decide) (Nat.le_of_ble_eq_true rfl) rfl ?_
  intro p e s m args below meth c D tA ad A C hr _
  have h14 : ∀ (y0 : Int32) (G0 : Gt), w_X11_isBuffer_j14 K y0 G0 → aw p l e { frames := 0, cells := 0, slots := 0, locals := 0 } s m args below meth c 1 D tA A (MQ below (QC0 D tA ad A sh (fun r G' => ∃ v, r = some (.int v) ∧ K v G')) args s 0 0 A) 0 0 ad 14 [none] [.int y0] sh G0 := by
    intro  y0 G0 hw
    unfold w_X11_isBuffer_j14 at hw
    exact aw_zreturn C hr dX11_isBuffer_14 (bz_n hw.1) ⟨_, rfl, hw.2⟩
  have h9 : ∀ (G0 : Gt), w_X11_isBuffer_j9 K  G0 → aw p l e { frames := 0, cells := 0, slots := 0, locals := 0 } s m args below meth c 1 D tA A (MQ below (QC0 D tA ad A sh (fun r G' => ∃ v, r = some (.int v) ∧ K v G')) args s 0 0 A) 0 0 ad 9 [none] [] sh G0 := by
    intro   G0 hw
    unfold w_X11_isBuffer_j9 at hw
    refine aw_iconst (v := 1) C dX11_isBuffer_9 (by decide) ?_
    refine aw_goto (tgt := 14) C dX11_isBuffer_10 (by decide) ?_
    exact aw_msk [false] (h14 1 _ hw)
  unfold w_X11_isBuffer at hw
  show aw p l e { frames := 0, cells := 0, slots := 0, locals := 0 } s m args below meth c 1 D tA A (MQ below (QC0 D tA ad A sh (fun r G' => ∃ v, r = some (.int v) ∧ K v G')) args s 0 0 A) 0 0 ad 0 [some (.int p0)] [] sh G0
  refine aw_iloadn C dX11_isBuffer_0 rfl ?_
  refine aw_if_eq C dX11_isBuffer_1 9 (by decide) hw (fun hc1 hw => ?_) (fun hc1 hw => ?_)
  · exact aw_msk [false] (h9 _ hw)
  · refine aw_iloadn C dX11_isBuffer_4 rfl ?_
    refine aw_iconst (v := 1) C dX11_isBuffer_5 (by decide) ?_
    refine aw_ic_ne C dX11_isBuffer_6 13 (by decide) hw (fun hc6 hw => ?_) (fun hc6 hw => ?_)
    · refine aw_iconst (v := 0) C dX11_isBuffer_13 (by decide) ?_
      exact aw_msk [false] (h14 0 _ hw)
    · exact aw_msk [false] (h9 _ hw)
def w_X11_keptAt_j122 (K : Int32 → Gt → Prop) (y0 : Int32) (G0 : Gt) : Prop :=
  K y0 G0
def w_X11_keptAt (K : Int32 → Gt → Prop) (p0 : Int32) (G0 : Gt) : Prop :=
  pif (80 ≤ p0) (
    pif (82 ≤ p0) (
      pif (90 ≤ p0) (
        pif (92 ≤ p0) (
          pif (96 ≤ p0) (
            pif (102 ≤ p0) (
              pif (p0 = 102) (
                w_X11_keptAt_j122 K (G0 46 12) G0) (
                w_X11_keptAt_j122 K (G0 46 14) G0)) (
              vp_in (p0 - 96) 6 ∧
              w_X11_keptAt_j122 K (G0 54 ((p0 - 96) : Int32).toNatClampNeg) G0)) (
            vp_in (p0 - 92) 4 ∧
            w_X11_keptAt_j122 K (G0 56 ((p0 - 92) : Int32).toNatClampNeg) G0)) (
          vp_in (p0 - 90) 2 ∧
          w_X11_keptAt_j122 K (G0 61 ((p0 - 90) : Int32).toNatClampNeg) G0)) (
        vp_in (p0 - 82) 8 ∧
        w_X11_keptAt_j122 K (G0 60 ((p0 - 82) : Int32).toNatClampNeg) G0)) (
      vp_in (p0 - 80) 2 ∧
      w_X11_keptAt_j122 K (G0 59 ((p0 - 80) : Int32).toNatClampNeg) G0)) (
    vp_in p0 80 ∧
    w_X11_keptAt_j122 K (G0 58 (p0 : Int32).toNatClampNeg) G0)
set_option maxHeartbeats 4000000 in
set_option maxRecDepth 100000 in
theorem t_X11_keptAt {l : Launch} {sh : Sh} (S : shOK sh) (p0 : Int32) (G0 : Gt) (K : Int32 → Gt → Prop) (hw : w_X11_keptAt K p0 G0) : CT0 l yX11_keptAt cX11_keptAt 2 (some .int) 0 0 [.ref 46, .int p0] sh G0 (fun r G' => ∃ v, r = some (.int v) ∧ K v G') := by
  refine CT0_of (by decide) (Nat.le_of_ble_eq_true rfl) rfl ?_
  intro p e s m args below meth c D tA ad A C hr _
  have h122 : ∀ (y0 : Int32) (G0 : Gt), w_X11_keptAt_j122 K y0 G0 → aw p l e { frames := 0, cells := 0, slots := 0, locals := 0 } s m args below meth c 2 D tA A (MQ below (QC0 D tA ad A sh (fun r G' => ∃ v, r = some (.int v) ∧ K v G')) args s 0 0 A) 0 0 ad 122 [none, none] [.int y0] sh G0 := by
    intro  y0 G0 hw
    unfold w_X11_keptAt_j122 at hw
    exact aw_ireturn C hr dX11_keptAt_122 ⟨_, rfl, hw⟩
  unfold w_X11_keptAt at hw
  show aw p l e { frames := 0, cells := 0, slots := 0, locals := 0 } s m args below meth c 2 D tA A (MQ below (QC0 D tA ad A sh (fun r G' => ∃ v, r = some (.int v) ∧ K v G')) args s 0 0 A) 0 0 ad 0 [some (.ref 46), some (.int p0)] [] sh G0
  refine aw_iloadn C dX11_keptAt_0 rfl ?_
  refine aw_bipush (v := 80) C dX11_keptAt_1 (by decide) ?_
  refine aw_ic_ge C dX11_keptAt_3 15 (by decide) hw (fun hc3 hw => ?_) (fun hc3 hw => ?_)
  · refine aw_iloadn C dX11_keptAt_15 rfl ?_
    refine aw_bipush (v := 82) C dX11_keptAt_16 (by decide) ?_
    refine aw_ic_ge C dX11_keptAt_18 33 (by decide) hw (fun hc18 hw => ?_) (fun hc18 hw => ?_)
    · refine aw_iloadn C dX11_keptAt_33 rfl ?_
      refine aw_bipush (v := 90) C dX11_keptAt_34 (by decide) ?_
      refine aw_ic_ge C dX11_keptAt_36 51 (by decide) hw (fun hc36 hw => ?_) (fun hc36 hw => ?_)
      · refine aw_iloadn C dX11_keptAt_51 rfl ?_
        refine aw_bipush (v := 92) C dX11_keptAt_52 (by decide) ?_
        refine aw_ic_ge C dX11_keptAt_54 69 (by decide) hw (fun hc54 hw => ?_) (fun hc54 hw => ?_)
        · refine aw_iloadn C dX11_keptAt_69 rfl ?_
          refine aw_bipush (v := 96) C dX11_keptAt_70 (by decide) ?_
          refine aw_ic_ge C dX11_keptAt_72 87 (by decide) hw (fun hc72 hw => ?_) (fun hc72 hw => ?_)
          · refine aw_iloadn C dX11_keptAt_87 rfl ?_
            refine aw_bipush (v := 102) C dX11_keptAt_88 (by decide) ?_
            refine aw_ic_ge C dX11_keptAt_90 105 (by decide) hw (fun hc90 hw => ?_) (fun hc90 hw => ?_)
            · refine aw_iloadn C dX11_keptAt_105 rfl ?_
              refine aw_bipush (v := 102) C dX11_keptAt_106 (by decide) ?_
              refine aw_ic_ne C dX11_keptAt_108 118 (by decide) hw (fun hc108 hw => ?_) (fun hc108 hw => ?_)
              · refine aw_aloadn C dX11_keptAt_118 rfl ?_
                refine aw_getI C dX11_keptAt_119 kcX11 (sA_46 S) 14 (by decide) rfl mF_X11_180 ?_
                exact aw_msk [false, false] (h122 (G0 46 14) _ hw)
              · refine aw_aloadn C dX11_keptAt_111 rfl ?_
                refine aw_getI C dX11_keptAt_112 kcX11 (sA_46 S) 12 (by decide) rfl mF_X11_44 ?_
                refine aw_goto (tgt := 122) C dX11_keptAt_115 (by decide) ?_
                exact aw_msk [false, false] (h122 (G0 46 12) _ hw)
            · refine aw_aloadn C dX11_keptAt_93 rfl ?_
              refine aw_getR (r := 54) C dX11_keptAt_94 kcX11 (sA_46 S) 8 (by decide) rfl mF_X11_32 ?_
              refine aw_iloadn C dX11_keptAt_97 rfl ?_
              refine aw_bipush (v := 96) C dX11_keptAt_98 (by decide) ?_
              refine aw_isub C dX11_keptAt_100 ?_
              refine aw_iald C dX11_keptAt_101 (sA_54 S) hw.1 ?_
              replace hw := hw.2
              refine aw_goto (tgt := 122) C dX11_keptAt_102 (by decide) ?_
              exact aw_msk [false, false] (h122 (G0 54 ((p0 - 96) : Int32).toNatClampNeg) _ hw)
          · refine aw_aloadn C dX11_keptAt_75 rfl ?_
            refine aw_getR (r := 56) C dX11_keptAt_76 kcX11 (sA_46 S) 10 (by decide) rfl mF_X11_38 ?_
            refine aw_iloadn C dX11_keptAt_79 rfl ?_
            refine aw_bipush (v := 92) C dX11_keptAt_80 (by decide) ?_
            refine aw_isub C dX11_keptAt_82 ?_
            refine aw_iald C dX11_keptAt_83 (sA_56 S) hw.1 ?_
            replace hw := hw.2
            refine aw_goto (tgt := 122) C dX11_keptAt_84 (by decide) ?_
            exact aw_msk [false, false] (h122 (G0 56 ((p0 - 92) : Int32).toNatClampNeg) _ hw)
        · refine aw_aloadn C dX11_keptAt_57 rfl ?_
          refine aw_getR (r := 61) C dX11_keptAt_58 kcX11 (sA_46 S) 18 (by decide) rfl mF_X11_60 ?_
          refine aw_iloadn C dX11_keptAt_61 rfl ?_
          refine aw_bipush (v := 90) C dX11_keptAt_62 (by decide) ?_
          refine aw_isub C dX11_keptAt_64 ?_
          refine aw_iald C dX11_keptAt_65 (sA_61 S) hw.1 ?_
          replace hw := hw.2
          refine aw_goto (tgt := 122) C dX11_keptAt_66 (by decide) ?_
          exact aw_msk [false, false] (h122 (G0 61 ((p0 - 90) : Int32).toNatClampNeg) _ hw)
      · refine aw_aloadn C dX11_keptAt_39 rfl ?_
        refine aw_getR (r := 60) C dX11_keptAt_40 kcX11 (sA_46 S) 17 (by decide) rfl mF_X11_57 ?_
        refine aw_iloadn C dX11_keptAt_43 rfl ?_
        refine aw_bipush (v := 82) C dX11_keptAt_44 (by decide) ?_
        refine aw_isub C dX11_keptAt_46 ?_
        refine aw_iald C dX11_keptAt_47 (sA_60 S) hw.1 ?_
        replace hw := hw.2
        refine aw_goto (tgt := 122) C dX11_keptAt_48 (by decide) ?_
        exact aw_msk [false, false] (h122 (G0 60 ((p0 - 82) : Int32).toNatClampNeg) _ hw)
    · refine aw_aloadn C dX11_keptAt_21 rfl ?_
      refine aw_getR (r := 59) C dX11_keptAt_22 kcX11 (sA_46 S) 16 (by decide) rfl mF_X11_54 ?_
      refine aw_iloadn C dX11_keptAt_25 rfl ?_
      refine aw_bipush (v := 80) C dX11_keptAt_26 (by decide) ?_
      refine aw_isub C dX11_keptAt_28 ?_
      refine aw_iald C dX11_keptAt_29 (sA_59 S) hw.1 ?_
      replace hw := hw.2
      refine aw_goto (tgt := 122) C dX11_keptAt_30 (by decide) ?_
      exact aw_msk [false, false] (h122 (G0 59 ((p0 - 80) : Int32).toNatClampNeg) _ hw)
  · refine aw_aloadn C dX11_keptAt_6 rfl ?_
    refine aw_getR (r := 58) C dX11_keptAt_7 kcX11 (sA_46 S) 15 (by decide) rfl mF_X11_51 ?_
    refine aw_iloadn C dX11_keptAt_10 rfl ?_
    refine aw_iald C dX11_keptAt_11 (sA_58 S) hw.1 ?_
    replace hw := hw.2
    refine aw_goto (tgt := 122) C dX11_keptAt_12 (by decide) ?_
    exact aw_msk [false, false] (h122 (G0 58 (p0 : Int32).toNatClampNeg) _ hw)
def w_X11_opens_h12 (K : Int32 → Gt → Prop) : Nat → Int32 → Gt → Prop
  | 0, _, _ => False
  | n + 1, x2, G0 =>
    pif (8 ≤ x2) (
      pt (gu G0 46 29 ((G0 46 29) + 1)) fun G2 =>
      K ((G2 46 29) - 1) G2) (
      vp_in ((8 * (G0 46 29)) + x2) 4960 ∧
      pt (gu G0 72 (((8 * (G0 46 29)) + x2) : Int32).toNatClampNeg (-100000)) fun G3 =>
      (w_X11_opens_h12 K n) (x2 + 1) G3)
def w_X11_opens (K : Int32 → Gt → Prop) (p0 : Int32) (G0 : Gt) : Prop :=
  vp_in (G0 46 29) 620 ∧
  pt (gu G0 71 ((G0 46 29) : Int32).toNatClampNeg p0) fun G1 =>
  ∃ i, w_X11_opens_h12 K i 0 G1
set_option maxHeartbeats 4000000 in
set_option maxRecDepth 100000 in
theorem t_X11_opens {l : Launch} {sh : Sh} (S : shOK sh) (p0 : Int32) (G0 : Gt) (K : Int32 → Gt → Prop) (hw : w_X11_opens K p0 G0) : CT0 l yX11_opens cX11_opens 3 (some .int) 0 0 [.ref 46, .int p0] sh G0 (fun r G' => ∃ v, r = some (.int v) ∧ K v G') := by
  refine CT0_of (by decide) (Nat.le_of_ble_eq_true rfl) rfl ?_
  intro p e s m args below meth c D tA ad A C hr _
  have h12 : ∀ (n : Nat) (x2 : Int32) (G0 : Gt), w_X11_opens_h12 K n x2 G0 → aw p l e { frames := 0, cells := 0, slots := 0, locals := 0 } s m args below meth c 3 D tA A (MQ below (QC0 D tA ad A sh (fun r G' => ∃ v, r = some (.int v) ∧ K v G')) args s 0 0 A) 0 0 ad 12 [some (.ref 46), none, some (.int x2)] [] sh G0 := by
    intro  n
    induction n with
    | zero => intro x2 G0 hw; exact hw.elim
    | succ n ih =>
      intro x2 G0 hw
      rw [w_X11_opens_h12] at hw
      refine aw_iloadn C dX11_opens_12 rfl ?_
      refine aw_bipush (v := 8) C dX11_opens_13 (by decide) ?_
      refine aw_ic_ge C dX11_opens_15 40 (by decide) hw (fun hc15 hw => ?_) (fun hc15 hw => ?_)
      · refine aw_aloadn C dX11_opens_40 rfl ?_
        refine aw_dup C dX11_opens_41 rfl ?_
        refine aw_getI C dX11_opens_42 kcX11 (sA_46 S) 29 (by decide) rfl mF_X11_186 ?_
        refine aw_iconst (v := 1) C dX11_opens_45 (by decide) ?_
        refine aw_iadd C dX11_opens_46 ?_
        refine aw_putI C dX11_opens_47 kcX11 (sA_46 S) 29 (by decide) rfl mF_X11_186 rfl rfl rfl hw (fun G2 hw => ?_)
        refine aw_aloadn C dX11_opens_50 rfl ?_
        refine aw_getI C dX11_opens_51 kcX11 (sA_46 S) 29 (by decide) rfl mF_X11_186 ?_
        refine aw_iconst (v := 1) C dX11_opens_54 (by decide) ?_
        refine aw_isub C dX11_opens_55 ?_
        exact aw_ireturn C hr dX11_opens_56 ⟨_, rfl, hw⟩
      · refine aw_aloadn C dX11_opens_18 rfl ?_
        refine aw_getR (r := 72) C dX11_opens_19 kcX11 (sA_46 S) 31 (by decide) rfl mF_X11_93 ?_
        refine aw_bipush (v := 8) C dX11_opens_22 (by decide) ?_
        refine aw_aloadn C dX11_opens_24 rfl ?_
        refine aw_getI C dX11_opens_25 kcX11 (sA_46 S) 29 (by decide) rfl mF_X11_186 ?_
        refine aw_imul C dX11_opens_28 ?_
        refine aw_iloadn C dX11_opens_29 rfl ?_
        refine aw_iadd C dX11_opens_30 ?_
        refine aw_ldc (v := (-100000)) C dX11_opens_31 mK_X11_189 ?_
        refine aw_iast C dX11_opens_33 (sA_72 S) hw.1 hw.2 (fun G3 hw => ?_)
        refine aw_iinc (w := (x2 + 1)) C dX11_opens_34 rfl rfl (by decide) rfl ?_
        refine aw_goto (tgt := 12) C dX11_opens_37 (by decide) ?_
        exact aw_msk [true, false, true] (ih (x2 + 1) _ hw)
  unfold w_X11_opens at hw
  show aw p l e { frames := 0, cells := 0, slots := 0, locals := 0 } s m args below meth c 3 D tA A (MQ below (QC0 D tA ad A sh (fun r G' => ∃ v, r = some (.int v) ∧ K v G')) args s 0 0 A) 0 0 ad 0 [some (.ref 46), some (.int p0), none] [] sh G0
  refine aw_aloadn C dX11_opens_0 rfl ?_
  refine aw_getR (r := 71) C dX11_opens_1 kcX11 (sA_46 S) 30 (by decide) rfl mF_X11_90 ?_
  refine aw_aloadn C dX11_opens_4 rfl ?_
  refine aw_getI C dX11_opens_5 kcX11 (sA_46 S) 29 (by decide) rfl mF_X11_186 ?_
  refine aw_iloadn C dX11_opens_8 rfl ?_
  refine aw_iast C dX11_opens_9 (sA_71 S) hw.1 hw.2 (fun G1 hw => ?_)
  refine aw_iconst (v := 0) C dX11_opens_10 (by decide) ?_
  refine aw_istoren C dX11_opens_11 (by decide) rfl ?_
  obtain ⟨n0, hw⟩ := hw
  exact aw_msk [true, false, true] (h12 n0 0 _ hw)
def w_X11_lays (K : Int32 → Gt → Prop) (p0 : Int32) (p1 : Int32) (p2 : Int32) (p3 : Int32) (G0 : Gt) : Prop :=
  vp_in (G0 46 21) 1220 ∧
  pt (gu G0 64 ((G0 46 21) : Int32).toNatClampNeg p0) fun G1 =>
  vp_in (G1 46 21) 1220 ∧
  pt (gu G1 65 ((G1 46 21) : Int32).toNatClampNeg p1) fun G2 =>
  vp_in (G2 46 21) 1220 ∧
  pt (gu G2 66 ((G2 46 21) : Int32).toNatClampNeg p2) fun G3 =>
  vp_in (G3 46 21) 1220 ∧
  pt (gu G3 67 ((G3 46 21) : Int32).toNatClampNeg p3) fun G4 =>
  pt (gu G4 46 21 ((G4 46 21) + 1)) fun G5 =>
  K ((G5 46 21) - 1) G5
set_option maxHeartbeats 4000000 in
set_option maxRecDepth 100000 in
theorem t_X11_lays {l : Launch} {sh : Sh} (S : shOK sh) (p0 : Int32) (p1 : Int32) (p2 : Int32) (p3 : Int32) (G0 : Gt) (K : Int32 → Gt → Prop) (hw : w_X11_lays K p0 p1 p2 p3 G0) : CT0 l yX11_lays cX11_lays 5 (some .int) 0 0 [.ref 46, .int p0, .int p1, .int p2, .int p3] sh G0 (fun r G' => ∃ v, r = some (.int v) ∧ K v G') := by
  refine CT0_of (by decide) (Nat.le_of_ble_eq_true rfl) rfl ?_
  intro p e s m args below meth c D tA ad A C hr _
  unfold w_X11_lays at hw
  show aw p l e { frames := 0, cells := 0, slots := 0, locals := 0 } s m args below meth c 5 D tA A (MQ below (QC0 D tA ad A sh (fun r G' => ∃ v, r = some (.int v) ∧ K v G')) args s 0 0 A) 0 0 ad 0 [some (.ref 46), some (.int p0), some (.int p1), some (.int p2), some (.int p3)] [] sh G0
  refine aw_aloadn C dX11_lays_0 rfl ?_
  refine aw_getR (r := 64) C dX11_lays_1 kcX11 (sA_46 S) 22 (by decide) rfl mF_X11_69 ?_
  refine aw_aloadn C dX11_lays_4 rfl ?_
  refine aw_getI C dX11_lays_5 kcX11 (sA_46 S) 21 (by decide) rfl mF_X11_190 ?_
  refine aw_iloadn C dX11_lays_8 rfl ?_
  refine aw_iast C dX11_lays_9 (sA_64 S) hw.1 hw.2 (fun G1 hw => ?_)
  refine aw_aloadn C dX11_lays_10 rfl ?_
  refine aw_getR (r := 65) C dX11_lays_11 kcX11 (sA_46 S) 23 (by decide) rfl mF_X11_72 ?_
  refine aw_aloadn C dX11_lays_14 rfl ?_
  refine aw_getI C dX11_lays_15 kcX11 (sA_46 S) 21 (by decide) rfl mF_X11_190 ?_
  refine aw_iloadn C dX11_lays_18 rfl ?_
  refine aw_iast C dX11_lays_19 (sA_65 S) hw.1 hw.2 (fun G2 hw => ?_)
  refine aw_aloadn C dX11_lays_20 rfl ?_
  refine aw_getR (r := 66) C dX11_lays_21 kcX11 (sA_46 S) 24 (by decide) rfl mF_X11_75 ?_
  refine aw_aloadn C dX11_lays_24 rfl ?_
  refine aw_getI C dX11_lays_25 kcX11 (sA_46 S) 21 (by decide) rfl mF_X11_190 ?_
  refine aw_iloadn C dX11_lays_28 rfl ?_
  refine aw_iast C dX11_lays_29 (sA_66 S) hw.1 hw.2 (fun G3 hw => ?_)
  refine aw_aloadn C dX11_lays_30 rfl ?_
  refine aw_getR (r := 67) C dX11_lays_31 kcX11 (sA_46 S) 25 (by decide) rfl mF_X11_78 ?_
  refine aw_aloadn C dX11_lays_34 rfl ?_
  refine aw_getI C dX11_lays_35 kcX11 (sA_46 S) 21 (by decide) rfl mF_X11_190 ?_
  refine aw_iload C dX11_lays_38 rfl ?_
  refine aw_iast C dX11_lays_40 (sA_67 S) hw.1 hw.2 (fun G4 hw => ?_)
  refine aw_aloadn C dX11_lays_41 rfl ?_
  refine aw_dup C dX11_lays_42 rfl ?_
  refine aw_getI C dX11_lays_43 kcX11 (sA_46 S) 21 (by decide) rfl mF_X11_190 ?_
  refine aw_iconst (v := 1) C dX11_lays_46 (by decide) ?_
  refine aw_iadd C dX11_lays_47 ?_
  refine aw_putI C dX11_lays_48 kcX11 (sA_46 S) 21 (by decide) rfl mF_X11_190 rfl rfl rfl hw (fun G5 hw => ?_)
  refine aw_aloadn C dX11_lays_51 rfl ?_
  refine aw_getI C dX11_lays_52 kcX11 (sA_46 S) 21 (by decide) rfl mF_X11_190 ?_
  refine aw_iconst (v := 1) C dX11_lays_55 (by decide) ?_
  refine aw_isub C dX11_lays_56 ?_
  exact aw_ireturn C hr dX11_lays_57 ⟨_, rfl, hw⟩
def w_X11_asks (K : Gt → Prop) (p0 : Int32) (p1 : Int32) (p2 : Int32) (G0 : Gt) : Prop :=
  pt (gu G0 46 54 p0) fun G1 =>
  pt (gu G1 46 56 p1) fun G2 =>
  pt (gu G2 46 55 p2) fun G3 =>
  pt (gu G3 46 41 0) fun G4 =>
  K G4
set_option maxHeartbeats 4000000 in
set_option maxRecDepth 100000 in
theorem t_X11_asks {l : Launch} {sh : Sh} (S : shOK sh) (p0 : Int32) (p1 : Int32) (p2 : Int32) (G0 : Gt) (K : Gt → Prop) (hw : w_X11_asks K p0 p1 p2 G0) : CT0 l yX11_asks cX11_asks 4 none 0 0 [.ref 46, .int p0, .int p1, .int p2] sh G0 (fun r G' => r = none ∧ K G') := by
  refine CT0_of (by decide) (Nat.le_of_ble_eq_true rfl) rfl ?_
  intro p e s m args below meth c D tA ad A C hr _
  unfold w_X11_asks at hw
  show aw p l e { frames := 0, cells := 0, slots := 0, locals := 0 } s m args below meth c 4 D tA A (MQ below (QC0 D tA ad A sh (fun r G' => r = none ∧ K G')) args s 0 0 A) 0 0 ad 0 [some (.ref 46), some (.int p0), some (.int p1), some (.int p2)] [] sh G0
  refine aw_aloadn C dX11_asks_0 rfl ?_
  refine aw_iloadn C dX11_asks_1 rfl ?_
  refine aw_putI C dX11_asks_2 kcX11 (sA_46 S) 54 (by decide) rfl mF_X11_193 rfl rfl rfl hw (fun G1 hw => ?_)
  refine aw_aloadn C dX11_asks_5 rfl ?_
  refine aw_iloadn C dX11_asks_6 rfl ?_
  refine aw_putI C dX11_asks_7 kcX11 (sA_46 S) 56 (by decide) rfl mF_X11_196 rfl rfl rfl hw (fun G2 hw => ?_)
  refine aw_aloadn C dX11_asks_10 rfl ?_
  refine aw_iloadn C dX11_asks_11 rfl ?_
  refine aw_putI C dX11_asks_12 kcX11 (sA_46 S) 55 (by decide) rfl mF_X11_199 rfl rfl rfl hw (fun G3 hw => ?_)
  refine aw_aloadn C dX11_asks_15 rfl ?_
  refine aw_iconst (v := 0) C dX11_asks_16 (by decide) ?_
  refine aw_putI C dX11_asks_17 kcX11 (sA_46 S) 41 (by decide) rfl mF_X11_202 rfl rfl rfl hw (fun G4 hw => ?_)
  exact aw_return C hr dX11_asks_20 ⟨rfl, hw⟩
def w_X11_restores_h128 (K : Gt → Prop) : Nat → Int32 → Gt → Prop
  | 0, _, _ => False
  | n + 1, x1, G0 =>
    pif (6 ≤ x1) (
      vp_in 102 112 ∧
      pt (gu G0 46 12 (G0 62 (102 : Int32).toNatClampNeg)) fun G1 =>
      vp_in 103 112 ∧
      pt (gu G1 46 14 (G1 62 (103 : Int32).toNatClampNeg)) fun G2 =>
      K G2) (
      vp_in (96 + x1) 112 ∧
      vp_in x1 6 ∧
      pt (gu G0 54 (x1 : Int32).toNatClampNeg (G0 62 ((96 + x1) : Int32).toNatClampNeg)) fun G3 =>
      (w_X11_restores_h128 K n) (x1 + 1) G3)
def w_X11_restores_h100 (K : Gt → Prop) : Nat → Int32 → Gt → Prop
  | 0, _, _ => False
  | n + 1, x1, G0 =>
    pif (4 ≤ x1) (
      ∃ i, w_X11_restores_h128 K i 0 G0) (
      vp_in (92 + x1) 112 ∧
      vp_in x1 4 ∧
      pt (gu G0 56 (x1 : Int32).toNatClampNeg (G0 62 ((92 + x1) : Int32).toNatClampNeg)) fun G4 =>
      (w_X11_restores_h100 K n) (x1 + 1) G4)
def w_X11_restores_h71 (K : Gt → Prop) : Nat → Int32 → Gt → Prop
  | 0, _, _ => False
  | n + 1, x1, G0 =>
    pif (8 ≤ x1) (
      ∃ i, w_X11_restores_h100 K i 0 G0) (
      vp_in (82 + x1) 112 ∧
      vp_in x1 8 ∧
      pt (gu G0 60 (x1 : Int32).toNatClampNeg (G0 62 ((82 + x1) : Int32).toNatClampNeg)) fun G5 =>
      (w_X11_restores_h71 K n) (x1 + 1) G5)
def w_X11_restores_h28 (K : Gt → Prop) : Nat → Int32 → Gt → Prop
  | 0, _, _ => False
  | n + 1, x1, G0 =>
    pif (2 ≤ x1) (
      ∃ i, w_X11_restores_h71 K i 0 G0) (
      vp_in (80 + x1) 112 ∧
      vp_in x1 2 ∧
      pt (gu G0 59 (x1 : Int32).toNatClampNeg (G0 62 ((80 + x1) : Int32).toNatClampNeg)) fun G6 =>
      vp_in (90 + x1) 112 ∧
      vp_in x1 2 ∧
      pt (gu G6 61 (x1 : Int32).toNatClampNeg (G6 62 ((90 + x1) : Int32).toNatClampNeg)) fun G7 =>
      (w_X11_restores_h28 K n) (x1 + 1) G7)
def w_X11_restores_h2 (K : Gt → Prop) : Nat → Int32 → Gt → Prop
  | 0, _, _ => False
  | n + 1, x1, G0 =>
    pif (80 ≤ x1) (
      ∃ i, w_X11_restores_h28 K i 0 G0) (
      vp_in x1 112 ∧
      vp_in x1 80 ∧
      pt (gu G0 58 (x1 : Int32).toNatClampNeg (G0 62 (x1 : Int32).toNatClampNeg)) fun G8 =>
      (w_X11_restores_h2 K n) (x1 + 1) G8)
def w_X11_restores (K : Gt → Prop) (G0 : Gt) : Prop :=
  ∃ i, w_X11_restores_h2 K i 0 G0
set_option maxHeartbeats 4000000 in
set_option maxRecDepth 100000 in
theorem t_X11_restores {l : Launch} {sh : Sh} (S : shOK sh) (G0 : Gt) (K : Gt → Prop) (hw : w_X11_restores K G0) : CT0 l yX11_restores cX11_restores 2 none 0 0 [.ref 46] sh G0 (fun r G' => r = none ∧ K G') := by
  refine CT0_of (by decide) (Nat.le_of_ble_eq_true rfl) rfl ?_
  intro p e s m args below meth c D tA ad A C hr _
  have h128 : ∀ (n : Nat) (x1 : Int32) (G0 : Gt), w_X11_restores_h128 K n x1 G0 → aw p l e { frames := 0, cells := 0, slots := 0, locals := 0 } s m args below meth c 2 D tA A (MQ below (QC0 D tA ad A sh (fun r G' => r = none ∧ K G')) args s 0 0 A) 0 0 ad 128 [some (.ref 46), some (.int x1)] [] sh G0 := by
    intro  n
    induction n with
    | zero => intro x1 G0 hw; exact hw.elim
    | succ n ih =>
      intro x1 G0 hw
      rw [w_X11_restores_h128] at hw
      refine aw_iloadn C dX11_restores_128 rfl ?_
      refine aw_bipush (v := 6) C dX11_restores_129 (by decide) ?_
      refine aw_ic_ge C dX11_restores_131 155 (by decide) hw (fun hc131 hw => ?_) (fun hc131 hw => ?_)
      · refine aw_aloadn C dX11_restores_155 rfl ?_
        refine aw_aloadn C dX11_restores_156 rfl ?_
        refine aw_getR (r := 62) C dX11_restores_157 kcX11 (sA_46 S) 19 (by decide) rfl mF_X11_63 ?_
        refine aw_bipush (v := 102) C dX11_restores_160 (by decide) ?_
        refine aw_iald C dX11_restores_162 (sA_62 S) hw.1 ?_
        replace hw := hw.2
        refine aw_putI C dX11_restores_163 kcX11 (sA_46 S) 12 (by decide) rfl mF_X11_44 rfl rfl rfl hw (fun G1 hw => ?_)
        refine aw_aloadn C dX11_restores_166 rfl ?_
        refine aw_aloadn C dX11_restores_167 rfl ?_
        refine aw_getR (r := 62) C dX11_restores_168 kcX11 (sA_46 S) 19 (by decide) rfl mF_X11_63 ?_
        refine aw_bipush (v := 103) C dX11_restores_171 (by decide) ?_
        refine aw_iald C dX11_restores_173 (sA_62 S) hw.1 ?_
        replace hw := hw.2
        refine aw_putI C dX11_restores_174 kcX11 (sA_46 S) 14 (by decide) rfl mF_X11_180 rfl rfl rfl hw (fun G2 hw => ?_)
        exact aw_return C hr dX11_restores_177 ⟨rfl, hw⟩
      · refine aw_aloadn C dX11_restores_134 rfl ?_
        refine aw_getR (r := 54) C dX11_restores_135 kcX11 (sA_46 S) 8 (by decide) rfl mF_X11_32 ?_
        refine aw_iloadn C dX11_restores_138 rfl ?_
        refine aw_aloadn C dX11_restores_139 rfl ?_
        refine aw_getR (r := 62) C dX11_restores_140 kcX11 (sA_46 S) 19 (by decide) rfl mF_X11_63 ?_
        refine aw_bipush (v := 96) C dX11_restores_143 (by decide) ?_
        refine aw_iloadn C dX11_restores_145 rfl ?_
        refine aw_iadd C dX11_restores_146 ?_
        refine aw_iald C dX11_restores_147 (sA_62 S) hw.1 ?_
        replace hw := hw.2
        refine aw_iast C dX11_restores_148 (sA_54 S) hw.1 hw.2 (fun G3 hw => ?_)
        refine aw_iinc (w := (x1 + 1)) C dX11_restores_149 rfl rfl (by decide) rfl ?_
        refine aw_goto (tgt := 128) C dX11_restores_152 (by decide) ?_
        exact aw_msk [true, true] (ih (x1 + 1) _ hw)
  have h100 : ∀ (n : Nat) (x1 : Int32) (G0 : Gt), w_X11_restores_h100 K n x1 G0 → aw p l e { frames := 0, cells := 0, slots := 0, locals := 0 } s m args below meth c 2 D tA A (MQ below (QC0 D tA ad A sh (fun r G' => r = none ∧ K G')) args s 0 0 A) 0 0 ad 100 [some (.ref 46), some (.int x1)] [] sh G0 := by
    intro  n
    induction n with
    | zero => intro x1 G0 hw; exact hw.elim
    | succ n ih =>
      intro x1 G0 hw
      rw [w_X11_restores_h100] at hw
      refine aw_iloadn C dX11_restores_100 rfl ?_
      refine aw_iconst (v := 4) C dX11_restores_101 (by decide) ?_
      refine aw_ic_ge C dX11_restores_102 126 (by decide) hw (fun hc102 hw => ?_) (fun hc102 hw => ?_)
      · refine aw_iconst (v := 0) C dX11_restores_126 (by decide) ?_
        refine aw_istoren C dX11_restores_127 (by decide) rfl ?_
        obtain ⟨n0, hw⟩ := hw
        exact aw_msk [true, true] (h128 n0 0 _ hw)
      · refine aw_aloadn C dX11_restores_105 rfl ?_
        refine aw_getR (r := 56) C dX11_restores_106 kcX11 (sA_46 S) 10 (by decide) rfl mF_X11_38 ?_
        refine aw_iloadn C dX11_restores_109 rfl ?_
        refine aw_aloadn C dX11_restores_110 rfl ?_
        refine aw_getR (r := 62) C dX11_restores_111 kcX11 (sA_46 S) 19 (by decide) rfl mF_X11_63 ?_
        refine aw_bipush (v := 92) C dX11_restores_114 (by decide) ?_
        refine aw_iloadn C dX11_restores_116 rfl ?_
        refine aw_iadd C dX11_restores_117 ?_
        refine aw_iald C dX11_restores_118 (sA_62 S) hw.1 ?_
        replace hw := hw.2
        refine aw_iast C dX11_restores_119 (sA_56 S) hw.1 hw.2 (fun G4 hw => ?_)
        refine aw_iinc (w := (x1 + 1)) C dX11_restores_120 rfl rfl (by decide) rfl ?_
        refine aw_goto (tgt := 100) C dX11_restores_123 (by decide) ?_
        exact aw_msk [true, true] (ih (x1 + 1) _ hw)
  have h71 : ∀ (n : Nat) (x1 : Int32) (G0 : Gt), w_X11_restores_h71 K n x1 G0 → aw p l e { frames := 0, cells := 0, slots := 0, locals := 0 } s m args below meth c 2 D tA A (MQ below (QC0 D tA ad A sh (fun r G' => r = none ∧ K G')) args s 0 0 A) 0 0 ad 71 [some (.ref 46), some (.int x1)] [] sh G0 := by
    intro  n
    induction n with
    | zero => intro x1 G0 hw; exact hw.elim
    | succ n ih =>
      intro x1 G0 hw
      rw [w_X11_restores_h71] at hw
      refine aw_iloadn C dX11_restores_71 rfl ?_
      refine aw_bipush (v := 8) C dX11_restores_72 (by decide) ?_
      refine aw_ic_ge C dX11_restores_74 98 (by decide) hw (fun hc74 hw => ?_) (fun hc74 hw => ?_)
      · refine aw_iconst (v := 0) C dX11_restores_98 (by decide) ?_
        refine aw_istoren C dX11_restores_99 (by decide) rfl ?_
        obtain ⟨n0, hw⟩ := hw
        exact aw_msk [true, true] (h100 n0 0 _ hw)
      · refine aw_aloadn C dX11_restores_77 rfl ?_
        refine aw_getR (r := 60) C dX11_restores_78 kcX11 (sA_46 S) 17 (by decide) rfl mF_X11_57 ?_
        refine aw_iloadn C dX11_restores_81 rfl ?_
        refine aw_aloadn C dX11_restores_82 rfl ?_
        refine aw_getR (r := 62) C dX11_restores_83 kcX11 (sA_46 S) 19 (by decide) rfl mF_X11_63 ?_
        refine aw_bipush (v := 82) C dX11_restores_86 (by decide) ?_
        refine aw_iloadn C dX11_restores_88 rfl ?_
        refine aw_iadd C dX11_restores_89 ?_
        refine aw_iald C dX11_restores_90 (sA_62 S) hw.1 ?_
        replace hw := hw.2
        refine aw_iast C dX11_restores_91 (sA_60 S) hw.1 hw.2 (fun G5 hw => ?_)
        refine aw_iinc (w := (x1 + 1)) C dX11_restores_92 rfl rfl (by decide) rfl ?_
        refine aw_goto (tgt := 71) C dX11_restores_95 (by decide) ?_
        exact aw_msk [true, true] (ih (x1 + 1) _ hw)
  have h28 : ∀ (n : Nat) (x1 : Int32) (G0 : Gt), w_X11_restores_h28 K n x1 G0 → aw p l e { frames := 0, cells := 0, slots := 0, locals := 0 } s m args below meth c 2 D tA A (MQ below (QC0 D tA ad A sh (fun r G' => r = none ∧ K G')) args s 0 0 A) 0 0 ad 28 [some (.ref 46), some (.int x1)] [] sh G0 := by
    intro  n
    induction n with
    | zero => intro x1 G0 hw; exact hw.elim
    | succ n ih =>
      intro x1 G0 hw
      rw [w_X11_restores_h28] at hw
      refine aw_iloadn C dX11_restores_28 rfl ?_
      refine aw_iconst (v := 2) C dX11_restores_29 (by decide) ?_
      refine aw_ic_ge C dX11_restores_30 69 (by decide) hw (fun hc30 hw => ?_) (fun hc30 hw => ?_)
      · refine aw_iconst (v := 0) C dX11_restores_69 (by decide) ?_
        refine aw_istoren C dX11_restores_70 (by decide) rfl ?_
        obtain ⟨n0, hw⟩ := hw
        exact aw_msk [true, true] (h71 n0 0 _ hw)
      · refine aw_aloadn C dX11_restores_33 rfl ?_
        refine aw_getR (r := 59) C dX11_restores_34 kcX11 (sA_46 S) 16 (by decide) rfl mF_X11_54 ?_
        refine aw_iloadn C dX11_restores_37 rfl ?_
        refine aw_aloadn C dX11_restores_38 rfl ?_
        refine aw_getR (r := 62) C dX11_restores_39 kcX11 (sA_46 S) 19 (by decide) rfl mF_X11_63 ?_
        refine aw_bipush (v := 80) C dX11_restores_42 (by decide) ?_
        refine aw_iloadn C dX11_restores_44 rfl ?_
        refine aw_iadd C dX11_restores_45 ?_
        refine aw_iald C dX11_restores_46 (sA_62 S) hw.1 ?_
        replace hw := hw.2
        refine aw_iast C dX11_restores_47 (sA_59 S) hw.1 hw.2 (fun G6 hw => ?_)
        refine aw_aloadn C dX11_restores_48 rfl ?_
        refine aw_getR (r := 61) C dX11_restores_49 kcX11 (sA_46 S) 18 (by decide) rfl mF_X11_60 ?_
        refine aw_iloadn C dX11_restores_52 rfl ?_
        refine aw_aloadn C dX11_restores_53 rfl ?_
        refine aw_getR (r := 62) C dX11_restores_54 kcX11 (sA_46 S) 19 (by decide) rfl mF_X11_63 ?_
        refine aw_bipush (v := 90) C dX11_restores_57 (by decide) ?_
        refine aw_iloadn C dX11_restores_59 rfl ?_
        refine aw_iadd C dX11_restores_60 ?_
        refine aw_iald C dX11_restores_61 (sA_62 S) hw.1 ?_
        replace hw := hw.2
        refine aw_iast C dX11_restores_62 (sA_61 S) hw.1 hw.2 (fun G7 hw => ?_)
        refine aw_iinc (w := (x1 + 1)) C dX11_restores_63 rfl rfl (by decide) rfl ?_
        refine aw_goto (tgt := 28) C dX11_restores_66 (by decide) ?_
        exact aw_msk [true, true] (ih (x1 + 1) _ hw)
  have h2 : ∀ (n : Nat) (x1 : Int32) (G0 : Gt), w_X11_restores_h2 K n x1 G0 → aw p l e { frames := 0, cells := 0, slots := 0, locals := 0 } s m args below meth c 2 D tA A (MQ below (QC0 D tA ad A sh (fun r G' => r = none ∧ K G')) args s 0 0 A) 0 0 ad 2 [some (.ref 46), some (.int x1)] [] sh G0 := by
    intro  n
    induction n with
    | zero => intro x1 G0 hw; exact hw.elim
    | succ n ih =>
      intro x1 G0 hw
      rw [w_X11_restores_h2] at hw
      refine aw_iloadn C dX11_restores_2 rfl ?_
      refine aw_bipush (v := 80) C dX11_restores_3 (by decide) ?_
      refine aw_ic_ge C dX11_restores_5 26 (by decide) hw (fun hc5 hw => ?_) (fun hc5 hw => ?_)
      · refine aw_iconst (v := 0) C dX11_restores_26 (by decide) ?_
        refine aw_istoren C dX11_restores_27 (by decide) rfl ?_
        obtain ⟨n0, hw⟩ := hw
        exact aw_msk [true, true] (h28 n0 0 _ hw)
      · refine aw_aloadn C dX11_restores_8 rfl ?_
        refine aw_getR (r := 58) C dX11_restores_9 kcX11 (sA_46 S) 15 (by decide) rfl mF_X11_51 ?_
        refine aw_iloadn C dX11_restores_12 rfl ?_
        refine aw_aloadn C dX11_restores_13 rfl ?_
        refine aw_getR (r := 62) C dX11_restores_14 kcX11 (sA_46 S) 19 (by decide) rfl mF_X11_63 ?_
        refine aw_iloadn C dX11_restores_17 rfl ?_
        refine aw_iald C dX11_restores_18 (sA_62 S) hw.1 ?_
        replace hw := hw.2
        refine aw_iast C dX11_restores_19 (sA_58 S) hw.1 hw.2 (fun G8 hw => ?_)
        refine aw_iinc (w := (x1 + 1)) C dX11_restores_20 rfl rfl (by decide) rfl ?_
        refine aw_goto (tgt := 2) C dX11_restores_23 (by decide) ?_
        exact aw_msk [true, true] (ih (x1 + 1) _ hw)
  unfold w_X11_restores at hw
  show aw p l e { frames := 0, cells := 0, slots := 0, locals := 0 } s m args below meth c 2 D tA A (MQ below (QC0 D tA ad A sh (fun r G' => r = none ∧ K G')) args s 0 0 A) 0 0 ad 0 [some (.ref 46), none] [] sh G0
  refine aw_iconst (v := 0) C dX11_restores_0 (by decide) ?_
  refine aw_istoren C dX11_restores_1 (by decide) rfl ?_
  obtain ⟨n0, hw⟩ := hw
  exact aw_msk [true, true] (h2 n0 0 _ hw)
def w_X11_ends (K : Gt → Prop) (p0 : Int32) (p1 : Int32) (G0 : Gt) : Prop :=
  pt (gu G0 46 41 1) fun G1 =>
  pt (gu G1 46 42 p1) fun G2 =>
  vp_in p0 1220 ∧
  pt (gu G2 46 57 (G2 65 (p0 : Int32).toNatClampNeg)) fun G3 =>
  K G3
set_option maxHeartbeats 4000000 in
set_option maxRecDepth 100000 in
theorem t_X11_ends {l : Launch} {sh : Sh} (S : shOK sh) (p0 : Int32) (p1 : Int32) (G0 : Gt) (K : Gt → Prop) (hw : w_X11_ends K p0 p1 G0) : CT0 l yX11_ends cX11_ends 3 none 0 0 [.ref 46, .int p0, .int p1] sh G0 (fun r G' => r = none ∧ K G') := by
  refine CT0_of (by decide) (Nat.le_of_ble_eq_true rfl) rfl ?_
  intro p e s m args below meth c D tA ad A C hr _
  unfold w_X11_ends at hw
  show aw p l e { frames := 0, cells := 0, slots := 0, locals := 0 } s m args below meth c 3 D tA A (MQ below (QC0 D tA ad A sh (fun r G' => r = none ∧ K G')) args s 0 0 A) 0 0 ad 0 [some (.ref 46), some (.int p0), some (.int p1)] [] sh G0
  refine aw_aloadn C dX11_ends_0 rfl ?_
  refine aw_iconst (v := 1) C dX11_ends_1 (by decide) ?_
  refine aw_putI C dX11_ends_2 kcX11 (sA_46 S) 41 (by decide) rfl mF_X11_202 rfl rfl rfl hw (fun G1 hw => ?_)
  refine aw_aloadn C dX11_ends_5 rfl ?_
  refine aw_iloadn C dX11_ends_6 rfl ?_
  refine aw_putI C dX11_ends_7 kcX11 (sA_46 S) 42 (by decide) rfl mF_X11_209 rfl rfl rfl hw (fun G2 hw => ?_)
  refine aw_aloadn C dX11_ends_10 rfl ?_
  refine aw_aloadn C dX11_ends_11 rfl ?_
  refine aw_getR (r := 65) C dX11_ends_12 kcX11 (sA_46 S) 23 (by decide) rfl mF_X11_72 ?_
  refine aw_iloadn C dX11_ends_15 rfl ?_
  refine aw_iald C dX11_ends_16 (sA_65 S) hw.1 ?_
  replace hw := hw.2
  refine aw_putI C dX11_ends_17 kcX11 (sA_46 S) 57 (by decide) rfl mF_X11_212 rfl rfl rfl hw (fun G3 hw => ?_)
  exact aw_return C hr dX11_ends_20 ⟨rfl, hw⟩
def w_X11_cellOf_j48 (K : Int32 → Gt → Prop) (y0 : Int32) (G0 : Gt) : Prop :=
  K y0 G0
def w_X11_cellOf_j33 (K : Int32 → Gt → Prop) (x2 : Int32) (x3 : Int32) (G0 : Gt) : Prop :=
  pif (x3 = (-1)) (
    w_X11_cellOf_j48 K (-1) G0) (
    w_X11_cellOf_j48 K ((8 * x3) + x2) G0)
def w_X11_cellOf_h2 (K : Int32 → Gt → Prop) : Nat → Int32 → Int32 → Gt → Prop
  | 0, _, _, _ => False
  | n + 1, x2, x3, G0 =>
    pif (x3 = (-1)) (
      w_X11_cellOf_j33 K x2 x3 G0) (
      vp_in ((8 * x3) + x2) 4960 ∧
      pif ((G0 72 (((8 * x3) + x2) : Int32).toNatClampNeg) = (-100000)) (
        vp_in x3 620 ∧
        (w_X11_cellOf_h2 K n) x2 (G0 71 (x3 : Int32).toNatClampNeg) G0) (
        w_X11_cellOf_j33 K x2 x3 G0))
def w_X11_cellOf (K : Int32 → Gt → Prop) (p0 : Int32) (p1 : Int32) (G0 : Gt) : Prop :=
  ∃ i, w_X11_cellOf_h2 K i p1 p0 G0
set_option maxHeartbeats 4000000 in
set_option maxRecDepth 100000 in
theorem t_X11_cellOf {l : Launch} {sh : Sh} (S : shOK sh) (p0 : Int32) (p1 : Int32) (G0 : Gt) (K : Int32 → Gt → Prop) (hw : w_X11_cellOf K p0 p1 G0) : CT0 l yX11_cellOf cX11_cellOf 4 (some .int) 0 0 [.ref 46, .int p0, .int p1] sh G0 (fun r G' => ∃ v, r = some (.int v) ∧ K v G') := by
  refine CT0_of (by decide) (Nat.le_of_ble_eq_true rfl) rfl ?_
  intro p e s m args below meth c D tA ad A C hr _
  have h48 : ∀ (y0 : Int32) (G0 : Gt), w_X11_cellOf_j48 K y0 G0 → aw p l e { frames := 0, cells := 0, slots := 0, locals := 0 } s m args below meth c 4 D tA A (MQ below (QC0 D tA ad A sh (fun r G' => ∃ v, r = some (.int v) ∧ K v G')) args s 0 0 A) 0 0 ad 48 [none, none, none, none] [.int y0] sh G0 := by
    intro  y0 G0 hw
    unfold w_X11_cellOf_j48 at hw
    exact aw_ireturn C hr dX11_cellOf_48 ⟨_, rfl, hw⟩
  have h33 : ∀ (x2 : Int32) (x3 : Int32) (G0 : Gt), w_X11_cellOf_j33 K x2 x3 G0 → aw p l e { frames := 0, cells := 0, slots := 0, locals := 0 } s m args below meth c 4 D tA A (MQ below (QC0 D tA ad A sh (fun r G' => ∃ v, r = some (.int v) ∧ K v G')) args s 0 0 A) 0 0 ad 33 [none, none, some (.int x2), some (.int x3)] [] sh G0 := by
    intro  x2 x3 G0 hw
    unfold w_X11_cellOf_j33 at hw
    refine aw_iloadn C dX11_cellOf_33 rfl ?_
    refine aw_iconst (v := (-1)) C dX11_cellOf_34 (by decide) ?_
    refine aw_ic_ne C dX11_cellOf_35 42 (by decide) hw (fun hc35 hw => ?_) (fun hc35 hw => ?_)
    · refine aw_bipush (v := 8) C dX11_cellOf_42 (by decide) ?_
      refine aw_iloadn C dX11_cellOf_44 rfl ?_
      refine aw_imul C dX11_cellOf_45 ?_
      refine aw_iloadn C dX11_cellOf_46 rfl ?_
      refine aw_iadd C dX11_cellOf_47 ?_
      exact aw_msk [false, false, false, false] (h48 ((8 * x3) + x2) _ hw)
    · refine aw_iconst (v := (-1)) C dX11_cellOf_38 (by decide) ?_
      refine aw_goto (tgt := 48) C dX11_cellOf_39 (by decide) ?_
      exact aw_msk [false, false, false, false] (h48 (-1) _ hw)
  have h2 : ∀ (n : Nat) (x2 : Int32) (x3 : Int32) (G0 : Gt), w_X11_cellOf_h2 K n x2 x3 G0 → aw p l e { frames := 0, cells := 0, slots := 0, locals := 0 } s m args below meth c 4 D tA A (MQ below (QC0 D tA ad A sh (fun r G' => ∃ v, r = some (.int v) ∧ K v G')) args s 0 0 A) 0 0 ad 2 [some (.ref 46), none, some (.int x2), some (.int x3)] [] sh G0 := by
    intro  n
    induction n with
    | zero => intro x2 x3 G0 hw; exact hw.elim
    | succ n ih =>
      intro x2 x3 G0 hw
      rw [w_X11_cellOf_h2] at hw
      refine aw_iloadn C dX11_cellOf_2 rfl ?_
      refine aw_iconst (v := (-1)) C dX11_cellOf_3 (by decide) ?_
      refine aw_ic_eq C dX11_cellOf_4 33 (by decide) hw (fun hc4 hw => ?_) (fun hc4 hw => ?_)
      · exact aw_msk [false, false, true, true] (h33 x2 x3 _ hw)
      · refine aw_aloadn C dX11_cellOf_7 rfl ?_
        refine aw_getR (r := 72) C dX11_cellOf_8 kcX11 (sA_46 S) 31 (by decide) rfl mF_X11_93 ?_
        refine aw_bipush (v := 8) C dX11_cellOf_11 (by decide) ?_
        refine aw_iloadn C dX11_cellOf_13 rfl ?_
        refine aw_imul C dX11_cellOf_14 ?_
        refine aw_iloadn C dX11_cellOf_15 rfl ?_
        refine aw_iadd C dX11_cellOf_16 ?_
        refine aw_iald C dX11_cellOf_17 (sA_72 S) hw.1 ?_
        replace hw := hw.2
        refine aw_ldc (v := (-100000)) C dX11_cellOf_18 mK_X11_189 ?_
        refine aw_ic_ne C dX11_cellOf_20 33 (by decide) hw (fun hc20 hw => ?_) (fun hc20 hw => ?_)
        · exact aw_msk [false, false, true, true] (h33 x2 x3 _ hw)
        · refine aw_aloadn C dX11_cellOf_23 rfl ?_
          refine aw_getR (r := 71) C dX11_cellOf_24 kcX11 (sA_46 S) 30 (by decide) rfl mF_X11_90 ?_
          refine aw_iloadn C dX11_cellOf_27 rfl ?_
          refine aw_iald C dX11_cellOf_28 (sA_71 S) hw.1 ?_
          replace hw := hw.2
          refine aw_istoren C dX11_cellOf_29 (by decide) rfl ?_
          refine aw_goto (tgt := 2) C dX11_cellOf_30 (by decide) ?_
          exact aw_msk [true, false, true, true] (ih x2 (G0 71 (x3 : Int32).toNatClampNeg) _ hw)
  unfold w_X11_cellOf at hw
  show aw p l e { frames := 0, cells := 0, slots := 0, locals := 0 } s m args below meth c 4 D tA A (MQ below (QC0 D tA ad A sh (fun r G' => ∃ v, r = some (.int v) ∧ K v G')) args s 0 0 A) 0 0 ad 0 [some (.ref 46), some (.int p0), some (.int p1), none] [] sh G0
  refine aw_iloadn C dX11_cellOf_0 rfl ?_
  refine aw_istoren C dX11_cellOf_1 (by decide) rfl ?_
  obtain ⟨n0, hw⟩ := hw
  exact aw_msk [true, false, true, true] (h2 n0 p1 p0 _ hw)
def w_X11_fails (K : Gt → Prop) (p0 : Int32) (p1 : Int32) (G0 : Gt) : Prop :=
  pt (gu G0 46 41 2) fun G1 =>
  pt (gu G1 46 42 p1) fun G2 =>
  pt (gu G2 46 44 (-100000)) fun G3 =>
  vp_in p0 1220 ∧
  pt (gu G3 46 45 (G3 64 (p0 : Int32).toNatClampNeg)) fun G4 =>
  pt (gu G4 46 46 (G4 46 49)) fun G5 =>
  vp_in p0 1220 ∧
  pt (gu G5 46 57 (G5 65 (p0 : Int32).toNatClampNeg)) fun G6 =>
  K G6
set_option maxHeartbeats 4000000 in
set_option maxRecDepth 100000 in
theorem t_X11_fails {l : Launch} {sh : Sh} (S : shOK sh) (p0 : Int32) (p1 : Int32) (G0 : Gt) (K : Gt → Prop) (hw : w_X11_fails K p0 p1 G0) : CT0 l yX11_fails cX11_fails 3 none 0 0 [.ref 46, .int p0, .int p1] sh G0 (fun r G' => r = none ∧ K G') := by
  refine CT0_of (by decide) (Nat.le_of_ble_eq_true rfl) rfl ?_
  intro p e s m args below meth c D tA ad A C hr _
  unfold w_X11_fails at hw
  show aw p l e { frames := 0, cells := 0, slots := 0, locals := 0 } s m args below meth c 3 D tA A (MQ below (QC0 D tA ad A sh (fun r G' => r = none ∧ K G')) args s 0 0 A) 0 0 ad 0 [some (.ref 46), some (.int p0), some (.int p1)] [] sh G0
  refine aw_aloadn C dX11_fails_0 rfl ?_
  refine aw_iconst (v := 2) C dX11_fails_1 (by decide) ?_
  refine aw_putI C dX11_fails_2 kcX11 (sA_46 S) 41 (by decide) rfl mF_X11_202 rfl rfl rfl hw (fun G1 hw => ?_)
  refine aw_aloadn C dX11_fails_5 rfl ?_
  refine aw_iloadn C dX11_fails_6 rfl ?_
  refine aw_putI C dX11_fails_7 kcX11 (sA_46 S) 42 (by decide) rfl mF_X11_209 rfl rfl rfl hw (fun G2 hw => ?_)
  refine aw_aloadn C dX11_fails_10 rfl ?_
  refine aw_ldc (v := (-100000)) C dX11_fails_11 mK_X11_189 ?_
  refine aw_putI C dX11_fails_13 kcX11 (sA_46 S) 44 (by decide) rfl mF_X11_215 rfl rfl rfl hw (fun G3 hw => ?_)
  refine aw_aloadn C dX11_fails_16 rfl ?_
  refine aw_aloadn C dX11_fails_17 rfl ?_
  refine aw_getR (r := 64) C dX11_fails_18 kcX11 (sA_46 S) 22 (by decide) rfl mF_X11_69 ?_
  refine aw_iloadn C dX11_fails_21 rfl ?_
  refine aw_iald C dX11_fails_22 (sA_64 S) hw.1 ?_
  replace hw := hw.2
  refine aw_putI C dX11_fails_23 kcX11 (sA_46 S) 45 (by decide) rfl mF_X11_218 rfl rfl rfl hw (fun G4 hw => ?_)
  refine aw_aloadn C dX11_fails_26 rfl ?_
  refine aw_aloadn C dX11_fails_27 rfl ?_
  refine aw_getI C dX11_fails_28 kcX11 (sA_46 S) 49 (by decide) rfl mF_X11_221 ?_
  refine aw_putI C dX11_fails_31 kcX11 (sA_46 S) 46 (by decide) rfl mF_X11_224 rfl rfl rfl hw (fun G5 hw => ?_)
  refine aw_aloadn C dX11_fails_34 rfl ?_
  refine aw_aloadn C dX11_fails_35 rfl ?_
  refine aw_getR (r := 65) C dX11_fails_36 kcX11 (sA_46 S) 23 (by decide) rfl mF_X11_72 ?_
  refine aw_iloadn C dX11_fails_39 rfl ?_
  refine aw_iald C dX11_fails_40 (sA_65 S) hw.1 ?_
  replace hw := hw.2
  refine aw_putI C dX11_fails_41 kcX11 (sA_46 S) 57 (by decide) rfl mF_X11_212 rfl rfl rfl hw (fun G6 hw => ?_)
  exact aw_return C hr dX11_fails_44 ⟨rfl, hw⟩
def w_X11_parts (K : Gt → Prop) (p0 : Int32) (p1 : Int32) (p2 : Int32) (G0 : Gt) : Prop :=
  vp_in p1 1220 ∧
  pt (gu G0 67 (p1 : Int32).toNatClampNeg p2) fun G1 =>
  vp_in p1 1220 ∧
  w_X11_asks (fun G2 =>
    K G2) p0 p1 (G1 66 (p1 : Int32).toNatClampNeg) G1
set_option maxHeartbeats 4000000 in
set_option maxRecDepth 100000 in
theorem t_X11_parts {l : Launch} {sh : Sh} (S : shOK sh) (p0 : Int32) (p1 : Int32) (p2 : Int32) (G0 : Gt) (K : Gt → Prop) (hw : w_X11_parts K p0 p1 p2 G0) : CT0 l yX11_parts cX11_parts 4 none 1 23 [.ref 46, .int p0, .int p1, .int p2] sh G0 (fun r G' => r = none ∧ K G') := by
  refine CT0_of (by decide) (Nat.le_of_ble_eq_true rfl) rfl ?_
  intro p e s m args below meth c D tA ad A C hr _
  unfold w_X11_parts at hw
  show aw p l e { frames := 1, cells := 0, slots := 0, locals := 23 } s m args below meth c 4 D tA A (MQ below (QC0 D tA ad A sh (fun r G' => r = none ∧ K G')) args s 0 0 A) 0 0 ad 0 [some (.ref 46), some (.int p0), some (.int p1), some (.int p2)] [] sh G0
  refine aw_aloadn C dX11_parts_0 rfl ?_
  refine aw_getR (r := 67) C dX11_parts_1 kcX11 (sA_46 S) 25 (by decide) rfl mF_X11_78 ?_
  refine aw_iloadn C dX11_parts_4 rfl ?_
  refine aw_iloadn C dX11_parts_5 rfl ?_
  refine aw_iast C dX11_parts_6 (sA_67 S) hw.1 hw.2 (fun G1 hw => ?_)
  refine aw_aloadn C dX11_parts_7 rfl ?_
  refine aw_iloadn C dX11_parts_8 rfl ?_
  refine aw_iloadn C dX11_parts_9 rfl ?_
  refine aw_aloadn C dX11_parts_10 rfl ?_
  refine aw_getR (r := 66) C dX11_parts_11 kcX11 (sA_46 S) 24 (by decide) rfl mF_X11_75 ?_
  refine aw_iloadn C dX11_parts_14 rfl ?_
  refine aw_iald C dX11_parts_15 (sA_66 S) hw.1 ?_
  replace hw := hw.2
  refine aw_callV C dX11_parts_16 (t_X11_asks S p0 p1 (G1 66 (p1 : Int32).toNatClampNeg) _ _ hw) mM_X11_205 bX11_asks (sA_46 S) rfl rfl ⟨Nat.le_of_ble_eq_true rfl, Nat.le_of_ble_eq_true rfl, Nat.zero_le _, Nat.zero_le _⟩ _ rfl (Nat.le_of_ble_eq_true rfl) (fun r16 G2 hq => ?_)
  obtain ⟨rfl, hw⟩ := hq
  exact aw_return C hr dX11_parts_19 ⟨rfl, hw⟩
def w_X11_hasLoop_j73 (K : Int32 → Gt → Prop) (x4 : Int32) (G0 : Gt) : Prop :=
  bz x4 ∧ K x4 G0
def w_X11_hasLoop_j61 (K : Int32 → Gt → Prop) (rec10 : Int32 → Int32 → Int32 → Gt → Prop) (x2 : Int32) (x3 : Int32) (y0 : Int32) (G0 : Gt) : Prop :=
  vp_in x3 1220 ∧
  rec10 x2 (G0 65 (x3 : Int32).toNatClampNeg) y0 G0
def w_X11_hasLoop_j60 (K : Int32 → Gt → Prop) (rec10 : Int32 → Int32 → Int32 → Gt → Prop) (x2 : Int32) (x3 : Int32) (G0 : Gt) : Prop :=
  w_X11_hasLoop_j61 K rec10 x2 x3 0 G0
def w_X11_hasLoop_h10 (K : Int32 → Gt → Prop) : Nat → Int32 → Int32 → Int32 → Gt → Prop
  | 0, _, _, _, _ => False
  | n + 1, x2, x3, x4, G0 =>
    vp_in x3 1220 ∧
    pif ((G0 64 (x3 : Int32).toNatClampNeg) = (-1)) (
      w_X11_hasLoop_j73 K x4 G0) (
      pif (x4 = 0) (
        vp_in x3 1220 ∧
        vp_in (G0 64 (x3 : Int32).toNatClampNeg) 120 ∧
        pif ((G0 47 ((G0 64 (x3 : Int32).toNatClampNeg) : Int32).toNatClampNeg) = 13) (
          vp_in x3 1220 ∧
          vp_in (G0 64 (x3 : Int32).toNatClampNeg) 120 ∧
          pif ((G0 48 ((G0 64 (x3 : Int32).toNatClampNeg) : Int32).toNatClampNeg) = x2) (
            w_X11_hasLoop_j61 K (fun z0 z1 z2 z3 => w_X11_hasLoop_h10 K n z0 z1 z2 z3) x2 x3 1 G0) (
            w_X11_hasLoop_j60 K (fun z0 z1 z2 z3 => w_X11_hasLoop_h10 K n z0 z1 z2 z3) x2 x3 G0)) (
          w_X11_hasLoop_j60 K (fun z0 z1 z2 z3 => w_X11_hasLoop_h10 K n z0 z1 z2 z3) x2 x3 G0)) (
        w_X11_hasLoop_j73 K x4 G0))
def w_X11_hasLoop (K : Int32 → Gt → Prop) (p0 : Int32) (p1 : Int32) (G0 : Gt) : Prop :=
  vp_in p0 1220 ∧
  ∃ i, w_X11_hasLoop_h10 K i p1 (G0 65 (p0 : Int32).toNatClampNeg) 0 G0
set_option maxHeartbeats 4000000 in
set_option maxRecDepth 100000 in
theorem t_X11_hasLoop {l : Launch} {sh : Sh} (S : shOK sh) (p0 : Int32) (p1 : Int32) (G0 : Gt) (K : Int32 → Gt → Prop) (hw : w_X11_hasLoop K p0 p1 G0) : CT0 l yX11_hasLoop cX11_hasLoop 5 (some .boolean) 0 0 [.ref 46, .int p0, .int p1] sh G0 (fun r G' => ∃ v, r = some (.int v) ∧ K v G') := by
  refine CT0_of (by decide) (Nat.le_of_ble_eq_true rfl) rfl ?_
  intro p e s m args below meth c D tA ad A C hr _
  have h73 : ∀ (x4 : Int32) (G0 : Gt), w_X11_hasLoop_j73 K x4 G0 → aw p l e { frames := 0, cells := 0, slots := 0, locals := 0 } s m args below meth c 5 D tA A (MQ below (QC0 D tA ad A sh (fun r G' => ∃ v, r = some (.int v) ∧ K v G')) args s 0 0 A) 0 0 ad 73 [none, none, none, none, some (.int x4)] [] sh G0 := by
    intro  x4 G0 hw
    unfold w_X11_hasLoop_j73 at hw
    refine aw_iload C dX11_hasLoop_73 rfl ?_
    exact aw_zreturn C hr dX11_hasLoop_75 (bz_n hw.1) ⟨_, rfl, hw.2⟩
  have h61 : ∀ (rec10 : Int32 → Int32 → Int32 → Gt → Prop) (hrec10 : ∀ (x2 : Int32) (x3 : Int32) (x4 : Int32) (G0 : Gt), rec10 x2 x3 x4 G0 → aw p l e { frames := 0, cells := 0, slots := 0, locals := 0 } s m args below meth c 5 D tA A (MQ below (QC0 D tA ad A sh (fun r G' => ∃ v, r = some (.int v) ∧ K v G')) args s 0 0 A) 0 0 ad 10 [some (.ref 46), none, some (.int x2), some (.int x3), some (.int x4)] [] sh G0) (x2 : Int32) (x3 : Int32) (y0 : Int32) (G0 : Gt), w_X11_hasLoop_j61 K rec10 x2 x3 y0 G0 → aw p l e { frames := 0, cells := 0, slots := 0, locals := 0 } s m args below meth c 5 D tA A (MQ below (QC0 D tA ad A sh (fun r G' => ∃ v, r = some (.int v) ∧ K v G')) args s 0 0 A) 0 0 ad 61 [some (.ref 46), none, some (.int x2), some (.int x3), none] [.int y0] sh G0 := by
    intro rec10 hrec10 x2 x3 y0 G0 hw
    unfold w_X11_hasLoop_j61 at hw
    refine aw_istore C dX11_hasLoop_61 (by decide) rfl ?_
    refine aw_aloadn C dX11_hasLoop_63 rfl ?_
    refine aw_getR (r := 65) C dX11_hasLoop_64 kcX11 (sA_46 S) 23 (by decide) rfl mF_X11_72 ?_
    refine aw_iloadn C dX11_hasLoop_67 rfl ?_
    refine aw_iald C dX11_hasLoop_68 (sA_65 S) hw.1 ?_
    replace hw := hw.2
    refine aw_istoren C dX11_hasLoop_69 (by decide) rfl ?_
    refine aw_goto (tgt := 10) C dX11_hasLoop_70 (by decide) ?_
    exact aw_msk [true, false, true, true, true] (hrec10 x2 (G0 65 (x3 : Int32).toNatClampNeg) y0 _ hw)
  have h60 : ∀ (rec10 : Int32 → Int32 → Int32 → Gt → Prop) (hrec10 : ∀ (x2 : Int32) (x3 : Int32) (x4 : Int32) (G0 : Gt), rec10 x2 x3 x4 G0 → aw p l e { frames := 0, cells := 0, slots := 0, locals := 0 } s m args below meth c 5 D tA A (MQ below (QC0 D tA ad A sh (fun r G' => ∃ v, r = some (.int v) ∧ K v G')) args s 0 0 A) 0 0 ad 10 [some (.ref 46), none, some (.int x2), some (.int x3), some (.int x4)] [] sh G0) (x2 : Int32) (x3 : Int32) (G0 : Gt), w_X11_hasLoop_j60 K rec10 x2 x3 G0 → aw p l e { frames := 0, cells := 0, slots := 0, locals := 0 } s m args below meth c 5 D tA A (MQ below (QC0 D tA ad A sh (fun r G' => ∃ v, r = some (.int v) ∧ K v G')) args s 0 0 A) 0 0 ad 60 [some (.ref 46), none, some (.int x2), some (.int x3), none] [] sh G0 := by
    intro rec10 hrec10 x2 x3 G0 hw
    unfold w_X11_hasLoop_j60 at hw
    refine aw_iconst (v := 0) C dX11_hasLoop_60 (by decide) ?_
    exact aw_msk [true, false, true, true, false] (h61 _ hrec10 x2 x3 0 _ hw)
  have h10 : ∀ (n : Nat) (x2 : Int32) (x3 : Int32) (x4 : Int32) (G0 : Gt), w_X11_hasLoop_h10 K n x2 x3 x4 G0 → aw p l e { frames := 0, cells := 0, slots := 0, locals := 0 } s m args below meth c 5 D tA A (MQ below (QC0 D tA ad A sh (fun r G' => ∃ v, r = some (.int v) ∧ K v G')) args s 0 0 A) 0 0 ad 10 [some (.ref 46), none, some (.int x2), some (.int x3), some (.int x4)] [] sh G0 := by
    intro  n
    induction n with
    | zero => intro x2 x3 x4 G0 hw; exact hw.elim
    | succ n ih =>
      intro x2 x3 x4 G0 hw
      rw [w_X11_hasLoop_h10] at hw
      refine aw_aloadn C dX11_hasLoop_10 rfl ?_
      refine aw_getR (r := 64) C dX11_hasLoop_11 kcX11 (sA_46 S) 22 (by decide) rfl mF_X11_69 ?_
      refine aw_iloadn C dX11_hasLoop_14 rfl ?_
      refine aw_iald C dX11_hasLoop_15 (sA_64 S) hw.1 ?_
      replace hw := hw.2
      refine aw_iconst (v := (-1)) C dX11_hasLoop_16 (by decide) ?_
      refine aw_ic_eq C dX11_hasLoop_17 73 (by decide) hw (fun hc17 hw => ?_) (fun hc17 hw => ?_)
      · exact aw_msk [false, false, false, false, true] (h73 x4 _ hw)
      · refine aw_iload C dX11_hasLoop_20 rfl ?_
        refine aw_if_ne C dX11_hasLoop_22 73 (by decide) hw (fun hc22 hw => ?_) (fun hc22 hw => ?_)
        · exact aw_msk [false, false, false, false, true] (h73 x4 _ hw)
        · refine aw_aloadn C dX11_hasLoop_25 rfl ?_
          refine aw_getR (r := 47) C dX11_hasLoop_26 kcX11 (sA_46 S) 1 (by decide) rfl mF_X11_7 ?_
          refine aw_aloadn C dX11_hasLoop_29 rfl ?_
          refine aw_getR (r := 64) C dX11_hasLoop_30 kcX11 (sA_46 S) 22 (by decide) rfl mF_X11_69 ?_
          refine aw_iloadn C dX11_hasLoop_33 rfl ?_
          refine aw_iald C dX11_hasLoop_34 (sA_64 S) hw.1 ?_
          replace hw := hw.2
          refine aw_iald C dX11_hasLoop_35 (sA_47 S) hw.1 ?_
          replace hw := hw.2
          refine aw_bipush (v := 13) C dX11_hasLoop_36 (by decide) ?_
          refine aw_ic_ne C dX11_hasLoop_38 60 (by decide) hw (fun hc38 hw => ?_) (fun hc38 hw => ?_)
          · exact aw_msk [true, false, true, true, false] (h60 _ ih x2 x3 _ hw)
          · refine aw_aloadn C dX11_hasLoop_41 rfl ?_
            refine aw_getR (r := 48) C dX11_hasLoop_42 kcX11 (sA_46 S) 2 (by decide) rfl mF_X11_13 ?_
            refine aw_aloadn C dX11_hasLoop_45 rfl ?_
            refine aw_getR (r := 64) C dX11_hasLoop_46 kcX11 (sA_46 S) 22 (by decide) rfl mF_X11_69 ?_
            refine aw_iloadn C dX11_hasLoop_49 rfl ?_
            refine aw_iald C dX11_hasLoop_50 (sA_64 S) hw.1 ?_
            replace hw := hw.2
            refine aw_iald C dX11_hasLoop_51 (sA_48 S) hw.1 ?_
            replace hw := hw.2
            refine aw_iloadn C dX11_hasLoop_52 rfl ?_
            refine aw_ic_ne C dX11_hasLoop_53 60 (by decide) hw (fun hc53 hw => ?_) (fun hc53 hw => ?_)
            · exact aw_msk [true, false, true, true, false] (h60 _ ih x2 x3 _ hw)
            · refine aw_iconst (v := 1) C dX11_hasLoop_56 (by decide) ?_
              refine aw_goto (tgt := 61) C dX11_hasLoop_57 (by decide) ?_
              exact aw_msk [true, false, true, true, false] (h61 _ ih x2 x3 1 _ hw)
  unfold w_X11_hasLoop at hw
  show aw p l e { frames := 0, cells := 0, slots := 0, locals := 0 } s m args below meth c 5 D tA A (MQ below (QC0 D tA ad A sh (fun r G' => ∃ v, r = some (.int v) ∧ K v G')) args s 0 0 A) 0 0 ad 0 [some (.ref 46), some (.int p0), some (.int p1), none, none] [] sh G0
  refine aw_aloadn C dX11_hasLoop_0 rfl ?_
  refine aw_getR (r := 65) C dX11_hasLoop_1 kcX11 (sA_46 S) 23 (by decide) rfl mF_X11_72 ?_
  refine aw_iloadn C dX11_hasLoop_4 rfl ?_
  refine aw_iald C dX11_hasLoop_5 (sA_65 S) hw.1 ?_
  replace hw := hw.2
  refine aw_istoren C dX11_hasLoop_6 (by decide) rfl ?_
  refine aw_iconst (v := 0) C dX11_hasLoop_7 (by decide) ?_
  refine aw_istore C dX11_hasLoop_8 (by decide) rfl ?_
  obtain ⟨n0, hw⟩ := hw
  exact aw_msk [true, false, true, true, true] (h10 n0 p1 (G0 65 (p0 : Int32).toNatClampNeg) 0 _ hw)
def w_X11_leaves (K : Gt → Prop) (p0 : Int32) (p1 : Int32) (p2 : Int32) (p3 : Int32) (G0 : Gt) : Prop :=
  pt (gu G0 46 41 p1) fun G1 =>
  pt (gu G1 46 43 p2) fun G2 =>
  pt (gu G2 46 42 p3) fun G3 =>
  vp_in p0 1220 ∧
  pt (gu G3 46 57 (G3 65 (p0 : Int32).toNatClampNeg)) fun G4 =>
  K G4
set_option maxHeartbeats 4000000 in
set_option maxRecDepth 100000 in
theorem t_X11_leaves {l : Launch} {sh : Sh} (S : shOK sh) (p0 : Int32) (p1 : Int32) (p2 : Int32) (p3 : Int32) (G0 : Gt) (K : Gt → Prop) (hw : w_X11_leaves K p0 p1 p2 p3 G0) : CT0 l yX11_leaves cX11_leaves 5 none 0 0 [.ref 46, .int p0, .int p1, .int p2, .int p3] sh G0 (fun r G' => r = none ∧ K G') := by
  refine CT0_of (by decide) (Nat.le_of_ble_eq_true rfl) rfl ?_
  intro p e s m args below meth c D tA ad A C hr _
  unfold w_X11_leaves at hw
  show aw p l e { frames := 0, cells := 0, slots := 0, locals := 0 } s m args below meth c 5 D tA A (MQ below (QC0 D tA ad A sh (fun r G' => r = none ∧ K G')) args s 0 0 A) 0 0 ad 0 [some (.ref 46), some (.int p0), some (.int p1), some (.int p2), some (.int p3)] [] sh G0
  refine aw_aloadn C dX11_leaves_0 rfl ?_
  refine aw_iloadn C dX11_leaves_1 rfl ?_
  refine aw_putI C dX11_leaves_2 kcX11 (sA_46 S) 41 (by decide) rfl mF_X11_202 rfl rfl rfl hw (fun G1 hw => ?_)
  refine aw_aloadn C dX11_leaves_5 rfl ?_
  refine aw_iloadn C dX11_leaves_6 rfl ?_
  refine aw_putI C dX11_leaves_7 kcX11 (sA_46 S) 43 (by decide) rfl mF_X11_231 rfl rfl rfl hw (fun G2 hw => ?_)
  refine aw_aloadn C dX11_leaves_10 rfl ?_
  refine aw_iload C dX11_leaves_11 rfl ?_
  refine aw_putI C dX11_leaves_13 kcX11 (sA_46 S) 42 (by decide) rfl mF_X11_209 rfl rfl rfl hw (fun G3 hw => ?_)
  refine aw_aloadn C dX11_leaves_16 rfl ?_
  refine aw_aloadn C dX11_leaves_17 rfl ?_
  refine aw_getR (r := 65) C dX11_leaves_18 kcX11 (sA_46 S) 23 (by decide) rfl mF_X11_72 ?_
  refine aw_iloadn C dX11_leaves_21 rfl ?_
  refine aw_iald C dX11_leaves_22 (sA_65 S) hw.1 ?_
  replace hw := hw.2
  refine aw_putI C dX11_leaves_23 kcX11 (sA_46 S) 57 (by decide) rfl mF_X11_212 rfl rfl rfl hw (fun G4 hw => ?_)
  exact aw_return C hr dX11_leaves_26 ⟨rfl, hw⟩
def w_X11_calls (K : Int32 → Gt → Prop) (p0 : Int32) (G0 : Gt) : Prop :=
  pif ((G0 46 50) = 12) (
    w_X11_fails (fun G4 =>
      K 0 G4) p0 (-5) G0) (
    vp_in p0 1220 ∧
    pt (gu G0 70 (p0 : Int32).toNatClampNeg (G0 46 49)) fun G1 =>
    pt (gu G1 46 49 p0) fun G2 =>
    pt (gu G2 46 50 ((G2 46 50) + 1)) fun G3 =>
    K 1 G3)
set_option maxHeartbeats 4000000 in
set_option maxRecDepth 100000 in
theorem t_X11_calls {l : Launch} {sh : Sh} (S : shOK sh) (p0 : Int32) (G0 : Gt) (K : Int32 → Gt → Prop) (hw : w_X11_calls K p0 G0) : CT0 l yX11_calls cX11_calls 2 (some .boolean) 1 22 [.ref 46, .int p0] sh G0 (fun r G' => ∃ v, r = some (.int v) ∧ K v G') := by
  refine CT0_of (by decide) (Nat.le_of_ble_eq_true rfl) rfl ?_
  intro p e s m args below meth c D tA ad A C hr _
  unfold w_X11_calls at hw
  show aw p l e { frames := 1, cells := 0, slots := 0, locals := 22 } s m args below meth c 2 D tA A (MQ below (QC0 D tA ad A sh (fun r G' => ∃ v, r = some (.int v) ∧ K v G')) args s 0 0 A) 0 0 ad 0 [some (.ref 46), some (.int p0)] [] sh G0
  refine aw_aloadn C dX11_calls_0 rfl ?_
  refine aw_getI C dX11_calls_1 kcX11 (sA_46 S) 50 (by decide) rfl mF_X11_234 ?_
  refine aw_bipush (v := 12) C dX11_calls_4 (by decide) ?_
  refine aw_ic_ne C dX11_calls_6 18 (by decide) hw (fun hc6 hw => ?_) (fun hc6 hw => ?_)
  · refine aw_aloadn C dX11_calls_18 rfl ?_
    refine aw_getR (r := 70) C dX11_calls_19 kcX11 (sA_46 S) 28 (by decide) rfl mF_X11_87 ?_
    refine aw_iloadn C dX11_calls_22 rfl ?_
    refine aw_aloadn C dX11_calls_23 rfl ?_
    refine aw_getI C dX11_calls_24 kcX11 (sA_46 S) 49 (by decide) rfl mF_X11_221 ?_
    refine aw_iast C dX11_calls_27 (sA_70 S) hw.1 hw.2 (fun G1 hw => ?_)
    refine aw_aloadn C dX11_calls_28 rfl ?_
    refine aw_iloadn C dX11_calls_29 rfl ?_
    refine aw_putI C dX11_calls_30 kcX11 (sA_46 S) 49 (by decide) rfl mF_X11_221 rfl rfl rfl hw (fun G2 hw => ?_)
    refine aw_aloadn C dX11_calls_33 rfl ?_
    refine aw_dup C dX11_calls_34 rfl ?_
    refine aw_getI C dX11_calls_35 kcX11 (sA_46 S) 50 (by decide) rfl mF_X11_234 ?_
    refine aw_iconst (v := 1) C dX11_calls_38 (by decide) ?_
    refine aw_iadd C dX11_calls_39 ?_
    refine aw_putI C dX11_calls_40 kcX11 (sA_46 S) 50 (by decide) rfl mF_X11_234 rfl rfl rfl hw (fun G3 hw => ?_)
    refine aw_iconst (v := 1) C dX11_calls_43 (by decide) ?_
    exact aw_zreturn C hr dX11_calls_44 rfl ⟨_, rfl, hw⟩
  · refine aw_aloadn C dX11_calls_9 rfl ?_
    refine aw_iloadn C dX11_calls_10 rfl ?_
    refine aw_bipush (v := (-5)) C dX11_calls_11 (by decide) ?_
    refine aw_callV C dX11_calls_13 (t_X11_fails S p0 (-5) _ _ hw) mM_X11_237 bX11_fails (sA_46 S) rfl rfl ⟨Nat.le_of_ble_eq_true rfl, Nat.le_of_ble_eq_true rfl, Nat.zero_le _, Nat.zero_le _⟩ _ rfl (Nat.le_of_ble_eq_true rfl) (fun r13 G4 hq => ?_)
    obtain ⟨rfl, hw⟩ := hq
    refine aw_iconst (v := 0) C dX11_calls_16 (by decide) ?_
    exact aw_zreturn C hr dX11_calls_17 rfl ⟨_, rfl, hw⟩
def w_X11_reloads_j32 (K : Gt → Prop)  (G0 : Gt) : Prop :=
  K G0
def w_X11_reloads (K : Gt → Prop) (p0 : Int32) (p1 : Int32) (p2 : Int32) (G0 : Gt) : Prop :=
  vp_in p1 6 ∧
  pif ((G0 54 (p1 : Int32).toNatClampNeg) = (-1)) (
    w_X11_fails (fun G3 =>
      w_X11_reloads_j32 K G3) p0 (-1) G0) (
    vp_in p1 6 ∧
    pt (gu G0 54 (p1 : Int32).toNatClampNeg p2) fun G1 =>
    w_X11_ends (fun G2 =>
      w_X11_reloads_j32 K G2) p0 0 G1)
set_option maxHeartbeats 4000000 in
set_option maxRecDepth 100000 in
theorem t_X11_reloads {l : Launch} {sh : Sh} (S : shOK sh) (p0 : Int32) (p1 : Int32) (p2 : Int32) (G0 : Gt) (K : Gt → Prop) (hw : w_X11_reloads K p0 p1 p2 G0) : CT0 l yX11_reloads cX11_reloads 4 none 1 22 [.ref 46, .int p0, .int p1, .int p2] sh G0 (fun r G' => r = none ∧ K G') := by
  refine CT0_of (by decide) (Nat.le_of_ble_eq_true rfl) rfl ?_
  intro p e s m args below meth c D tA ad A C hr _
  have h32 : ∀ (G0 : Gt), w_X11_reloads_j32 K  G0 → aw p l e { frames := 1, cells := 0, slots := 0, locals := 22 } s m args below meth c 4 D tA A (MQ below (QC0 D tA ad A sh (fun r G' => r = none ∧ K G')) args s 0 0 A) 0 0 ad 32 [none, none, none, none] [] sh G0 := by
    intro   G0 hw
    unfold w_X11_reloads_j32 at hw
    exact aw_return C hr dX11_reloads_32 ⟨rfl, hw⟩
  unfold w_X11_reloads at hw
  show aw p l e { frames := 1, cells := 0, slots := 0, locals := 22 } s m args below meth c 4 D tA A (MQ below (QC0 D tA ad A sh (fun r G' => r = none ∧ K G')) args s 0 0 A) 0 0 ad 0 [some (.ref 46), some (.int p0), some (.int p1), some (.int p2)] [] sh G0
  refine aw_aloadn C dX11_reloads_0 rfl ?_
  refine aw_getR (r := 54) C dX11_reloads_1 kcX11 (sA_46 S) 8 (by decide) rfl mF_X11_32 ?_
  refine aw_iloadn C dX11_reloads_4 rfl ?_
  refine aw_iald C dX11_reloads_5 (sA_54 S) hw.1 ?_
  replace hw := hw.2
  refine aw_iconst (v := (-1)) C dX11_reloads_6 (by decide) ?_
  refine aw_ic_ne C dX11_reloads_7 19 (by decide) hw (fun hc7 hw => ?_) (fun hc7 hw => ?_)
  · refine aw_aloadn C dX11_reloads_19 rfl ?_
    refine aw_getR (r := 54) C dX11_reloads_20 kcX11 (sA_46 S) 8 (by decide) rfl mF_X11_32 ?_
    refine aw_iloadn C dX11_reloads_23 rfl ?_
    refine aw_iloadn C dX11_reloads_24 rfl ?_
    refine aw_iast C dX11_reloads_25 (sA_54 S) hw.1 hw.2 (fun G1 hw => ?_)
    refine aw_aloadn C dX11_reloads_26 rfl ?_
    refine aw_iloadn C dX11_reloads_27 rfl ?_
    refine aw_iconst (v := 0) C dX11_reloads_28 (by decide) ?_
    refine aw_callV C dX11_reloads_29 (t_X11_ends S p0 0 _ _ hw) mM_X11_262 bX11_ends (sA_46 S) rfl rfl ⟨Nat.le_of_ble_eq_true rfl, Nat.le_of_ble_eq_true rfl, Nat.zero_le _, Nat.zero_le _⟩ _ rfl (Nat.le_of_ble_eq_true rfl) (fun r29 G2 hq => ?_)
    obtain ⟨rfl, hw⟩ := hq
    exact aw_msk [false, false, false, false] (h32 _ hw)
  · refine aw_aloadn C dX11_reloads_10 rfl ?_
    refine aw_iloadn C dX11_reloads_11 rfl ?_
    refine aw_iconst (v := (-1)) C dX11_reloads_12 (by decide) ?_
    refine aw_callV C dX11_reloads_13 (t_X11_fails S p0 (-1) _ _ hw) mM_X11_237 bX11_fails (sA_46 S) rfl rfl ⟨Nat.le_of_ble_eq_true rfl, Nat.le_of_ble_eq_true rfl, Nat.zero_le _, Nat.zero_le _⟩ _ rfl (Nat.le_of_ble_eq_true rfl) (fun r13 G3 hq => ?_)
    obtain ⟨rfl, hw⟩ := hq
    refine aw_goto (tgt := 32) C dX11_reloads_16 (by decide) ?_
    exact aw_msk [false, false, false, false] (h32 _ hw)
def w_X11_place (K : Int32 → Gt → Prop) (G0 : Gt) : Prop :=
  vp_in (G0 46 14) 2 ∧
  vp_in ((4 * (G0 46 14)) + (G0 61 ((G0 46 14) : Int32).toNatClampNeg)) 8 ∧
  K (G0 60 (((4 * (G0 46 14)) + (G0 61 ((G0 46 14) : Int32).toNatClampNeg)) : Int32).toNatClampNeg) G0
set_option maxHeartbeats 4000000 in
set_option maxRecDepth 100000 in
theorem t_X11_place {l : Launch} {sh : Sh} (S : shOK sh) (G0 : Gt) (K : Int32 → Gt → Prop) (hw : w_X11_place K G0) : CT0 l yX11_place cX11_place 1 (some .int) 0 0 [.ref 46] sh G0 (fun r G' => ∃ v, r = some (.int v) ∧ K v G') := by
  refine CT0_of (by decide) (Nat.le_of_ble_eq_true rfl) rfl ?_
  intro p e s m args below meth c D tA ad A C hr _
  unfold w_X11_place at hw
  show aw p l e { frames := 0, cells := 0, slots := 0, locals := 0 } s m args below meth c 1 D tA A (MQ below (QC0 D tA ad A sh (fun r G' => ∃ v, r = some (.int v) ∧ K v G')) args s 0 0 A) 0 0 ad 0 [some (.ref 46)] [] sh G0
  refine aw_aloadn C dX11_place_0 rfl ?_
  refine aw_getR (r := 60) C dX11_place_1 kcX11 (sA_46 S) 17 (by decide) rfl mF_X11_57 ?_
  refine aw_iconst (v := 4) C dX11_place_4 (by decide) ?_
  refine aw_aloadn C dX11_place_5 rfl ?_
  refine aw_getI C dX11_place_6 kcX11 (sA_46 S) 14 (by decide) rfl mF_X11_180 ?_
  refine aw_imul C dX11_place_9 ?_
  refine aw_aloadn C dX11_place_10 rfl ?_
  refine aw_getR (r := 61) C dX11_place_11 kcX11 (sA_46 S) 18 (by decide) rfl mF_X11_60 ?_
  refine aw_aloadn C dX11_place_14 rfl ?_
  refine aw_getI C dX11_place_15 kcX11 (sA_46 S) 14 (by decide) rfl mF_X11_180 ?_
  refine aw_iald C dX11_place_18 (sA_61 S) hw.1 ?_
  replace hw := hw.2
  refine aw_iadd C dX11_place_19 ?_
  refine aw_iald C dX11_place_20 (sA_60 S) hw.1 ?_
  replace hw := hw.2
  exact aw_ireturn C hr dX11_place_21 ⟨_, rfl, hw⟩
def w_X11_erases_j174 (K : Int32 → Gt → Prop) (rec90 : Int32 → Int32 → Int32 → Gt → Prop) (x1 : Int32) (x2 : Int32) (x3 : Int32) (y1 : Int32) (y2 : Int32) (G0 : Gt) : Prop :=
  vp_in y1 8 ∧
  pt (gu G0 60 (y1 : Int32).toNatClampNeg y2) fun G5 =>
  rec90 x1 x2 (x3 + 1) G5
def w_X11_erases_j167 (K : Int32 → Gt → Prop) (rec90 : Int32 → Int32 → Int32 → Gt → Prop) (x1 : Int32) (x2 : Int32) (x3 : Int32) (x4 : Int32) (y1 : Int32) (G0 : Gt) : Prop :=
  vp_in x4 8 ∧
  w_X11_erases_j174 K rec90 x1 x2 x3 y1 (G0 60 (x4 : Int32).toNatClampNeg) G0
def w_X11_erases_j129 (K : Int32 → Gt → Prop) (rec90 : Int32 → Int32 → Int32 → Gt → Prop) (x1 : Int32) (x2 : Int32) (x3 : Int32) (x4 : Int32) (y1 : Int32) (y2 : Int32) (y3 : Int32) (G0 : Gt) : Prop :=
  vp_in y1 8 ∧
  pt (gu G0 60 (y1 : Int32).toNatClampNeg (y2 - y3)) fun G4 =>
  vp_in x4 8 ∧
  pif ((G4 60 (x4 : Int32).toNatClampNeg) = (x1 - 1)) (
    vp_in (G4 46 14) 2 ∧
    pif (x3 = (G4 61 ((G4 46 14) : Int32).toNatClampNeg)) (
      w_X11_erases_j167 K rec90 x1 x2 x3 x4 x4 G4) (
      w_X11_erases_j174 K rec90 x1 x2 x3 x4 (-1) G4)) (
    w_X11_erases_j167 K rec90 x1 x2 x3 x4 x4 G4)
def w_X11_erases_h90 (K : Int32 → Gt → Prop) : Nat → Int32 → Int32 → Int32 → Gt → Prop
  | 0, _, _, _, _ => False
  | n + 1, x1, x2, x3, G0 =>
    pif (4 ≤ x3) (
      K x2 G0) (
      vp_in ((4 * (G0 46 14)) + x3) 8 ∧
      vp_in ((4 * (G0 46 14)) + x3) 8 ∧
      pif ((G0 60 (((4 * (G0 46 14)) + x3) : Int32).toNatClampNeg) < x1) (
        w_X11_erases_j129 K (fun z0 z1 z2 z3 => w_X11_erases_h90 K n z0 z1 z2 z3) x1 x2 x3 ((4 * (G0 46 14)) + x3) ((4 * (G0 46 14)) + x3) (G0 60 (((4 * (G0 46 14)) + x3) : Int32).toNatClampNeg) 0 G0) (
        w_X11_erases_j129 K (fun z0 z1 z2 z3 => w_X11_erases_h90 K n z0 z1 z2 z3) x1 x2 x3 ((4 * (G0 46 14)) + x3) ((4 * (G0 46 14)) + x3) (G0 60 (((4 * (G0 46 14)) + x3) : Int32).toNatClampNeg) 1 G0))
def w_X11_erases_h39 (K : Int32 → Gt → Prop) : Nat → Int32 → Int32 → Int32 → Gt → Prop
  | 0, _, _, _, _ => False
  | n + 1, x1, x2, x3, G0 =>
    vp_in (G0 46 14) 2 ∧
    pif ((G0 59 ((G0 46 14) : Int32).toNatClampNeg) ≤ x3) (
      ∃ i, w_X11_erases_h90 K i x1 x2 0 G0) (
      vp_in (((40 * (G0 46 14)) + x3) + 1) 80 ∧
      vp_in ((40 * (G0 46 14)) + x3) 80 ∧
      pt (gu G0 58 (((40 * (G0 46 14)) + x3) : Int32).toNatClampNeg (G0 58 ((((40 * (G0 46 14)) + x3) + 1) : Int32).toNatClampNeg)) fun G6 =>
      (w_X11_erases_h39 K n) x1 x2 (x3 + 1) G6)
def w_X11_erases (K : Int32 → Gt → Prop) (G0 : Gt) : Prop :=
  w_X11_place (fun v2 G1 =>
    vp_in (((40 * (G1 46 14)) + v2) - 1) 80 ∧
    vp_in (G1 46 14) 2 ∧
    vp_in (G1 46 14) 2 ∧
    pt (gu G1 59 ((G1 46 14) : Int32).toNatClampNeg ((G1 59 ((G1 46 14) : Int32).toNatClampNeg) - 1)) fun G3 =>
    ∃ i, w_X11_erases_h39 K i v2 (G1 58 ((((40 * (G1 46 14)) + v2) - 1) : Int32).toNatClampNeg) (v2 - 1) G3) G0
set_option maxHeartbeats 4000000 in
set_option maxRecDepth 100000 in
theorem t_X11_erases {l : Launch} {sh : Sh} (S : shOK sh) (G0 : Gt) (K : Int32 → Gt → Prop) (hw : w_X11_erases K G0) : CT0 l yX11_erases cX11_erases 5 (some .int) 1 20 [.ref 46] sh G0 (fun r G' => ∃ v, r = some (.int v) ∧ K v G') := by
  refine CT0_of (by decide) (Nat.le_of_ble_eq_true rfl) rfl ?_
  intro p e s m args below meth c D tA ad A C hr _
  have h174 : ∀ (rec90 : Int32 → Int32 → Int32 → Gt → Prop) (hrec90 : ∀ (x1 : Int32) (x2 : Int32) (x3 : Int32) (G0 : Gt), rec90 x1 x2 x3 G0 → aw p l e { frames := 1, cells := 0, slots := 0, locals := 20 } s m args below meth c 5 D tA A (MQ below (QC0 D tA ad A sh (fun r G' => ∃ v, r = some (.int v) ∧ K v G')) args s 0 0 A) 0 0 ad 90 [some (.ref 46), some (.int x1), some (.int x2), some (.int x3), none] [] sh G0) (x1 : Int32) (x2 : Int32) (x3 : Int32) (y1 : Int32) (y2 : Int32) (G0 : Gt), w_X11_erases_j174 K rec90 x1 x2 x3 y1 y2 G0 → aw p l e { frames := 1, cells := 0, slots := 0, locals := 20 } s m args below meth c 5 D tA A (MQ below (QC0 D tA ad A sh (fun r G' => ∃ v, r = some (.int v) ∧ K v G')) args s 0 0 A) 0 0 ad 174 [some (.ref 46), some (.int x1), some (.int x2), some (.int x3), none] [.int y2, .int y1, .ref 60] sh G0 := by
    intro rec90 hrec90 x1 x2 x3 y1 y2 G0 hw
    unfold w_X11_erases_j174 at hw
    refine aw_iast C dX11_erases_174 (sA_60 S) hw.1 hw.2 (fun G5 hw => ?_)
    refine aw_iinc (w := (x3 + 1)) C dX11_erases_175 rfl rfl (by decide) rfl ?_
    refine aw_goto (tgt := 90) C dX11_erases_178 (by decide) ?_
    exact aw_msk [true, true, true, true, false] (hrec90 x1 x2 (x3 + 1) _ hw)
  have h167 : ∀ (rec90 : Int32 → Int32 → Int32 → Gt → Prop) (hrec90 : ∀ (x1 : Int32) (x2 : Int32) (x3 : Int32) (G0 : Gt), rec90 x1 x2 x3 G0 → aw p l e { frames := 1, cells := 0, slots := 0, locals := 20 } s m args below meth c 5 D tA A (MQ below (QC0 D tA ad A sh (fun r G' => ∃ v, r = some (.int v) ∧ K v G')) args s 0 0 A) 0 0 ad 90 [some (.ref 46), some (.int x1), some (.int x2), some (.int x3), none] [] sh G0) (x1 : Int32) (x2 : Int32) (x3 : Int32) (x4 : Int32) (y1 : Int32) (G0 : Gt), w_X11_erases_j167 K rec90 x1 x2 x3 x4 y1 G0 → aw p l e { frames := 1, cells := 0, slots := 0, locals := 20 } s m args below meth c 5 D tA A (MQ below (QC0 D tA ad A sh (fun r G' => ∃ v, r = some (.int v) ∧ K v G')) args s 0 0 A) 0 0 ad 167 [some (.ref 46), some (.int x1), some (.int x2), some (.int x3), some (.int x4)] [.int y1, .ref 60] sh G0 := by
    intro rec90 hrec90 x1 x2 x3 x4 y1 G0 hw
    unfold w_X11_erases_j167 at hw
    refine aw_aloadn C dX11_erases_167 rfl ?_
    refine aw_getR (r := 60) C dX11_erases_168 kcX11 (sA_46 S) 17 (by decide) rfl mF_X11_57 ?_
    refine aw_iload C dX11_erases_171 rfl ?_
    refine aw_iald C dX11_erases_173 (sA_60 S) hw.1 ?_
    replace hw := hw.2
    exact aw_msk [true, true, true, true, false] (h174 _ hrec90 x1 x2 x3 y1 (G0 60 (x4 : Int32).toNatClampNeg) _ hw)
  have h129 : ∀ (rec90 : Int32 → Int32 → Int32 → Gt → Prop) (hrec90 : ∀ (x1 : Int32) (x2 : Int32) (x3 : Int32) (G0 : Gt), rec90 x1 x2 x3 G0 → aw p l e { frames := 1, cells := 0, slots := 0, locals := 20 } s m args below meth c 5 D tA A (MQ below (QC0 D tA ad A sh (fun r G' => ∃ v, r = some (.int v) ∧ K v G')) args s 0 0 A) 0 0 ad 90 [some (.ref 46), some (.int x1), some (.int x2), some (.int x3), none] [] sh G0) (x1 : Int32) (x2 : Int32) (x3 : Int32) (x4 : Int32) (y1 : Int32) (y2 : Int32) (y3 : Int32) (G0 : Gt), w_X11_erases_j129 K rec90 x1 x2 x3 x4 y1 y2 y3 G0 → aw p l e { frames := 1, cells := 0, slots := 0, locals := 20 } s m args below meth c 5 D tA A (MQ below (QC0 D tA ad A sh (fun r G' => ∃ v, r = some (.int v) ∧ K v G')) args s 0 0 A) 0 0 ad 129 [some (.ref 46), some (.int x1), some (.int x2), some (.int x3), some (.int x4)] [.int y3, .int y2, .int y1, .ref 60] sh G0 := by
    intro rec90 hrec90 x1 x2 x3 x4 y1 y2 y3 G0 hw
    unfold w_X11_erases_j129 at hw
    refine aw_isub C dX11_erases_129 ?_
    refine aw_iast C dX11_erases_130 (sA_60 S) hw.1 hw.2 (fun G4 hw => ?_)
    refine aw_aloadn C dX11_erases_131 rfl ?_
    refine aw_getR (r := 60) C dX11_erases_132 kcX11 (sA_46 S) 17 (by decide) rfl mF_X11_57 ?_
    refine aw_iload C dX11_erases_135 rfl ?_
    refine aw_aloadn C dX11_erases_137 rfl ?_
    refine aw_getR (r := 60) C dX11_erases_138 kcX11 (sA_46 S) 17 (by decide) rfl mF_X11_57 ?_
    refine aw_iload C dX11_erases_141 rfl ?_
    refine aw_iald C dX11_erases_143 (sA_60 S) hw.1 ?_
    replace hw := hw.2
    refine aw_iloadn C dX11_erases_144 rfl ?_
    refine aw_iconst (v := 1) C dX11_erases_145 (by decide) ?_
    refine aw_isub C dX11_erases_146 ?_
    refine aw_ic_ne C dX11_erases_147 167 (by decide) hw (fun hc147 hw => ?_) (fun hc147 hw => ?_)
    · exact aw_msk [true, true, true, true, true] (h167 _ hrec90 x1 x2 x3 x4 x4 _ hw)
    · refine aw_iloadn C dX11_erases_150 rfl ?_
      refine aw_aloadn C dX11_erases_151 rfl ?_
      refine aw_getR (r := 61) C dX11_erases_152 kcX11 (sA_46 S) 18 (by decide) rfl mF_X11_60 ?_
      refine aw_aloadn C dX11_erases_155 rfl ?_
      refine aw_getI C dX11_erases_156 kcX11 (sA_46 S) 14 (by decide) rfl mF_X11_180 ?_
      refine aw_iald C dX11_erases_159 (sA_61 S) hw.1 ?_
      replace hw := hw.2
      refine aw_ic_eq C dX11_erases_160 167 (by decide) hw (fun hc160 hw => ?_) (fun hc160 hw => ?_)
      · exact aw_msk [true, true, true, true, true] (h167 _ hrec90 x1 x2 x3 x4 x4 _ hw)
      · refine aw_iconst (v := (-1)) C dX11_erases_163 (by decide) ?_
        refine aw_goto (tgt := 174) C dX11_erases_164 (by decide) ?_
        exact aw_msk [true, true, true, true, false] (h174 _ hrec90 x1 x2 x3 x4 (-1) _ hw)
  have h90 : ∀ (n : Nat) (x1 : Int32) (x2 : Int32) (x3 : Int32) (G0 : Gt), w_X11_erases_h90 K n x1 x2 x3 G0 → aw p l e { frames := 1, cells := 0, slots := 0, locals := 20 } s m args below meth c 5 D tA A (MQ below (QC0 D tA ad A sh (fun r G' => ∃ v, r = some (.int v) ∧ K v G')) args s 0 0 A) 0 0 ad 90 [some (.ref 46), some (.int x1), some (.int x2), some (.int x3), none] [] sh G0 := by
    intro  n
    induction n with
    | zero => intro x1 x2 x3 G0 hw; exact hw.elim
    | succ n ih =>
      intro x1 x2 x3 G0 hw
      rw [w_X11_erases_h90] at hw
      refine aw_iloadn C dX11_erases_90 rfl ?_
      refine aw_iconst (v := 4) C dX11_erases_91 (by decide) ?_
      refine aw_ic_ge C dX11_erases_92 181 (by decide) hw (fun hc92 hw => ?_) (fun hc92 hw => ?_)
      · refine aw_iloadn C dX11_erases_181 rfl ?_
        exact aw_ireturn C hr dX11_erases_182 ⟨_, rfl, hw⟩
      · refine aw_iconst (v := 4) C dX11_erases_95 (by decide) ?_
        refine aw_aloadn C dX11_erases_96 rfl ?_
        refine aw_getI C dX11_erases_97 kcX11 (sA_46 S) 14 (by decide) rfl mF_X11_180 ?_
        refine aw_imul C dX11_erases_100 ?_
        refine aw_iloadn C dX11_erases_101 rfl ?_
        refine aw_iadd C dX11_erases_102 ?_
        refine aw_istore C dX11_erases_103 (by decide) rfl ?_
        refine aw_aloadn C dX11_erases_105 rfl ?_
        refine aw_getR (r := 60) C dX11_erases_106 kcX11 (sA_46 S) 17 (by decide) rfl mF_X11_57 ?_
        refine aw_iload C dX11_erases_109 rfl ?_
        refine aw_dup2 C dX11_erases_111 rfl rfl ?_
        refine aw_iald C dX11_erases_112 (sA_60 S) hw.1 ?_
        replace hw := hw.2
        refine aw_aloadn C dX11_erases_113 rfl ?_
        refine aw_getR (r := 60) C dX11_erases_114 kcX11 (sA_46 S) 17 (by decide) rfl mF_X11_57 ?_
        refine aw_iload C dX11_erases_117 rfl ?_
        refine aw_iald C dX11_erases_119 (sA_60 S) hw.1 ?_
        replace hw := hw.2
        refine aw_iloadn C dX11_erases_120 rfl ?_
        refine aw_ic_lt C dX11_erases_121 128 (by decide) hw (fun hc121 hw => ?_) (fun hc121 hw => ?_)
        · refine aw_iconst (v := 0) C dX11_erases_128 (by decide) ?_
          exact aw_msk [true, true, true, true, true] (h129 _ ih x1 x2 x3 ((4 * (G0 46 14)) + x3) ((4 * (G0 46 14)) + x3) (G0 60 (((4 * (G0 46 14)) + x3) : Int32).toNatClampNeg) 0 _ hw)
        · refine aw_iconst (v := 1) C dX11_erases_124 (by decide) ?_
          refine aw_goto (tgt := 129) C dX11_erases_125 (by decide) ?_
          exact aw_msk [true, true, true, true, true] (h129 _ ih x1 x2 x3 ((4 * (G0 46 14)) + x3) ((4 * (G0 46 14)) + x3) (G0 60 (((4 * (G0 46 14)) + x3) : Int32).toNatClampNeg) 1 _ hw)
  have h39 : ∀ (n : Nat) (x1 : Int32) (x2 : Int32) (x3 : Int32) (G0 : Gt), w_X11_erases_h39 K n x1 x2 x3 G0 → aw p l e { frames := 1, cells := 0, slots := 0, locals := 20 } s m args below meth c 5 D tA A (MQ below (QC0 D tA ad A sh (fun r G' => ∃ v, r = some (.int v) ∧ K v G')) args s 0 0 A) 0 0 ad 39 [some (.ref 46), some (.int x1), some (.int x2), some (.int x3), none] [] sh G0 := by
    intro  n
    induction n with
    | zero => intro x1 x2 x3 G0 hw; exact hw.elim
    | succ n ih =>
      intro x1 x2 x3 G0 hw
      rw [w_X11_erases_h39] at hw
      refine aw_iloadn C dX11_erases_39 rfl ?_
      refine aw_aloadn C dX11_erases_40 rfl ?_
      refine aw_getR (r := 59) C dX11_erases_41 kcX11 (sA_46 S) 16 (by decide) rfl mF_X11_54 ?_
      refine aw_aloadn C dX11_erases_44 rfl ?_
      refine aw_getI C dX11_erases_45 kcX11 (sA_46 S) 14 (by decide) rfl mF_X11_180 ?_
      refine aw_iald C dX11_erases_48 (sA_59 S) hw.1 ?_
      replace hw := hw.2
      refine aw_ic_ge C dX11_erases_49 88 (by decide) hw (fun hc49 hw => ?_) (fun hc49 hw => ?_)
      · refine aw_iconst (v := 0) C dX11_erases_88 (by decide) ?_
        refine aw_istoren C dX11_erases_89 (by decide) rfl ?_
        obtain ⟨n0, hw⟩ := hw
        exact aw_msk [true, true, true, true, false] (h90 n0 x1 x2 0 _ hw)
      · refine aw_aloadn C dX11_erases_52 rfl ?_
        refine aw_getR (r := 58) C dX11_erases_53 kcX11 (sA_46 S) 15 (by decide) rfl mF_X11_51 ?_
        refine aw_bipush (v := 40) C dX11_erases_56 (by decide) ?_
        refine aw_aloadn C dX11_erases_58 rfl ?_
        refine aw_getI C dX11_erases_59 kcX11 (sA_46 S) 14 (by decide) rfl mF_X11_180 ?_
        refine aw_imul C dX11_erases_62 ?_
        refine aw_iloadn C dX11_erases_63 rfl ?_
        refine aw_iadd C dX11_erases_64 ?_
        refine aw_aloadn C dX11_erases_65 rfl ?_
        refine aw_getR (r := 58) C dX11_erases_66 kcX11 (sA_46 S) 15 (by decide) rfl mF_X11_51 ?_
        refine aw_bipush (v := 40) C dX11_erases_69 (by decide) ?_
        refine aw_aloadn C dX11_erases_71 rfl ?_
        refine aw_getI C dX11_erases_72 kcX11 (sA_46 S) 14 (by decide) rfl mF_X11_180 ?_
        refine aw_imul C dX11_erases_75 ?_
        refine aw_iloadn C dX11_erases_76 rfl ?_
        refine aw_iadd C dX11_erases_77 ?_
        refine aw_iconst (v := 1) C dX11_erases_78 (by decide) ?_
        refine aw_iadd C dX11_erases_79 ?_
        refine aw_iald C dX11_erases_80 (sA_58 S) hw.1 ?_
        replace hw := hw.2
        refine aw_iast C dX11_erases_81 (sA_58 S) hw.1 hw.2 (fun G6 hw => ?_)
        refine aw_iinc (w := (x3 + 1)) C dX11_erases_82 rfl rfl (by decide) rfl ?_
        refine aw_goto (tgt := 39) C dX11_erases_85 (by decide) ?_
        exact aw_msk [true, true, true, true, false] (ih x1 x2 (x3 + 1) _ hw)
  unfold w_X11_erases at hw
  show aw p l e { frames := 1, cells := 0, slots := 0, locals := 20 } s m args below meth c 5 D tA A (MQ below (QC0 D tA ad A sh (fun r G' => ∃ v, r = some (.int v) ∧ K v G')) args s 0 0 A) 0 0 ad 0 [some (.ref 46), none, none, none, none] [] sh G0
  refine aw_aloadn C dX11_erases_0 rfl ?_
  refine aw_callV C dX11_erases_1 (t_X11_place S _ _ hw) mM_X11_255 bX11_place (sA_46 S) rfl rfl ⟨Nat.le_of_ble_eq_true rfl, Nat.le_of_ble_eq_true rfl, Nat.zero_le _, Nat.zero_le _⟩ _ rfl (Nat.le_of_ble_eq_true rfl) (fun r1 G1 hq => ?_)
  obtain ⟨v2, rfl, hw⟩ := hq
  refine aw_istoren C dX11_erases_4 (by decide) rfl ?_
  refine aw_aloadn C dX11_erases_5 rfl ?_
  refine aw_getR (r := 58) C dX11_erases_6 kcX11 (sA_46 S) 15 (by decide) rfl mF_X11_51 ?_
  refine aw_bipush (v := 40) C dX11_erases_9 (by decide) ?_
  refine aw_aloadn C dX11_erases_11 rfl ?_
  refine aw_getI C dX11_erases_12 kcX11 (sA_46 S) 14 (by decide) rfl mF_X11_180 ?_
  refine aw_imul C dX11_erases_15 ?_
  refine aw_iloadn C dX11_erases_16 rfl ?_
  refine aw_iadd C dX11_erases_17 ?_
  refine aw_iconst (v := 1) C dX11_erases_18 (by decide) ?_
  refine aw_isub C dX11_erases_19 ?_
  refine aw_iald C dX11_erases_20 (sA_58 S) hw.1 ?_
  replace hw := hw.2
  refine aw_istoren C dX11_erases_21 (by decide) rfl ?_
  refine aw_aloadn C dX11_erases_22 rfl ?_
  refine aw_getR (r := 59) C dX11_erases_23 kcX11 (sA_46 S) 16 (by decide) rfl mF_X11_54 ?_
  refine aw_aloadn C dX11_erases_26 rfl ?_
  refine aw_getI C dX11_erases_27 kcX11 (sA_46 S) 14 (by decide) rfl mF_X11_180 ?_
  refine aw_dup2 C dX11_erases_30 rfl rfl ?_
  refine aw_iald C dX11_erases_31 (sA_59 S) hw.1 ?_
  replace hw := hw.2
  refine aw_iconst (v := 1) C dX11_erases_32 (by decide) ?_
  refine aw_isub C dX11_erases_33 ?_
  refine aw_iast C dX11_erases_34 (sA_59 S) hw.1 hw.2 (fun G3 hw => ?_)
  refine aw_iloadn C dX11_erases_35 rfl ?_
  refine aw_iconst (v := 1) C dX11_erases_36 (by decide) ?_
  refine aw_isub C dX11_erases_37 ?_
  refine aw_istoren C dX11_erases_38 (by decide) rfl ?_
  obtain ⟨n0, hw⟩ := hw
  exact aw_msk [true, true, true, true, false] (h39 n0 v2 (G1 58 ((((40 * (G1 46 14)) + v2) - 1) : Int32).toNatClampNeg) (v2 - 1) _ hw)
def w_X11_letterHere_j37 (K : Int32 → Gt → Prop) (y0 : Int32) (G0 : Gt) : Prop :=
  K y0 G0
def w_X11_letterHere (K : Int32 → Gt → Prop) (G0 : Gt) : Prop :=
  w_X11_place (fun v2 G1 =>
    vp_in (G1 46 14) 2 ∧
    pif ((G1 59 ((G1 46 14) : Int32).toNatClampNeg) ≤ v2) (
      w_X11_letterHere_j37 K (-1) G1) (
      w_X11_place (fun v4 G3 =>
        vp_in ((40 * (G1 46 14)) + v4) 80 ∧
        w_X11_letterHere_j37 K (G3 58 (((40 * (G1 46 14)) + v4) : Int32).toNatClampNeg) G3) G1)) G0
set_option maxHeartbeats 4000000 in
set_option maxRecDepth 100000 in
theorem t_X11_letterHere {l : Launch} {sh : Sh} (S : shOK sh) (G0 : Gt) (K : Int32 → Gt → Prop) (hw : w_X11_letterHere K G0) : CT0 l yX11_letterHere cX11_letterHere 1 (some .int) 1 20 [.ref 46] sh G0 (fun r G' => ∃ v, r = some (.int v) ∧ K v G') := by
  refine CT0_of (by decide) (Nat.le_of_ble_eq_true rfl) rfl ?_
  intro p e s m args below meth c D tA ad A C hr _
  have h37 : ∀ (y0 : Int32) (G0 : Gt), w_X11_letterHere_j37 K y0 G0 → aw p l e { frames := 1, cells := 0, slots := 0, locals := 20 } s m args below meth c 1 D tA A (MQ below (QC0 D tA ad A sh (fun r G' => ∃ v, r = some (.int v) ∧ K v G')) args s 0 0 A) 0 0 ad 37 [none] [.int y0] sh G0 := by
    intro  y0 G0 hw
    unfold w_X11_letterHere_j37 at hw
    exact aw_ireturn C hr dX11_letterHere_37 ⟨_, rfl, hw⟩
  unfold w_X11_letterHere at hw
  show aw p l e { frames := 1, cells := 0, slots := 0, locals := 20 } s m args below meth c 1 D tA A (MQ below (QC0 D tA ad A sh (fun r G' => ∃ v, r = some (.int v) ∧ K v G')) args s 0 0 A) 0 0 ad 0 [some (.ref 46)] [] sh G0
  refine aw_aloadn C dX11_letterHere_0 rfl ?_
  refine aw_callV C dX11_letterHere_1 (t_X11_place S _ _ hw) mM_X11_255 bX11_place (sA_46 S) rfl rfl ⟨Nat.le_of_ble_eq_true rfl, Nat.le_of_ble_eq_true rfl, Nat.zero_le _, Nat.zero_le _⟩ _ rfl (Nat.le_of_ble_eq_true rfl) (fun r1 G1 hq => ?_)
  obtain ⟨v2, rfl, hw⟩ := hq
  refine aw_aloadn C dX11_letterHere_4 rfl ?_
  refine aw_getR (r := 59) C dX11_letterHere_5 kcX11 (sA_46 S) 16 (by decide) rfl mF_X11_54 ?_
  refine aw_aloadn C dX11_letterHere_8 rfl ?_
  refine aw_getI C dX11_letterHere_9 kcX11 (sA_46 S) 14 (by decide) rfl mF_X11_180 ?_
  refine aw_iald C dX11_letterHere_12 (sA_59 S) hw.1 ?_
  replace hw := hw.2
  refine aw_ic_ge C dX11_letterHere_13 36 (by decide) hw (fun hc13 hw => ?_) (fun hc13 hw => ?_)
  · refine aw_iconst (v := (-1)) C dX11_letterHere_36 (by decide) ?_
    exact aw_msk [false] (h37 (-1) _ hw)
  · refine aw_aloadn C dX11_letterHere_16 rfl ?_
    refine aw_getR (r := 58) C dX11_letterHere_17 kcX11 (sA_46 S) 15 (by decide) rfl mF_X11_51 ?_
    refine aw_bipush (v := 40) C dX11_letterHere_20 (by decide) ?_
    refine aw_aloadn C dX11_letterHere_22 rfl ?_
    refine aw_getI C dX11_letterHere_23 kcX11 (sA_46 S) 14 (by decide) rfl mF_X11_180 ?_
    refine aw_imul C dX11_letterHere_26 ?_
    refine aw_aloadn C dX11_letterHere_27 rfl ?_
    refine aw_callV C dX11_letterHere_28 (t_X11_place S _ _ hw) mM_X11_255 bX11_place (sA_46 S) rfl rfl ⟨Nat.le_of_ble_eq_true rfl, Nat.le_of_ble_eq_true rfl, Nat.zero_le _, Nat.zero_le _⟩ _ rfl (Nat.le_of_ble_eq_true rfl) (fun r28 G3 hq => ?_)
    obtain ⟨v4, rfl, hw⟩ := hq
    refine aw_iadd C dX11_letterHere_31 ?_
    refine aw_iald C dX11_letterHere_32 (sA_58 S) hw.1 ?_
    replace hw := hw.2
    refine aw_goto (tgt := 37) C dX11_letterHere_33 (by decide) ?_
    exact aw_msk [false] (h37 (G3 58 (((40 * (G1 46 14)) + v4) : Int32).toNatClampNeg) _ hw)
def w_X11_inOrder_j44 (K : Int32 → Gt → Prop) (rec5 : Int32 → Int32 → Gt → Prop) (rec11 : Int32 → Int32 → Int32 → Gt → Prop) (x2 : Int32) (x3 : Int32) (y0 : Int32) (G0 : Gt) : Prop :=
  rec11 y0 x2 (x3 + (-1)) G0
def w_X11_inOrder_h11 (K : Int32 → Gt → Prop) (rec5 : Int32 → Int32 → Gt → Prop) : Nat → Int32 → Int32 → Int32 → Gt → Prop
  | 0, _, _, _, _ => False
  | n + 1, x1, x2, x3, G0 =>
    pif (x3 < 0) (
      rec5 x1 (x2 + (-1)) G0) (
      vp_in ((4 * (G0 46 14)) + x3) 8 ∧
      pif ((G0 60 (((4 * (G0 46 14)) + x3) : Int32).toNatClampNeg) = x2) (
        w_X11_inOrder_j44 K rec5 (fun z0 z1 z2 z3 => w_X11_inOrder_h11 K rec5 n z0 z1 z2 z3) x2 x3 (((8 * x1) + x3) + 1) G0) (
        w_X11_inOrder_j44 K rec5 (fun z0 z1 z2 z3 => w_X11_inOrder_h11 K rec5 n z0 z1 z2 z3) x2 x3 x1 G0))
def w_X11_inOrder_h5 (K : Int32 → Gt → Prop) : Nat → Int32 → Int32 → Gt → Prop
  | 0, _, _, _ => False
  | n + 1, x1, x2, G0 =>
    pif (x2 < 0) (
      K x1 G0) (
      ∃ i, w_X11_inOrder_h11 K (fun z0 z1 z2 => w_X11_inOrder_h5 K n z0 z1 z2) i x1 x2 3 G0)
def w_X11_inOrder (K : Int32 → Gt → Prop) (G0 : Gt) : Prop :=
  ∃ i, w_X11_inOrder_h5 K i 0 40 G0
set_option maxHeartbeats 4000000 in
set_option maxRecDepth 100000 in
theorem t_X11_inOrder {l : Launch} {sh : Sh} (S : shOK sh) (G0 : Gt) (K : Int32 → Gt → Prop) (hw : w_X11_inOrder K G0) : CT0 l yX11_inOrder cX11_inOrder 4 (some .int) 0 0 [.ref 46] sh G0 (fun r G' => ∃ v, r = some (.int v) ∧ K v G') := by
  refine CT0_of (by decide) (Nat.le_of_ble_eq_true rfl) rfl ?_
  intro p e s m args below meth c D tA ad A C hr _
  have h44 : ∀ (rec5 : Int32 → Int32 → Gt → Prop) (hrec5 : ∀ (x1 : Int32) (x2 : Int32) (G0 : Gt), rec5 x1 x2 G0 → aw p l e { frames := 0, cells := 0, slots := 0, locals := 0 } s m args below meth c 4 D tA A (MQ below (QC0 D tA ad A sh (fun r G' => ∃ v, r = some (.int v) ∧ K v G')) args s 0 0 A) 0 0 ad 5 [some (.ref 46), some (.int x1), some (.int x2), none] [] sh G0) (rec11 : Int32 → Int32 → Int32 → Gt → Prop) (hrec11 : ∀ (x1 : Int32) (x2 : Int32) (x3 : Int32) (G0 : Gt), rec11 x1 x2 x3 G0 → aw p l e { frames := 0, cells := 0, slots := 0, locals := 0 } s m args below meth c 4 D tA A (MQ below (QC0 D tA ad A sh (fun r G' => ∃ v, r = some (.int v) ∧ K v G')) args s 0 0 A) 0 0 ad 11 [some (.ref 46), some (.int x1), some (.int x2), some (.int x3)] [] sh G0) (x2 : Int32) (x3 : Int32) (y0 : Int32) (G0 : Gt), w_X11_inOrder_j44 K rec5 rec11 x2 x3 y0 G0 → aw p l e { frames := 0, cells := 0, slots := 0, locals := 0 } s m args below meth c 4 D tA A (MQ below (QC0 D tA ad A sh (fun r G' => ∃ v, r = some (.int v) ∧ K v G')) args s 0 0 A) 0 0 ad 44 [some (.ref 46), none, some (.int x2), some (.int x3)] [.int y0] sh G0 := by
    intro rec5 hrec5 rec11 hrec11 x2 x3 y0 G0 hw
    unfold w_X11_inOrder_j44 at hw
    refine aw_istoren C dX11_inOrder_44 (by decide) rfl ?_
    refine aw_iinc (w := (x3 + (-1))) C dX11_inOrder_45 rfl rfl (by decide) rfl ?_
    refine aw_goto (tgt := 11) C dX11_inOrder_48 (by decide) ?_
    exact aw_msk [true, true, true, true] (hrec11 y0 x2 (x3 + (-1)) _ hw)
  have h11 : ∀ (rec5 : Int32 → Int32 → Gt → Prop) (hrec5 : ∀ (x1 : Int32) (x2 : Int32) (G0 : Gt), rec5 x1 x2 G0 → aw p l e { frames := 0, cells := 0, slots := 0, locals := 0 } s m args below meth c 4 D tA A (MQ below (QC0 D tA ad A sh (fun r G' => ∃ v, r = some (.int v) ∧ K v G')) args s 0 0 A) 0 0 ad 5 [some (.ref 46), some (.int x1), some (.int x2), none] [] sh G0) (n : Nat) (x1 : Int32) (x2 : Int32) (x3 : Int32) (G0 : Gt), w_X11_inOrder_h11 K rec5 n x1 x2 x3 G0 → aw p l e { frames := 0, cells := 0, slots := 0, locals := 0 } s m args below meth c 4 D tA A (MQ below (QC0 D tA ad A sh (fun r G' => ∃ v, r = some (.int v) ∧ K v G')) args s 0 0 A) 0 0 ad 11 [some (.ref 46), some (.int x1), some (.int x2), some (.int x3)] [] sh G0 := by
    intro rec5 hrec5 n
    induction n with
    | zero => intro x1 x2 x3 G0 hw; exact hw.elim
    | succ n ih =>
      intro x1 x2 x3 G0 hw
      rw [w_X11_inOrder_h11] at hw
      refine aw_iloadn C dX11_inOrder_11 rfl ?_
      refine aw_if_lt C dX11_inOrder_12 51 (by decide) hw (fun hc12 hw => ?_) (fun hc12 hw => ?_)
      · refine aw_iinc (w := (x2 + (-1))) C dX11_inOrder_51 rfl rfl (by decide) rfl ?_
        refine aw_goto (tgt := 5) C dX11_inOrder_54 (by decide) ?_
        exact aw_msk [true, true, true, false] (hrec5 x1 (x2 + (-1)) _ hw)
      · refine aw_aloadn C dX11_inOrder_15 rfl ?_
        refine aw_getR (r := 60) C dX11_inOrder_16 kcX11 (sA_46 S) 17 (by decide) rfl mF_X11_57 ?_
        refine aw_iconst (v := 4) C dX11_inOrder_19 (by decide) ?_
        refine aw_aloadn C dX11_inOrder_20 rfl ?_
        refine aw_getI C dX11_inOrder_21 kcX11 (sA_46 S) 14 (by decide) rfl mF_X11_180 ?_
        refine aw_imul C dX11_inOrder_24 ?_
        refine aw_iloadn C dX11_inOrder_25 rfl ?_
        refine aw_iadd C dX11_inOrder_26 ?_
        refine aw_iald C dX11_inOrder_27 (sA_60 S) hw.1 ?_
        replace hw := hw.2
        refine aw_iloadn C dX11_inOrder_28 rfl ?_
        refine aw_ic_ne C dX11_inOrder_29 43 (by decide) hw (fun hc29 hw => ?_) (fun hc29 hw => ?_)
        · refine aw_iloadn C dX11_inOrder_43 rfl ?_
          exact aw_msk [true, false, true, true] (h44 _ hrec5 _ ih x2 x3 x1 _ hw)
        · refine aw_bipush (v := 8) C dX11_inOrder_32 (by decide) ?_
          refine aw_iloadn C dX11_inOrder_34 rfl ?_
          refine aw_imul C dX11_inOrder_35 ?_
          refine aw_iloadn C dX11_inOrder_36 rfl ?_
          refine aw_iadd C dX11_inOrder_37 ?_
          refine aw_iconst (v := 1) C dX11_inOrder_38 (by decide) ?_
          refine aw_iadd C dX11_inOrder_39 ?_
          refine aw_goto (tgt := 44) C dX11_inOrder_40 (by decide) ?_
          exact aw_msk [true, false, true, true] (h44 _ hrec5 _ ih x2 x3 (((8 * x1) + x3) + 1) _ hw)
  have h5 : ∀ (n : Nat) (x1 : Int32) (x2 : Int32) (G0 : Gt), w_X11_inOrder_h5 K n x1 x2 G0 → aw p l e { frames := 0, cells := 0, slots := 0, locals := 0 } s m args below meth c 4 D tA A (MQ below (QC0 D tA ad A sh (fun r G' => ∃ v, r = some (.int v) ∧ K v G')) args s 0 0 A) 0 0 ad 5 [some (.ref 46), some (.int x1), some (.int x2), none] [] sh G0 := by
    intro  n
    induction n with
    | zero => intro x1 x2 G0 hw; exact hw.elim
    | succ n ih =>
      intro x1 x2 G0 hw
      rw [w_X11_inOrder_h5] at hw
      refine aw_iloadn C dX11_inOrder_5 rfl ?_
      refine aw_if_lt C dX11_inOrder_6 57 (by decide) hw (fun hc6 hw => ?_) (fun hc6 hw => ?_)
      · refine aw_iloadn C dX11_inOrder_57 rfl ?_
        exact aw_ireturn C hr dX11_inOrder_58 ⟨_, rfl, hw⟩
      · refine aw_iconst (v := 3) C dX11_inOrder_9 (by decide) ?_
        refine aw_istoren C dX11_inOrder_10 (by decide) rfl ?_
        obtain ⟨n0, hw⟩ := hw
        exact aw_msk [true, true, true, true] (h11 _ ih n0 x1 x2 3 _ hw)
  unfold w_X11_inOrder at hw
  show aw p l e { frames := 0, cells := 0, slots := 0, locals := 0 } s m args below meth c 4 D tA A (MQ below (QC0 D tA ad A sh (fun r G' => ∃ v, r = some (.int v) ∧ K v G')) args s 0 0 A) 0 0 ad 0 [some (.ref 46), none, none, none] [] sh G0
  refine aw_iconst (v := 0) C dX11_inOrder_0 (by decide) ?_
  refine aw_istoren C dX11_inOrder_1 (by decide) rfl ?_
  refine aw_bipush (v := 40) C dX11_inOrder_2 (by decide) ?_
  refine aw_istoren C dX11_inOrder_4 (by decide) rfl ?_
  obtain ⟨n0, hw⟩ := hw
  exact aw_msk [true, true, true, false] (h5 n0 0 40 _ hw)
def w_X11_setsBack_j56 (K : Gt → Prop) (x2 : Int32) (x3 : Int32) (G0 : Gt) : Prop :=
  vp_in x2 2 ∧
  pt (gu G0 61 (x2 : Int32).toNatClampNeg x3) fun G1 =>
  K G1
def w_X11_setsBack_h36 (K : Gt → Prop) : Nat → Int32 → Int32 → Gt → Prop
  | 0, _, _, _ => False
  | n + 1, x2, x3, G0 =>
    vp_in ((4 * x2) + x3) 8 ∧
    pif ((G0 60 (((4 * x2) + x3) : Int32).toNatClampNeg) = (-1)) (
      (w_X11_setsBack_h36 K n) x2 (x3 + 1) G0) (
      w_X11_setsBack_j56 K x2 x3 G0)
def w_X11_setsBack (K : Gt → Prop) (p0 : Int32) (G0 : Gt) : Prop :=
  vp_in p0 1220 ∧
  vp_in p0 1220 ∧
  vp_in ((4 * ((G0 69 (p0 : Int32).toNatClampNeg) / 8)) + ((G0 69 (p0 : Int32).toNatClampNeg) - (G0 69 (p0 : Int32).toNatClampNeg) / 8 * 8)) 8 ∧
  pif ((G0 60 (((4 * ((G0 69 (p0 : Int32).toNatClampNeg) / 8)) + ((G0 69 (p0 : Int32).toNatClampNeg) - (G0 69 (p0 : Int32).toNatClampNeg) / 8 * 8)) : Int32).toNatClampNeg) = (-1)) (
    ∃ i, w_X11_setsBack_h36 K i ((G0 69 (p0 : Int32).toNatClampNeg) / 8) 0 G0) (
    w_X11_setsBack_j56 K ((G0 69 (p0 : Int32).toNatClampNeg) / 8) ((G0 69 (p0 : Int32).toNatClampNeg) - (G0 69 (p0 : Int32).toNatClampNeg) / 8 * 8) G0)
set_option maxHeartbeats 4000000 in
set_option maxRecDepth 100000 in
theorem t_X11_setsBack {l : Launch} {sh : Sh} (S : shOK sh) (p0 : Int32) (G0 : Gt) (K : Gt → Prop) (hw : w_X11_setsBack K p0 G0) : CT0 l yX11_setsBack cX11_setsBack 4 none 0 0 [.ref 46, .int p0] sh G0 (fun r G' => r = none ∧ K G') := by
  refine CT0_of (by decide) (Nat.le_of_ble_eq_true rfl) rfl ?_
  intro p e s m args below meth c D tA ad A C hr _
  have h56 : ∀ (x2 : Int32) (x3 : Int32) (G0 : Gt), w_X11_setsBack_j56 K x2 x3 G0 → aw p l e { frames := 0, cells := 0, slots := 0, locals := 0 } s m args below meth c 4 D tA A (MQ below (QC0 D tA ad A sh (fun r G' => r = none ∧ K G')) args s 0 0 A) 0 0 ad 56 [some (.ref 46), none, some (.int x2), some (.int x3)] [] sh G0 := by
    intro  x2 x3 G0 hw
    unfold w_X11_setsBack_j56 at hw
    refine aw_aloadn C dX11_setsBack_56 rfl ?_
    refine aw_getR (r := 61) C dX11_setsBack_57 kcX11 (sA_46 S) 18 (by decide) rfl mF_X11_60 ?_
    refine aw_iloadn C dX11_setsBack_60 rfl ?_
    refine aw_iloadn C dX11_setsBack_61 rfl ?_
    refine aw_iast C dX11_setsBack_62 (sA_61 S) hw.1 hw.2 (fun G1 hw => ?_)
    exact aw_return C hr dX11_setsBack_63 ⟨rfl, hw⟩
  have h36 : ∀ (n : Nat) (x2 : Int32) (x3 : Int32) (G0 : Gt), w_X11_setsBack_h36 K n x2 x3 G0 → aw p l e { frames := 0, cells := 0, slots := 0, locals := 0 } s m args below meth c 4 D tA A (MQ below (QC0 D tA ad A sh (fun r G' => r = none ∧ K G')) args s 0 0 A) 0 0 ad 36 [some (.ref 46), none, some (.int x2), some (.int x3)] [] sh G0 := by
    intro  n
    induction n with
    | zero => intro x2 x3 G0 hw; exact hw.elim
    | succ n ih =>
      intro x2 x3 G0 hw
      rw [w_X11_setsBack_h36] at hw
      refine aw_aloadn C dX11_setsBack_36 rfl ?_
      refine aw_getR (r := 60) C dX11_setsBack_37 kcX11 (sA_46 S) 17 (by decide) rfl mF_X11_57 ?_
      refine aw_iconst (v := 4) C dX11_setsBack_40 (by decide) ?_
      refine aw_iloadn C dX11_setsBack_41 rfl ?_
      refine aw_imul C dX11_setsBack_42 ?_
      refine aw_iloadn C dX11_setsBack_43 rfl ?_
      refine aw_iadd C dX11_setsBack_44 ?_
      refine aw_iald C dX11_setsBack_45 (sA_60 S) hw.1 ?_
      replace hw := hw.2
      refine aw_iconst (v := (-1)) C dX11_setsBack_46 (by decide) ?_
      refine aw_ic_ne C dX11_setsBack_47 56 (by decide) hw (fun hc47 hw => ?_) (fun hc47 hw => ?_)
      · exact aw_msk [true, false, true, true] (h56 x2 x3 _ hw)
      · refine aw_iinc (w := (x3 + 1)) C dX11_setsBack_50 rfl rfl (by decide) rfl ?_
        refine aw_goto (tgt := 36) C dX11_setsBack_53 (by decide) ?_
        exact aw_msk [true, false, true, true] (ih x2 (x3 + 1) _ hw)
  unfold w_X11_setsBack at hw
  show aw p l e { frames := 0, cells := 0, slots := 0, locals := 0 } s m args below meth c 4 D tA A (MQ below (QC0 D tA ad A sh (fun r G' => r = none ∧ K G')) args s 0 0 A) 0 0 ad 0 [some (.ref 46), some (.int p0), none, none] [] sh G0
  refine aw_aloadn C dX11_setsBack_0 rfl ?_
  refine aw_getR (r := 69) C dX11_setsBack_1 kcX11 (sA_46 S) 27 (by decide) rfl mF_X11_84 ?_
  refine aw_iloadn C dX11_setsBack_4 rfl ?_
  refine aw_iald C dX11_setsBack_5 (sA_69 S) hw.1 ?_
  replace hw := hw.2
  refine aw_bipush (v := 8) C dX11_setsBack_6 (by decide) ?_
  refine aw_idiv C dX11_setsBack_8 (by decide) ?_
  refine aw_istoren C dX11_setsBack_9 (by decide) rfl ?_
  refine aw_aloadn C dX11_setsBack_10 rfl ?_
  refine aw_getR (r := 69) C dX11_setsBack_11 kcX11 (sA_46 S) 27 (by decide) rfl mF_X11_84 ?_
  refine aw_iloadn C dX11_setsBack_14 rfl ?_
  refine aw_iald C dX11_setsBack_15 (sA_69 S) hw.1 ?_
  replace hw := hw.2
  refine aw_bipush (v := 8) C dX11_setsBack_16 (by decide) ?_
  refine aw_irem C dX11_setsBack_18 (by decide) ?_
  refine aw_istoren C dX11_setsBack_19 (by decide) rfl ?_
  refine aw_aloadn C dX11_setsBack_20 rfl ?_
  refine aw_getR (r := 60) C dX11_setsBack_21 kcX11 (sA_46 S) 17 (by decide) rfl mF_X11_57 ?_
  refine aw_iconst (v := 4) C dX11_setsBack_24 (by decide) ?_
  refine aw_iloadn C dX11_setsBack_25 rfl ?_
  refine aw_imul C dX11_setsBack_26 ?_
  refine aw_iloadn C dX11_setsBack_27 rfl ?_
  refine aw_iadd C dX11_setsBack_28 ?_
  refine aw_iald C dX11_setsBack_29 (sA_60 S) hw.1 ?_
  replace hw := hw.2
  refine aw_iconst (v := (-1)) C dX11_setsBack_30 (by decide) ?_
  refine aw_ic_ne C dX11_setsBack_31 56 (by decide) hw (fun hc31 hw => ?_) (fun hc31 hw => ?_)
  · exact aw_msk [true, false, true, true] (h56 ((G0 69 (p0 : Int32).toNatClampNeg) / 8) ((G0 69 (p0 : Int32).toNatClampNeg) - (G0 69 (p0 : Int32).toNatClampNeg) / 8 * 8) _ hw)
  · refine aw_iconst (v := 0) C dX11_setsBack_34 (by decide) ?_
    refine aw_istoren C dX11_setsBack_35 (by decide) rfl ?_
    obtain ⟨n0, hw⟩ := hw
    exact aw_msk [true, false, true, true] (h36 n0 ((G0 69 (p0 : Int32).toNatClampNeg) / 8) 0 _ hw)
def w_X11_closes_j26 (K : Gt → Prop) (x1 : Int32) (G0 : Gt) : Prop :=
  pif (x1 = (G0 46 35)) (
    pt (gu G0 46 41 0) fun G4 =>
    pt (gu G4 46 53 1) fun G5 =>
    K G5) (
    vp_in x1 610 ∧
    pt (gu G0 77 (x1 : Int32).toNatClampNeg 3) fun G1 =>
    vp_in x1 610 ∧
    vp_in (G1 79 (x1 : Int32).toNatClampNeg) 1220 ∧
    pt (gu G1 65 ((G1 79 (x1 : Int32).toNatClampNeg) : Int32).toNatClampNeg (-1)) fun G2 =>
    vp_in x1 610 ∧
    w_X11_leaves (fun G3 =>
      K G3) (G2 78 (x1 : Int32).toNatClampNeg) 5 0 0 G2)
def w_X11_closes_h2 (K : Gt → Prop) : Nat → Int32 → Gt → Prop
  | 0, _, _ => False
  | n + 1, x1, G0 =>
    pif ((G0 46 35) ≤ x1) (
      w_X11_closes_j26 K x1 G0) (
      vp_in x1 610 ∧
      pif ((G0 77 (x1 : Int32).toNatClampNeg) = 1) (
        w_X11_closes_j26 K x1 G0) (
        (w_X11_closes_h2 K n) (x1 + 1) G0))
def w_X11_closes (K : Gt → Prop) (G0 : Gt) : Prop :=
  ∃ i, w_X11_closes_h2 K i 0 G0
set_option maxHeartbeats 4000000 in
set_option maxRecDepth 100000 in
theorem t_X11_closes {l : Launch} {sh : Sh} (S : shOK sh) (G0 : Gt) (K : Gt → Prop) (hw : w_X11_closes K G0) : CT0 l yX11_closes cX11_closes 2 none 1 24 [.ref 46] sh G0 (fun r G' => r = none ∧ K G') := by
  refine CT0_of (by decide) (Nat.le_of_ble_eq_true rfl) rfl ?_
  intro p e s m args below meth c D tA ad A C hr _
  have h26 : ∀ (x1 : Int32) (G0 : Gt), w_X11_closes_j26 K x1 G0 → aw p l e { frames := 1, cells := 0, slots := 0, locals := 24 } s m args below meth c 2 D tA A (MQ below (QC0 D tA ad A sh (fun r G' => r = none ∧ K G')) args s 0 0 A) 0 0 ad 26 [some (.ref 46), some (.int x1)] [] sh G0 := by
    intro  x1 G0 hw
    unfold w_X11_closes_j26 at hw
    refine aw_iloadn C dX11_closes_26 rfl ?_
    refine aw_aloadn C dX11_closes_27 rfl ?_
    refine aw_getI C dX11_closes_28 kcX11 (sA_46 S) 35 (by decide) rfl mF_X11_292 ?_
    refine aw_ic_ne C dX11_closes_31 45 (by decide) hw (fun hc31 hw => ?_) (fun hc31 hw => ?_)
    · refine aw_aloadn C dX11_closes_45 rfl ?_
      refine aw_getR (r := 77) C dX11_closes_46 kcX11 (sA_46 S) 38 (by decide) rfl mF_X11_108 ?_
      refine aw_iloadn C dX11_closes_49 rfl ?_
      refine aw_iconst (v := 3) C dX11_closes_50 (by decide) ?_
      refine aw_iast C dX11_closes_51 (sA_77 S) hw.1 hw.2 (fun G1 hw => ?_)
      refine aw_aloadn C dX11_closes_52 rfl ?_
      refine aw_getR (r := 65) C dX11_closes_53 kcX11 (sA_46 S) 23 (by decide) rfl mF_X11_72 ?_
      refine aw_aloadn C dX11_closes_56 rfl ?_
      refine aw_getR (r := 79) C dX11_closes_57 kcX11 (sA_46 S) 40 (by decide) rfl mF_X11_114 ?_
      refine aw_iloadn C dX11_closes_60 rfl ?_
      refine aw_iald C dX11_closes_61 (sA_79 S) hw.1 ?_
      replace hw := hw.2
      refine aw_iconst (v := (-1)) C dX11_closes_62 (by decide) ?_
      refine aw_iast C dX11_closes_63 (sA_65 S) hw.1 hw.2 (fun G2 hw => ?_)
      refine aw_aloadn C dX11_closes_64 rfl ?_
      refine aw_aloadn C dX11_closes_65 rfl ?_
      refine aw_getR (r := 78) C dX11_closes_66 kcX11 (sA_46 S) 39 (by decide) rfl mF_X11_111 ?_
      refine aw_iloadn C dX11_closes_69 rfl ?_
      refine aw_iald C dX11_closes_70 (sA_78 S) hw.1 ?_
      replace hw := hw.2
      refine aw_iconst (v := 5) C dX11_closes_71 (by decide) ?_
      refine aw_iconst (v := 0) C dX11_closes_72 (by decide) ?_
      refine aw_iconst (v := 0) C dX11_closes_73 (by decide) ?_
      refine aw_callV C dX11_closes_74 (t_X11_leaves S (G2 78 (x1 : Int32).toNatClampNeg) 5 0 0 _ _ hw) mM_X11_319 bX11_leaves (sA_46 S) rfl rfl ⟨Nat.le_of_ble_eq_true rfl, Nat.le_of_ble_eq_true rfl, Nat.zero_le _, Nat.zero_le _⟩ _ rfl (Nat.le_of_ble_eq_true rfl) (fun r74 G3 hq => ?_)
      obtain ⟨rfl, hw⟩ := hq
      exact aw_return C hr dX11_closes_77 ⟨rfl, hw⟩
    · refine aw_aloadn C dX11_closes_34 rfl ?_
      refine aw_iconst (v := 0) C dX11_closes_35 (by decide) ?_
      refine aw_putI C dX11_closes_36 kcX11 (sA_46 S) 41 (by decide) rfl mF_X11_202 rfl rfl rfl hw (fun G4 hw => ?_)
      refine aw_aloadn C dX11_closes_39 rfl ?_
      refine aw_iconst (v := 1) C dX11_closes_40 (by decide) ?_
      refine aw_putI C dX11_closes_41 kcX11 (sA_46 S) 53 (by decide) rfl mF_X11_389 rfl rfl rfl hw (fun G5 hw => ?_)
      exact aw_return C hr dX11_closes_44 ⟨rfl, hw⟩
  have h2 : ∀ (n : Nat) (x1 : Int32) (G0 : Gt), w_X11_closes_h2 K n x1 G0 → aw p l e { frames := 1, cells := 0, slots := 0, locals := 24 } s m args below meth c 2 D tA A (MQ below (QC0 D tA ad A sh (fun r G' => r = none ∧ K G')) args s 0 0 A) 0 0 ad 2 [some (.ref 46), some (.int x1)] [] sh G0 := by
    intro  n
    induction n with
    | zero => intro x1 G0 hw; exact hw.elim
    | succ n ih =>
      intro x1 G0 hw
      rw [w_X11_closes_h2] at hw
      refine aw_iloadn C dX11_closes_2 rfl ?_
      refine aw_aloadn C dX11_closes_3 rfl ?_
      refine aw_getI C dX11_closes_4 kcX11 (sA_46 S) 35 (by decide) rfl mF_X11_292 ?_
      refine aw_ic_ge C dX11_closes_7 26 (by decide) hw (fun hc7 hw => ?_) (fun hc7 hw => ?_)
      · exact aw_msk [true, true] (h26 x1 _ hw)
      · refine aw_aloadn C dX11_closes_10 rfl ?_
        refine aw_getR (r := 77) C dX11_closes_11 kcX11 (sA_46 S) 38 (by decide) rfl mF_X11_108 ?_
        refine aw_iloadn C dX11_closes_14 rfl ?_
        refine aw_iald C dX11_closes_15 (sA_77 S) hw.1 ?_
        replace hw := hw.2
        refine aw_iconst (v := 1) C dX11_closes_16 (by decide) ?_
        refine aw_ic_eq C dX11_closes_17 26 (by decide) hw (fun hc17 hw => ?_) (fun hc17 hw => ?_)
        · exact aw_msk [true, true] (h26 x1 _ hw)
        · refine aw_iinc (w := (x1 + 1)) C dX11_closes_20 rfl rfl (by decide) rfl ?_
          refine aw_goto (tgt := 2) C dX11_closes_23 (by decide) ?_
          exact aw_msk [true, true] (ih (x1 + 1) _ hw)
  unfold w_X11_closes at hw
  show aw p l e { frames := 1, cells := 0, slots := 0, locals := 24 } s m args below meth c 2 D tA A (MQ below (QC0 D tA ad A sh (fun r G' => r = none ∧ K G')) args s 0 0 A) 0 0 ad 0 [some (.ref 46), none] [] sh G0
  refine aw_iconst (v := 0) C dX11_closes_0 (by decide) ?_
  refine aw_istoren C dX11_closes_1 (by decide) rfl ?_
  obtain ⟨n0, hw⟩ := hw
  exact aw_msk [true, true] (h2 n0 0 _ hw)
def w_X11_comesBack (K : Gt → Prop) (p0 : Int32) (G0 : Gt) : Prop :=
  vp_in p0 1220 ∧
  pt (gu G0 46 49 (G0 70 (p0 : Int32).toNatClampNeg)) fun G1 =>
  pt (gu G1 46 50 ((G1 46 50) - 1)) fun G2 =>
  K G2
set_option maxHeartbeats 4000000 in
set_option maxRecDepth 100000 in
theorem t_X11_comesBack {l : Launch} {sh : Sh} (S : shOK sh) (p0 : Int32) (G0 : Gt) (K : Gt → Prop) (hw : w_X11_comesBack K p0 G0) : CT0 l yX11_comesBack cX11_comesBack 2 none 0 0 [.ref 46, .int p0] sh G0 (fun r G' => r = none ∧ K G') := by
  refine CT0_of (by decide) (Nat.le_of_ble_eq_true rfl) rfl ?_
  intro p e s m args below meth c D tA ad A C hr _
  unfold w_X11_comesBack at hw
  show aw p l e { frames := 0, cells := 0, slots := 0, locals := 0 } s m args below meth c 2 D tA A (MQ below (QC0 D tA ad A sh (fun r G' => r = none ∧ K G')) args s 0 0 A) 0 0 ad 0 [some (.ref 46), some (.int p0)] [] sh G0
  refine aw_aloadn C dX11_comesBack_0 rfl ?_
  refine aw_aloadn C dX11_comesBack_1 rfl ?_
  refine aw_getR (r := 70) C dX11_comesBack_2 kcX11 (sA_46 S) 28 (by decide) rfl mF_X11_87 ?_
  refine aw_iloadn C dX11_comesBack_5 rfl ?_
  refine aw_iald C dX11_comesBack_6 (sA_70 S) hw.1 ?_
  replace hw := hw.2
  refine aw_putI C dX11_comesBack_7 kcX11 (sA_46 S) 49 (by decide) rfl mF_X11_221 rfl rfl rfl hw (fun G1 hw => ?_)
  refine aw_aloadn C dX11_comesBack_10 rfl ?_
  refine aw_dup C dX11_comesBack_11 rfl ?_
  refine aw_getI C dX11_comesBack_12 kcX11 (sA_46 S) 50 (by decide) rfl mF_X11_234 ?_
  refine aw_iconst (v := 1) C dX11_comesBack_15 (by decide) ?_
  refine aw_isub C dX11_comesBack_16 ?_
  refine aw_putI C dX11_comesBack_17 kcX11 (sA_46 S) 50 (by decide) rfl mF_X11_234 rfl rfl rfl hw (fun G2 hw => ?_)
  exact aw_return C hr dX11_comesBack_20 ⟨rfl, hw⟩
