def w_L_acts_A_j32 (K : Sh → Gt → Prop) (x5 : Int32) (x6 : Int32) (G0 : Gt) : Prop :=
  w_L_makes_A (fun s1 G4 => s1 = shA ∧
    K shA G4) (x5 >>> (4 &&& 31)) x6 G0
def w_L_acts_A_j479 (K : Sh → Gt → Prop) (G0 : Gt) : Prop :=
  w_L_write_A (fun v21 s1 G20 => s1 = shA ∧
    pif (v21 = (-1000001)) (
      w_L_write_A (fun v24 s1 G23 => s1 = shA ∧
        pif (v24 = (-1000002)) (
          K shA G23) (
          False)) 0 26 G20) (
      False)) 2 0 G0
def w_L_acts_A_j449 (K : Sh → Gt → Prop) (x6 : Int32) (x9 : Int32) (x10 : Int32) (y0 : Int32) (y1 : Int32) (G0 : Gt) : Prop :=
  pif (y0 = y1) (
    pif (x10 = 40) (
      w_L_acts_A_j479 K G0) (
      w_L_letter_A (fun v27 s1 G26 => s1 = shA ∧
        w_L_low (fun v28 G29 =>
          pif (v27 = v28) (
            w_L_acts_A_j479 K G29) (
            False)) (x6 >>> (3 &&& 31)) 26 G26) x9 x10 G0)) (
    False)
def w_L_acts_A_j445 (K : Sh → Gt → Prop) (x6 : Int32) (x9 : Int32) (x10 : Int32) (y0 : Int32) (G0 : Gt) : Prop :=
  w_L_acts_A_j449 K x6 x9 x10 y0 (x10 + 1) G0
def w_L_acts_A_j277 (K : Sh → Gt → Prop) (x9 : Int32) (x11 : Int32) (x12 : Int32) (y1 : Int32) (y2 : Int32) (y3 : Int32) (y4 : Int32) (G0 : Gt) : Prop :=
  w_L_define_A (fun v52 s1 G51 => s1 = shA ∧
    pif (v52 = x12) (
      w_L_body_A (fun v55 s1 G54 => s1 = shA ∧
        pif (v55 = x11) (
          w_L_define_A (fun v58 s1 G57 => s1 = shA ∧
            pif (v58 = (-1000001)) (
              w_L_define_A (fun v61 s1 G60 => s1 = shA ∧
                pif (v61 = (-1000002)) (
                  w_L_define_A (fun v64 s1 G63 => s1 = shA ∧
                    pif (v64 = (-1000002)) (
                      K shA G63) (
                      False)) 0 3 0 (-1) G60) (
                  False)) 0 1 0 0 G57) (
              False)) 6 0 0 (-1) G54) (
          False)) x9 G51) (
      False)) y1 y2 y3 y4 G0
def w_L_acts_A_j276 (K : Sh → Gt → Prop) (x9 : Int32) (x11 : Int32) (x12 : Int32) (y1 : Int32) (y2 : Int32) (y3 : Int32) (G0 : Gt) : Prop :=
  w_L_acts_A_j277 K x9 x11 x12 y1 y2 y3 (-1) G0
def w_L_acts_A_j272 (K : Sh → Gt → Prop) (x9 : Int32) (x11 : Int32) (x12 : Int32) (y1 : Int32) (y2 : Int32) (y3 : Int32) (G0 : Gt) : Prop :=
  w_L_acts_A_j277 K x9 x11 x12 y1 y2 y3 (-1) G0
def w_L_acts_A_j146 (K : Sh → Gt → Prop) (x5 : Int32) (y4 : Int32) (y5 : Int32) (G0 : Gt) : Prop :=
  w_L_low (fun v73 G74 =>
    w_L_runs_A (fun s1 G76 => s1 = shB ∧
      K shB G76) y4 y5 (1 + v73) G74) (x5 >>> (5 &&& 31)) 9 G0
def w_L_acts_A_j145 (K : Sh → Gt → Prop) (x5 : Int32) (y4 : Int32) (G0 : Gt) : Prop :=
  w_L_acts_A_j146 K x5 y4 0 G0
def w_L_acts_A_j116 (K : Sh → Gt → Prop) (x5 : Int32) (x6 : Int32) (x7 : Int32) (x8 : Int32) (G0 : Gt) : Prop :=
  pif (12 ≤ x7) (
    pif (x7 = 12) (
      w_L_budgets_A (fun s1 G70 => s1 = shB ∧
        K shB G70) x8 G0) (
      pif (x7 = 13) (
        w_L_gives_A (fun s1 G68 => s1 = shB ∧
          K shB G68) x8 (x5 >>> (4 &&& 31)) G0) (
        pif (x7 = 14) (
          w_L_low (fun v41 G42 =>
            w_L_low (fun v43 G44 =>
              vp_in 0 7 ∧
              w_L_low (fun v45 G46 =>
                w_L_body_A (fun v49 s1 G48 => s1 = shA ∧
                  pif (v43 = 2) (
                    w_L_low (fun v65 G66 =>
                      pif (v65 = 0) (
                        w_L_acts_A_j277 K v41 v45 v49 v41 v43 v45 x8 G66) (
                        w_L_acts_A_j272 K v41 v45 v49 v41 v43 v45 G66)) (x6 >>> (5 &&& 31)) 3 G48) (
                    w_L_acts_A_j276 K v41 v45 v49 v41 v43 v45 G48)) v41 G46) (x6 >>> (4 &&& 31)) (G44 47 (0 : Int32).toNatClampNeg) G44) (x6 >>> (2 &&& 31)) 3 G42) x6 3 G0) (
          w_L_low (fun v7 G8 =>
            w_L_length_A (fun v11 s1 G10 => s1 = shA ∧
              w_L_low (fun v12 G13 =>
                pif (v12 = 0) (
                  w_L_option_A (fun v32 s1 G31 => s1 = shA ∧
                    w_L_low (fun v33 G34 =>
                      w_L_setOption_A (fun v37 s1 G36 => s1 = shA ∧
                        pif (v37 = v32) (
                          w_L_option_A (fun v40 s1 G39 => s1 = shA ∧
                            pif (v40 = v33) (
                              K shA G39) (
                              False)) v7 G36) (
                          False)) v7 v33 G34) (x6 >>> (3 &&& 31)) 99 G31) v7 G13) (
                  w_L_low (fun v14 G15 =>
                    w_L_write_A (fun v18 s1 G17 => s1 = shA ∧
                      pif (v11 = 40) (
                        w_L_acts_A_j449 K x6 v7 v11 v18 (-1000003) G17) (
                        w_L_acts_A_j445 K x6 v7 v11 v18 G17)) v7 v14 G15) (x6 >>> (3 &&& 31)) 26 G13)) (x6 >>> (1 &&& 31)) 3 G10) v7 G8) x6 2 G0)))) (
    w_L_low (fun v71 G72 =>
      pif (v71 = 0) (
        w_L_acts_A_j146 K x5 x8 1 G72) (
        w_L_acts_A_j145 K x5 x8 G72)) (x5 >>> (4 &&& 31)) 2 G0)
def w_L_acts_A_j99 (K : Sh → Gt → Prop) (x5 : Int32) (x6 : Int32) (x7 : Int32) (x8 : Int32) (y1 : Int32) (y2 : Int32) (y3 : Int32) (G0 : Gt) : Prop :=
  vp_in y1 7 ∧
  pt (gu G0 47 (y1 : Int32).toNatClampNeg (y2 + y3)) fun G77 =>
  vp_in 6 7 ∧
  pif ((G77 47 (6 : Int32).toNatClampNeg) ≤ 30) (
    w_L_acts_A_j116 K x5 x6 x7 x8 G77) (
    w_L_told_A (fun s1 G79 => s1 = shA ∧
      K shA G79) G77)
def w_L_acts_A_j98 (K : Sh → Gt → Prop) (x5 : Int32) (x6 : Int32) (x7 : Int32) (x8 : Int32) (y1 : Int32) (y2 : Int32) (G0 : Gt) : Prop :=
  w_L_acts_A_j99 K x5 x6 x7 x8 y1 y2 1 G0
def w_L_acts_A_j68 (K : Sh → Gt → Prop) (x5 : Int32) (x6 : Int32) (x7 : Int32) (y0 : Int32) (y1 : Int32) (y2 : Int32) (G0 : Gt) : Prop :=
  w_L_low (fun v5 G6 =>
    pif (14 ≤ x7) (
      w_L_acts_A_j116 K x5 x6 x7 (y0 - v5) G6) (
      vp_in 6 7 ∧
      pif (x7 = 12) (
        w_L_acts_A_j99 K x5 x6 x7 (y0 - v5) 6 (G6 47 (6 : Int32).toNatClampNeg) 6 G6) (
        w_L_acts_A_j98 K x5 x6 x7 (y0 - v5) 6 (G6 47 (6 : Int32).toNatClampNeg) G6))) y1 y2 G0
def w_L_acts_A_j66 (K : Sh → Gt → Prop) (x5 : Int32) (x6 : Int32) (x7 : Int32) (y0 : Int32) (y1 : Int32) (G0 : Gt) : Prop :=
  w_L_acts_A_j68 K x5 x6 x7 y0 y1 12 G0
def w_L_acts_A_j45 (K : Sh → Gt → Prop) (x5 : Int32) (x6 : Int32) (x7 : Int32) (G0 : Gt) : Prop :=
  vp_in 0 7 ∧
  vp_in 0 7 ∧
  pif (12 ≤ (G0 47 (0 : Int32).toNatClampNeg)) (
    w_L_acts_A_j66 K x5 x6 x7 ((G0 47 (0 : Int32).toNatClampNeg) - 1) x6 G0) (
    vp_in 0 7 ∧
    w_L_acts_A_j68 K x5 x6 x7 ((G0 47 (0 : Int32).toNatClampNeg) - 1) x6 (G0 47 (0 : Int32).toNatClampNeg) G0)
def w_L_acts_A (K : Sh → Gt → Prop) (p5 : Int32) (p6 : Int32) (G0 : Gt) : Prop :=
  w_L_low (fun v1 G2 =>
    vp_in 0 7 ∧
    pif ((G2 47 (0 : Int32).toNatClampNeg) < 6) (
      w_L_acts_A_j32 K p5 p6 G2) (
      pif (9 ≤ v1) (
        w_L_acts_A_j45 K p5 p6 v1 G2) (
        vp_in 0 7 ∧
        pif (58 ≤ (G2 47 (0 : Int32).toNatClampNeg)) (
          w_L_acts_A_j45 K p5 p6 v1 G2) (
          w_L_acts_A_j32 K p5 p6 G2)))) p5 16 G0
set_option maxHeartbeats 4000000 in
set_option maxRecDepth 100000 in
theorem t_L_acts_A {l : Launch} (hlf : l.stackTraces = false) (p5 : Int32) (p6 : Int32) (G0 : Gt) (K : Sh → Gt → Prop) (hw : w_L_acts_A K p5 p6 G0) : CV l yL_acts cL_acts 13 (some .boolean) 11 277 1156 27313 [.ref 0, .ref 46, .ref 47, .ref 48, .ref 49, .int p5, .int p6] shA G0 (fun r s' G' => r = some (.int 1) ∧ K s' G') := by
  refine CV_of (by decide) (Nat.le_of_ble_eq_true rfl) rfl ?_
  intro p e s m args below meth c D tA ad A C hr
  have hF0 : ∀ j, j < 84 → ad j = ad j := fun _ _ => rfl
  have h32 : ∀ (ad1 : Nat → Nat) (k n : Nat) (x5 : Int32) (x6 : Int32) (G0 : Gt), (∀ j, j < 84 → ad1 j = ad j) → k + 6 ≤ 1156 → n + 36 ≤ 27313 → w_L_acts_A_j32 K x5 x6 G0 → aw p l e { frames := 11, cells := 1156, slots := 27313, locals := 277 } s m args below meth c 13 D tA A (MQ below (QL D tA ad A shA (fun r s' G' => r = some (.int 1) ∧ K s' G')) args s 1156 27313 A) k n ad1 32 [some (.ref 0), some (.ref 46), some (.ref 47), none, none, some (.int x5), some (.int x6), none, none, none, none, none, none] [] shA G0 := by
    intro ad1 k n x5 x6 G0 hF hk hn hw
    unfold w_L_acts_A_j32 at hw
    refine aw_aloadn C dL_acts_32 rfl ?_
    refine aw_aloadn C dL_acts_33 rfl ?_
    refine aw_aloadn C dL_acts_34 rfl ?_
    refine aw_iload C dL_acts_35 rfl ?_
    refine aw_iconst (v := 4) C dL_acts_37 (by decide) ?_
    refine aw_ishr C dL_acts_38 ?_
    refine aw_iload C dL_acts_39 rfl ?_
    refine aw_runQ (mc := 6) (ms := 36) (rest := []) C (run_S C dL_acts_41 (t_L_makes_A hlf (x5 >>> (4 &&& 31)) x6 _ _ hw) mM_L_208 bL_makes rfl rfl ⟨Nat.le_of_ble_eq_true rfl, Nat.le_of_ble_eq_true rfl, by show _ ≤ 1156; omega, by show _ ≤ 27313; omega⟩ [] rfl (Nat.le_of_ble_eq_true rfl)) ⟨by decide, by decide, by decide, trivial⟩ trivial (fun r41 ad_3 s41 G4 hEad_3 hq => ?_)
    obtain ⟨rfl, rfl, hw⟩ := hq
    have hFad_3 : (∀ j, j < 84 → ad_3 j = ad j) := fun j hj => (hEad_3 j (ltAA hj)).trans (hF j hj)
    exact aw_lzreturn C hr dL_acts_44 rfl (by omega) (by omega) (fun j hj => hFad_3 j (ltA_ hj)) ⟨rfl, hw⟩
  have h479 : ∀ (ad1 : Nat → Nat) (k n : Nat) (G0 : Gt), (∀ j, j < 84 → ad1 j = ad j) → k + 2 ≤ 1156 → n + 12 ≤ 27313 → w_L_acts_A_j479 K  G0 → aw p l e { frames := 11, cells := 1156, slots := 27313, locals := 277 } s m args below meth c 13 D tA A (MQ below (QL D tA ad A shA (fun r s' G' => r = some (.int 1) ∧ K s' G')) args s 1156 27313 A) k n ad1 479 [some (.ref 0), none, none, none, none, none, none, none, none, none, none, none, none] [] shA G0 := by
    intro ad1 k n  G0 hF hk hn hw
    unfold w_L_acts_A_j479 at hw
    refine aw_aloadn C dL_acts_479 rfl ?_
    refine aw_iconst (v := 2) C dL_acts_480 (by decide) ?_
    refine aw_iconst (v := 0) C dL_acts_481 (by decide) ?_
    refine aw_runQ (mc := 1) (ms := 6) (rest := []) C (run_W (na := 3) C dL_acts_482 (t_L_write_A hlf 2 0 _ _ hw) mM_L_192 mW_write mT_write mI_L (by decide +kernel) rfl ⟨Nat.le_of_ble_eq_true rfl, Nat.le_of_ble_eq_true rfl, by show _ ≤ 1156; omega, by show _ ≤ 27313; omega⟩ [] rfl (Nat.le_of_ble_eq_true rfl)) ⟨by decide, trivial⟩ trivial (fun r482 ad_19 s482 G20 hEad_19 hq => ?_)
    obtain ⟨v21, rfl, rfl, hw⟩ := hq
    have hFad_19 : (∀ j, j < 84 → ad_19 j = ad j) := fun j hj => (hEad_19 j (ltAA hj)).trans (hF j hj)
    refine aw_ldc (v := (-1000001)) C dL_acts_485 mK_L_18 ?_
    refine aw_ic_ne C dL_acts_487 506 (by decide) hw (fun hc487 hw => ?_) (fun hc487 hw => ?_)
    · exact hw.elim
    · refine aw_aloadn C dL_acts_490 rfl ?_
      refine aw_iconst (v := 0) C dL_acts_491 (by decide) ?_
      refine aw_bipush (v := 26) C dL_acts_492 (by decide) ?_
      refine aw_runQ (mc := 1) (ms := 6) (rest := []) C (run_W (na := 3) C dL_acts_494 (t_L_write_A hlf 0 26 _ _ hw) mM_L_192 mW_write mT_write mI_L (by decide +kernel) rfl ⟨Nat.le_of_ble_eq_true rfl, Nat.le_of_ble_eq_true rfl, by show _ ≤ 1156; omega, by show _ ≤ 27313; omega⟩ [] rfl (Nat.le_of_ble_eq_true rfl)) ⟨by decide, trivial⟩ trivial (fun r494 ad_22 s494 G23 hEad_22 hq => ?_)
      obtain ⟨v24, rfl, rfl, hw⟩ := hq
      have hFad_22 : (∀ j, j < 84 → ad_22 j = ad j) := fun j hj => (hEad_22 j (ltAA hj)).trans (hFad_19 j hj)
      refine aw_ldc (v := (-1000002)) C dL_acts_497 mK_L_21 ?_
      refine aw_ic_ne C dL_acts_499 506 (by decide) hw (fun hc499 hw => ?_) (fun hc499 hw => ?_)
      · exact hw.elim
      · refine aw_iconst (v := 1) C dL_acts_502 (by decide) ?_
        refine aw_goto (tgt := 507) C dL_acts_503 (by decide) ?_
        exact aw_lzreturn C hr dL_acts_507 rfl (by omega) (by omega) (fun j hj => hFad_22 j (ltA_ hj)) ⟨rfl, hw⟩
  have h449 : ∀ (ad1 : Nat → Nat) (k n : Nat) (x6 : Int32) (x9 : Int32) (x10 : Int32) (y0 : Int32) (y1 : Int32) (G0 : Gt), (∀ j, j < 84 → ad1 j = ad j) → k + 3 ≤ 1156 → n + 18 ≤ 27313 → w_L_acts_A_j449 K x6 x9 x10 y0 y1 G0 → aw p l e { frames := 11, cells := 1156, slots := 27313, locals := 277 } s m args below meth c 13 D tA A (MQ below (QL D tA ad A shA (fun r s' G' => r = some (.int 1) ∧ K s' G')) args s 1156 27313 A) k n ad1 449 [some (.ref 0), none, none, none, none, none, some (.int x6), none, none, some (.int x9), some (.int x10), none, none] [.int y1, .int y0] shA G0 := by
    intro ad1 k n x6 x9 x10 y0 y1 G0 hF hk hn hw
    unfold w_L_acts_A_j449 at hw
    refine aw_ic_ne C dL_acts_449 506 (by decide) hw (fun hc449 hw => ?_) (fun hc449 hw => ?_)
    · exact hw.elim
    · refine aw_iload C dL_acts_452 rfl ?_
      refine aw_bipush (v := 40) C dL_acts_454 (by decide) ?_
      refine aw_ic_eq C dL_acts_456 479 (by decide) hw (fun hc456 hw => ?_) (fun hc456 hw => ?_)
      · exact aw_msk [true, false, false, false, false, false, false, false, false, false, false, false, false] (h479 ad1 _ _ _ hF (by omega) (by omega) hw)
      · refine aw_aloadn C dL_acts_459 rfl ?_
        refine aw_iload C dL_acts_460 rfl ?_
        refine aw_iload C dL_acts_462 rfl ?_
        refine aw_runQ (mc := 1) (ms := 6) (rest := []) C (run_W (na := 3) C dL_acts_464 (t_L_letter_A hlf x9 x10 _ _ hw) mM_L_123 mW_letter mT_letter mI_L (by decide +kernel) rfl ⟨Nat.le_of_ble_eq_true rfl, Nat.le_of_ble_eq_true rfl, by show _ ≤ 1156; omega, by show _ ≤ 27313; omega⟩ [] rfl (Nat.le_of_ble_eq_true rfl)) ⟨by decide, trivial⟩ trivial (fun r464 ad_25 s464 G26 hEad_25 hq => ?_)
        obtain ⟨v27, rfl, rfl, hw⟩ := hq
        have hFad_25 : (∀ j, j < 84 → ad_25 j = ad j) := fun j hj => (hEad_25 j (ltAA hj)).trans (hF j hj)
        refine aw_iload C dL_acts_467 rfl ?_
        refine aw_iconst (v := 3) C dL_acts_469 (by decide) ?_
        refine aw_ishr C dL_acts_470 ?_
        refine aw_bipush (v := 26) C dL_acts_471 (by decide) ?_
        refine aw_callS C dL_acts_473 (t_L_low  (x6 >>> (3 &&& 31)) 26 _ _ hw) mM_L_93 bL_low rfl rfl ⟨Nat.le_of_ble_eq_true rfl, Nat.le_of_ble_eq_true rfl, by show _ ≤ 1156; omega, by show _ ≤ 27313; omega⟩ _ rfl (Nat.le_of_ble_eq_true rfl) (fun r473 G29 hq => ?_)
        obtain ⟨v28, rfl, hw⟩ := hq
        refine aw_ic_ne C dL_acts_476 506 (by decide) hw (fun hc476 hw => ?_) (fun hc476 hw => ?_)
        · exact hw.elim
        · exact aw_msk [true, false, false, false, false, false, false, false, false, false, false, false, false] (h479 ad_25 _ _ _ hFad_25 (by omega) (by omega) hw)
  have h445 : ∀ (ad1 : Nat → Nat) (k n : Nat) (x6 : Int32) (x9 : Int32) (x10 : Int32) (y0 : Int32) (G0 : Gt), (∀ j, j < 84 → ad1 j = ad j) → k + 3 ≤ 1156 → n + 18 ≤ 27313 → w_L_acts_A_j445 K x6 x9 x10 y0 G0 → aw p l e { frames := 11, cells := 1156, slots := 27313, locals := 277 } s m args below meth c 13 D tA A (MQ below (QL D tA ad A shA (fun r s' G' => r = some (.int 1) ∧ K s' G')) args s 1156 27313 A) k n ad1 445 [some (.ref 0), none, none, none, none, none, some (.int x6), none, none, some (.int x9), some (.int x10), none, none] [.int y0] shA G0 := by
    intro ad1 k n x6 x9 x10 y0 G0 hF hk hn hw
    unfold w_L_acts_A_j445 at hw
    refine aw_iload C dL_acts_445 rfl ?_
    refine aw_iconst (v := 1) C dL_acts_447 (by decide) ?_
    refine aw_iadd C dL_acts_448 ?_
    exact aw_msk [true, false, false, false, false, false, true, false, false, true, true, false, false] (h449 ad1 _ _ x6 x9 x10 y0 (x10 + 1) _ hF (by omega) (by omega) hw)
  have h277 : ∀ (ad1 : Nat → Nat) (k n : Nat) (x9 : Int32) (x11 : Int32) (x12 : Int32) (y1 : Int32) (y2 : Int32) (y3 : Int32) (y4 : Int32) (G0 : Gt), (∀ j, j < 84 → ad1 j = ad j) → k + 5 ≤ 1156 → n + 30 ≤ 27313 → w_L_acts_A_j277 K x9 x11 x12 y1 y2 y3 y4 G0 → aw p l e { frames := 11, cells := 1156, slots := 27313, locals := 277 } s m args below meth c 13 D tA A (MQ below (QL D tA ad A shA (fun r s' G' => r = some (.int 1) ∧ K s' G')) args s 1156 27313 A) k n ad1 277 [some (.ref 0), none, none, none, none, none, none, none, none, some (.int x9), none, some (.int x11), some (.int x12)] [.int y4, .int y3, .int y2, .int y1, .ref 0] shA G0 := by
    intro ad1 k n x9 x11 x12 y1 y2 y3 y4 G0 hF hk hn hw
    unfold w_L_acts_A_j277 at hw
    refine aw_runQ (mc := 1) (ms := 6) (rest := []) C (run_W (na := 5) C dL_acts_277 (t_L_define_A hlf y1 y2 y3 y4 _ _ hw) mM_L_194 mW_define mT_define mI_L (by decide +kernel) rfl ⟨Nat.le_of_ble_eq_true rfl, Nat.le_of_ble_eq_true rfl, by show _ ≤ 1156; omega, by show _ ≤ 27313; omega⟩ [] rfl (Nat.le_of_ble_eq_true rfl)) ⟨by decide, trivial⟩ trivial (fun r277 ad_50 s277 G51 hEad_50 hq => ?_)
    obtain ⟨v52, rfl, rfl, hw⟩ := hq
    have hFad_50 : (∀ j, j < 84 → ad_50 j = ad j) := fun j hj => (hEad_50 j (ltAA hj)).trans (hF j hj)
    refine aw_iload C dL_acts_280 rfl ?_
    refine aw_ic_ne C dL_acts_282 340 (by decide) hw (fun hc282 hw => ?_) (fun hc282 hw => ?_)
    · exact hw.elim
    · refine aw_aloadn C dL_acts_285 rfl ?_
      refine aw_iload C dL_acts_286 rfl ?_
      refine aw_runQ (mc := 1) (ms := 6) (rest := []) C (run_W (na := 2) C dL_acts_288 (t_L_body_A hlf x9 _ _ hw) mM_L_127 mW_body mT_body mI_L (by decide +kernel) rfl ⟨Nat.le_of_ble_eq_true rfl, Nat.le_of_ble_eq_true rfl, by show _ ≤ 1156; omega, by show _ ≤ 27313; omega⟩ [] rfl (Nat.le_of_ble_eq_true rfl)) ⟨by decide, trivial⟩ trivial (fun r288 ad_53 s288 G54 hEad_53 hq => ?_)
      obtain ⟨v55, rfl, rfl, hw⟩ := hq
      have hFad_53 : (∀ j, j < 84 → ad_53 j = ad j) := fun j hj => (hEad_53 j (ltAA hj)).trans (hFad_50 j hj)
      refine aw_iload C dL_acts_291 rfl ?_
      refine aw_ic_ne C dL_acts_293 340 (by decide) hw (fun hc293 hw => ?_) (fun hc293 hw => ?_)
      · exact hw.elim
      · refine aw_aloadn C dL_acts_296 rfl ?_
        refine aw_bipush (v := 6) C dL_acts_297 (by decide) ?_
        refine aw_iconst (v := 0) C dL_acts_299 (by decide) ?_
        refine aw_iconst (v := 0) C dL_acts_300 (by decide) ?_
        refine aw_iconst (v := (-1)) C dL_acts_301 (by decide) ?_
        refine aw_runQ (mc := 1) (ms := 6) (rest := []) C (run_W (na := 5) C dL_acts_302 (t_L_define_A hlf 6 0 0 (-1) _ _ hw) mM_L_194 mW_define mT_define mI_L (by decide +kernel) rfl ⟨Nat.le_of_ble_eq_true rfl, Nat.le_of_ble_eq_true rfl, by show _ ≤ 1156; omega, by show _ ≤ 27313; omega⟩ [] rfl (Nat.le_of_ble_eq_true rfl)) ⟨by decide, trivial⟩ trivial (fun r302 ad_56 s302 G57 hEad_56 hq => ?_)
        obtain ⟨v58, rfl, rfl, hw⟩ := hq
        have hFad_56 : (∀ j, j < 84 → ad_56 j = ad j) := fun j hj => (hEad_56 j (ltAA hj)).trans (hFad_53 j hj)
        refine aw_ldc (v := (-1000001)) C dL_acts_305 mK_L_18 ?_
        refine aw_ic_ne C dL_acts_307 340 (by decide) hw (fun hc307 hw => ?_) (fun hc307 hw => ?_)
        · exact hw.elim
        · refine aw_aloadn C dL_acts_310 rfl ?_
          refine aw_iconst (v := 0) C dL_acts_311 (by decide) ?_
          refine aw_iconst (v := 1) C dL_acts_312 (by decide) ?_
          refine aw_iconst (v := 0) C dL_acts_313 (by decide) ?_
          refine aw_iconst (v := 0) C dL_acts_314 (by decide) ?_
          refine aw_runQ (mc := 1) (ms := 6) (rest := []) C (run_W (na := 5) C dL_acts_315 (t_L_define_A hlf 0 1 0 0 _ _ hw) mM_L_194 mW_define mT_define mI_L (by decide +kernel) rfl ⟨Nat.le_of_ble_eq_true rfl, Nat.le_of_ble_eq_true rfl, by show _ ≤ 1156; omega, by show _ ≤ 27313; omega⟩ [] rfl (Nat.le_of_ble_eq_true rfl)) ⟨by decide, trivial⟩ trivial (fun r315 ad_59 s315 G60 hEad_59 hq => ?_)
          obtain ⟨v61, rfl, rfl, hw⟩ := hq
          have hFad_59 : (∀ j, j < 84 → ad_59 j = ad j) := fun j hj => (hEad_59 j (ltAA hj)).trans (hFad_56 j hj)
          refine aw_ldc (v := (-1000002)) C dL_acts_318 mK_L_21 ?_
          refine aw_ic_ne C dL_acts_320 340 (by decide) hw (fun hc320 hw => ?_) (fun hc320 hw => ?_)
          · exact hw.elim
          · refine aw_aloadn C dL_acts_323 rfl ?_
            refine aw_iconst (v := 0) C dL_acts_324 (by decide) ?_
            refine aw_iconst (v := 3) C dL_acts_325 (by decide) ?_
            refine aw_iconst (v := 0) C dL_acts_326 (by decide) ?_
            refine aw_iconst (v := (-1)) C dL_acts_327 (by decide) ?_
            refine aw_runQ (mc := 1) (ms := 6) (rest := []) C (run_W (na := 5) C dL_acts_328 (t_L_define_A hlf 0 3 0 (-1) _ _ hw) mM_L_194 mW_define mT_define mI_L (by decide +kernel) rfl ⟨Nat.le_of_ble_eq_true rfl, Nat.le_of_ble_eq_true rfl, by show _ ≤ 1156; omega, by show _ ≤ 27313; omega⟩ [] rfl (Nat.le_of_ble_eq_true rfl)) ⟨by decide, trivial⟩ trivial (fun r328 ad_62 s328 G63 hEad_62 hq => ?_)
            obtain ⟨v64, rfl, rfl, hw⟩ := hq
            have hFad_62 : (∀ j, j < 84 → ad_62 j = ad j) := fun j hj => (hEad_62 j (ltAA hj)).trans (hFad_59 j hj)
            refine aw_ldc (v := (-1000002)) C dL_acts_331 mK_L_21 ?_
            refine aw_ic_ne C dL_acts_333 340 (by decide) hw (fun hc333 hw => ?_) (fun hc333 hw => ?_)
            · exact hw.elim
            · refine aw_iconst (v := 1) C dL_acts_336 (by decide) ?_
              refine aw_goto (tgt := 341) C dL_acts_337 (by decide) ?_
              exact aw_lzreturn C hr dL_acts_341 rfl (by omega) (by omega) (fun j hj => hFad_62 j (ltA_ hj)) ⟨rfl, hw⟩
  have h276 : ∀ (ad1 : Nat → Nat) (k n : Nat) (x9 : Int32) (x11 : Int32) (x12 : Int32) (y1 : Int32) (y2 : Int32) (y3 : Int32) (G0 : Gt), (∀ j, j < 84 → ad1 j = ad j) → k + 5 ≤ 1156 → n + 30 ≤ 27313 → w_L_acts_A_j276 K x9 x11 x12 y1 y2 y3 G0 → aw p l e { frames := 11, cells := 1156, slots := 27313, locals := 277 } s m args below meth c 13 D tA A (MQ below (QL D tA ad A shA (fun r s' G' => r = some (.int 1) ∧ K s' G')) args s 1156 27313 A) k n ad1 276 [some (.ref 0), none, none, none, none, none, none, none, none, some (.int x9), none, some (.int x11), some (.int x12)] [.int y3, .int y2, .int y1, .ref 0] shA G0 := by
    intro ad1 k n x9 x11 x12 y1 y2 y3 G0 hF hk hn hw
    unfold w_L_acts_A_j276 at hw
    refine aw_iconst (v := (-1)) C dL_acts_276 (by decide) ?_
    exact aw_msk [true, false, false, false, false, false, false, false, false, true, false, true, true] (h277 ad1 _ _ x9 x11 x12 y1 y2 y3 (-1) _ hF (by omega) (by omega) hw)
  have h272 : ∀ (ad1 : Nat → Nat) (k n : Nat) (x9 : Int32) (x11 : Int32) (x12 : Int32) (y1 : Int32) (y2 : Int32) (y3 : Int32) (G0 : Gt), (∀ j, j < 84 → ad1 j = ad j) → k + 5 ≤ 1156 → n + 30 ≤ 27313 → w_L_acts_A_j272 K x9 x11 x12 y1 y2 y3 G0 → aw p l e { frames := 11, cells := 1156, slots := 27313, locals := 277 } s m args below meth c 13 D tA A (MQ below (QL D tA ad A shA (fun r s' G' => r = some (.int 1) ∧ K s' G')) args s 1156 27313 A) k n ad1 272 [some (.ref 0), none, none, none, none, none, none, none, none, some (.int x9), none, some (.int x11), some (.int x12)] [.int y3, .int y2, .int y1, .ref 0] shA G0 := by
    intro ad1 k n x9 x11 x12 y1 y2 y3 G0 hF hk hn hw
    unfold w_L_acts_A_j272 at hw
    refine aw_iconst (v := (-1)) C dL_acts_272 (by decide) ?_
    refine aw_goto (tgt := 277) C dL_acts_273 (by decide) ?_
    exact aw_msk [true, false, false, false, false, false, false, false, false, true, false, true, true] (h277 ad1 _ _ x9 x11 x12 y1 y2 y3 (-1) _ hF (by omega) (by omega) hw)
  have h146 : ∀ (ad1 : Nat → Nat) (k n : Nat) (x5 : Int32) (y4 : Int32) (y5 : Int32) (G0 : Gt), (∀ j, j < 84 → ad1 j = ad j) → k + 1156 ≤ 1156 → n + 27313 ≤ 27313 → w_L_acts_A_j146 K x5 y4 y5 G0 → aw p l e { frames := 11, cells := 1156, slots := 27313, locals := 277 } s m args below meth c 13 D tA A (MQ below (QL D tA ad A shA (fun r s' G' => r = some (.int 1) ∧ K s' G')) args s 1156 27313 A) k n ad1 146 [none, none, none, none, none, some (.int x5), none, none, none, none, none, none, none] [.int y5, .int y4, .ref 49, .ref 48, .ref 47, .ref 0] shA G0 := by
    intro ad1 k n x5 y4 y5 G0 hF hk hn hw
    unfold w_L_acts_A_j146 at hw
    refine aw_iconst (v := 1) C dL_acts_146 (by decide) ?_
    refine aw_iload C dL_acts_147 rfl ?_
    refine aw_iconst (v := 5) C dL_acts_149 (by decide) ?_
    refine aw_ishr C dL_acts_150 ?_
    refine aw_bipush (v := 9) C dL_acts_151 (by decide) ?_
    refine aw_callS C dL_acts_153 (t_L_low  (x5 >>> (5 &&& 31)) 9 _ _ hw) mM_L_93 bL_low rfl rfl ⟨Nat.le_of_ble_eq_true rfl, Nat.le_of_ble_eq_true rfl, by show _ ≤ 1156; omega, by show _ ≤ 27313; omega⟩ _ rfl (Nat.le_of_ble_eq_true rfl) (fun r153 G74 hq => ?_)
    obtain ⟨v73, rfl, hw⟩ := hq
    refine aw_iadd C dL_acts_156 ?_
    refine aw_runQ (mc := 1156) (ms := 27313) (rest := []) C (run_S C dL_acts_157 (t_L_runs_A hlf y4 y5 (1 + v73) _ _ hw) mM_L_212 bL_runs rfl rfl ⟨Nat.le_of_ble_eq_true rfl, Nat.le_of_ble_eq_true rfl, by show _ ≤ 1156; omega, by show _ ≤ 27313; omega⟩ [] rfl (Nat.le_of_ble_eq_true rfl)) trivial trivial (fun r157 ad_75 s157 G76 hEad_75 hq => ?_)
    obtain ⟨rfl, rfl, hw⟩ := hq
    have hFad_75 : (∀ j, j < 84 → ad_75 j = ad j) := fun j hj => (hEad_75 j (ltAA hj)).trans (hF j hj)
    exact aw_lzreturn C hr dL_acts_160 rfl (by omega) (by omega) (fun j hj => hFad_75 j (ltA_ hj)) ⟨rfl, hw⟩
  have h145 : ∀ (ad1 : Nat → Nat) (k n : Nat) (x5 : Int32) (y4 : Int32) (G0 : Gt), (∀ j, j < 84 → ad1 j = ad j) → k + 1156 ≤ 1156 → n + 27313 ≤ 27313 → w_L_acts_A_j145 K x5 y4 G0 → aw p l e { frames := 11, cells := 1156, slots := 27313, locals := 277 } s m args below meth c 13 D tA A (MQ below (QL D tA ad A shA (fun r s' G' => r = some (.int 1) ∧ K s' G')) args s 1156 27313 A) k n ad1 145 [none, none, none, none, none, some (.int x5), none, none, none, none, none, none, none] [.int y4, .ref 49, .ref 48, .ref 47, .ref 0] shA G0 := by
    intro ad1 k n x5 y4 G0 hF hk hn hw
    unfold w_L_acts_A_j145 at hw
    refine aw_iconst (v := 0) C dL_acts_145 (by decide) ?_
    exact aw_msk [false, false, false, false, false, true, false, false, false, false, false, false, false] (h146 ad1 _ _ x5 y4 0 _ hF (by omega) (by omega) hw)
  have h116 : ∀ (ad1 : Nat → Nat) (k n : Nat) (x5 : Int32) (x6 : Int32) (x7 : Int32) (x8 : Int32) (G0 : Gt), (∀ j, j < 84 → ad1 j = ad j) → k + 1156 ≤ 1156 → n + 27313 ≤ 27313 → w_L_acts_A_j116 K x5 x6 x7 x8 G0 → aw p l e { frames := 11, cells := 1156, slots := 27313, locals := 277 } s m args below meth c 13 D tA A (MQ below (QL D tA ad A shA (fun r s' G' => r = some (.int 1) ∧ K s' G')) args s 1156 27313 A) k n ad1 116 [some (.ref 0), none, some (.ref 47), some (.ref 48), some (.ref 49), some (.int x5), some (.int x6), some (.int x7), some (.int x8), none, none, none, none] [] shA G0 := by
    intro ad1 k n x5 x6 x7 x8 G0 hF hk hn hw
    unfold w_L_acts_A_j116 at hw
    refine aw_iload C dL_acts_116 rfl ?_
    refine aw_bipush (v := 12) C dL_acts_118 (by decide) ?_
    refine aw_ic_ge C dL_acts_120 161 (by decide) hw (fun hc120 hw => ?_) (fun hc120 hw => ?_)
    · refine aw_iload C dL_acts_161 rfl ?_
      refine aw_bipush (v := 12) C dL_acts_163 (by decide) ?_
      refine aw_ic_ne C dL_acts_165 176 (by decide) hw (fun hc165 hw => ?_) (fun hc165 hw => ?_)
      · refine aw_iload C dL_acts_176 rfl ?_
        refine aw_bipush (v := 13) C dL_acts_178 (by decide) ?_
        refine aw_ic_ne C dL_acts_180 198 (by decide) hw (fun hc180 hw => ?_) (fun hc180 hw => ?_)
        · refine aw_iload C dL_acts_198 rfl ?_
          refine aw_bipush (v := 14) C dL_acts_200 (by decide) ?_
          refine aw_ic_ne C dL_acts_202 342 (by decide) hw (fun hc202 hw => ?_) (fun hc202 hw => ?_)
          · refine aw_iload C dL_acts_342 rfl ?_
            refine aw_iconst (v := 2) C dL_acts_344 (by decide) ?_
            refine aw_callS C dL_acts_345 (t_L_low  x6 2 _ _ hw) mM_L_93 bL_low rfl rfl ⟨Nat.le_of_ble_eq_true rfl, Nat.le_of_ble_eq_true rfl, by show _ ≤ 1156; omega, by show _ ≤ 27313; omega⟩ _ rfl (Nat.le_of_ble_eq_true rfl) (fun r345 G8 hq => ?_)
            obtain ⟨v7, rfl, hw⟩ := hq
            refine aw_istore C dL_acts_348 (by decide) rfl ?_
            refine aw_aloadn C dL_acts_350 rfl ?_
            refine aw_iload C dL_acts_351 rfl ?_
            refine aw_runQ (mc := 1) (ms := 6) (rest := []) C (run_W (na := 2) C dL_acts_353 (t_L_length_A hlf v7 _ _ hw) mM_L_116 mW_length mT_length mI_L (by decide +kernel) rfl ⟨Nat.le_of_ble_eq_true rfl, Nat.le_of_ble_eq_true rfl, by show _ ≤ 1156; omega, by show _ ≤ 27313; omega⟩ [] rfl (Nat.le_of_ble_eq_true rfl)) ⟨by decide, by decide, by decide, by decide, trivial⟩ trivial (fun r353 ad_9 s353 G10 hEad_9 hq => ?_)
            obtain ⟨v11, rfl, rfl, hw⟩ := hq
            have hFad_9 : (∀ j, j < 84 → ad_9 j = ad j) := fun j hj => (hEad_9 j (ltAA hj)).trans (hF j hj)
            refine aw_istore C dL_acts_356 (by decide) rfl ?_
            refine aw_iload C dL_acts_358 rfl ?_
            refine aw_iconst (v := 1) C dL_acts_360 (by decide) ?_
            refine aw_ishr C dL_acts_361 ?_
            refine aw_iconst (v := 3) C dL_acts_362 (by decide) ?_
            refine aw_callS C dL_acts_363 (t_L_low  (x6 >>> (1 &&& 31)) 3 _ _ hw) mM_L_93 bL_low rfl rfl ⟨Nat.le_of_ble_eq_true rfl, Nat.le_of_ble_eq_true rfl, by show _ ≤ 1156; omega, by show _ ≤ 27313; omega⟩ _ rfl (Nat.le_of_ble_eq_true rfl) (fun r363 G13 hq => ?_)
            obtain ⟨v12, rfl, hw⟩ := hq
            refine aw_if_ne C dL_acts_366 418 (by decide) hw (fun hc366 hw => ?_) (fun hc366 hw => ?_)
            · refine aw_aloadn C dL_acts_418 rfl ?_
              refine aw_iload C dL_acts_419 rfl ?_
              refine aw_iload C dL_acts_421 rfl ?_
              refine aw_iconst (v := 3) C dL_acts_423 (by decide) ?_
              refine aw_ishr C dL_acts_424 ?_
              refine aw_bipush (v := 26) C dL_acts_425 (by decide) ?_
              refine aw_callS C dL_acts_427 (t_L_low  (x6 >>> (3 &&& 31)) 26 _ _ hw) mM_L_93 bL_low rfl rfl ⟨Nat.le_of_ble_eq_true rfl, Nat.le_of_ble_eq_true rfl, by show _ ≤ 1156; omega, by show _ ≤ 27313; omega⟩ _ rfl (Nat.le_of_ble_eq_true rfl) (fun r427 G15 hq => ?_)
              obtain ⟨v14, rfl, hw⟩ := hq
              refine aw_runQ (mc := 1) (ms := 6) (rest := []) C (run_W (na := 3) C dL_acts_430 (t_L_write_A hlf v7 v14 _ _ hw) mM_L_192 mW_write mT_write mI_L (by decide +kernel) rfl ⟨Nat.le_of_ble_eq_true rfl, Nat.le_of_ble_eq_true rfl, by show _ ≤ 1156; omega, by show _ ≤ 27313; omega⟩ [] rfl (Nat.le_of_ble_eq_true rfl)) ⟨by decide, by decide, by decide, by decide, trivial⟩ trivial (fun r430 ad_16 s430 G17 hEad_16 hq => ?_)
              obtain ⟨v18, rfl, rfl, hw⟩ := hq
              have hFad_16 : (∀ j, j < 84 → ad_16 j = ad j) := fun j hj => (hEad_16 j (ltAA hj)).trans (hFad_9 j hj)
              refine aw_iload C dL_acts_433 rfl ?_
              refine aw_bipush (v := 40) C dL_acts_435 (by decide) ?_
              refine aw_ic_ne C dL_acts_437 445 (by decide) hw (fun hc437 hw => ?_) (fun hc437 hw => ?_)
              · exact aw_msk [true, false, false, false, false, false, true, false, false, true, true, false, false] (h445 ad_16 _ _ x6 v7 v11 v18 _ hFad_16 (by omega) (by omega) hw)
              · refine aw_ldc (v := (-1000003)) C dL_acts_440 mK_L_24 ?_
                refine aw_goto (tgt := 449) C dL_acts_442 (by decide) ?_
                exact aw_msk [true, false, false, false, false, false, true, false, false, true, true, false, false] (h449 ad_16 _ _ x6 v7 v11 v18 (-1000003) _ hFad_16 (by omega) (by omega) hw)
            · refine aw_aloadn C dL_acts_369 rfl ?_
              refine aw_iload C dL_acts_370 rfl ?_
              refine aw_runQ (mc := 1) (ms := 6) (rest := []) C (run_W (na := 2) C dL_acts_372 (t_L_option_A hlf v7 _ _ hw) mM_L_125 mW_option mT_option mI_L (by decide +kernel) rfl ⟨Nat.le_of_ble_eq_true rfl, Nat.le_of_ble_eq_true rfl, by show _ ≤ 1156; omega, by show _ ≤ 27313; omega⟩ [] rfl (Nat.le_of_ble_eq_true rfl)) ⟨by decide, by decide, by decide, by decide, trivial⟩ trivial (fun r372 ad_30 s372 G31 hEad_30 hq => ?_)
              obtain ⟨v32, rfl, rfl, hw⟩ := hq
              have hFad_30 : (∀ j, j < 84 → ad_30 j = ad j) := fun j hj => (hEad_30 j (ltAA hj)).trans (hFad_9 j hj)
              refine aw_istore C dL_acts_375 (by decide) rfl ?_
              refine aw_iload C dL_acts_377 rfl ?_
              refine aw_iconst (v := 3) C dL_acts_379 (by decide) ?_
              refine aw_ishr C dL_acts_380 ?_
              refine aw_bipush (v := 99) C dL_acts_381 (by decide) ?_
              refine aw_callS C dL_acts_383 (t_L_low  (x6 >>> (3 &&& 31)) 99 _ _ hw) mM_L_93 bL_low rfl rfl ⟨Nat.le_of_ble_eq_true rfl, Nat.le_of_ble_eq_true rfl, by show _ ≤ 1156; omega, by show _ ≤ 27313; omega⟩ _ rfl (Nat.le_of_ble_eq_true rfl) (fun r383 G34 hq => ?_)
              obtain ⟨v33, rfl, hw⟩ := hq
              refine aw_istore C dL_acts_386 (by decide) rfl ?_
              refine aw_aloadn C dL_acts_388 rfl ?_
              refine aw_iload C dL_acts_389 rfl ?_
              refine aw_iload C dL_acts_391 rfl ?_
              refine aw_runQ (mc := 1) (ms := 6) (rest := []) C (run_W (na := 3) C dL_acts_393 (t_L_setOption_A hlf v7 v33 _ _ hw) mM_L_190 mW_setOption mT_setOption mI_L (by decide +kernel) rfl ⟨Nat.le_of_ble_eq_true rfl, Nat.le_of_ble_eq_true rfl, by show _ ≤ 1156; omega, by show _ ≤ 27313; omega⟩ [] rfl (Nat.le_of_ble_eq_true rfl)) ⟨by decide, by decide, by decide, by decide, trivial⟩ trivial (fun r393 ad_35 s393 G36 hEad_35 hq => ?_)
              obtain ⟨v37, rfl, rfl, hw⟩ := hq
              have hFad_35 : (∀ j, j < 84 → ad_35 j = ad j) := fun j hj => (hEad_35 j (ltAA hj)).trans (hFad_30 j hj)
              refine aw_iload C dL_acts_396 rfl ?_
              refine aw_ic_ne C dL_acts_398 416 (by decide) hw (fun hc398 hw => ?_) (fun hc398 hw => ?_)
              · exact hw.elim
              · refine aw_aloadn C dL_acts_401 rfl ?_
                refine aw_iload C dL_acts_402 rfl ?_
                refine aw_runQ (mc := 1) (ms := 6) (rest := []) C (run_W (na := 2) C dL_acts_404 (t_L_option_A hlf v7 _ _ hw) mM_L_125 mW_option mT_option mI_L (by decide +kernel) rfl ⟨Nat.le_of_ble_eq_true rfl, Nat.le_of_ble_eq_true rfl, by show _ ≤ 1156; omega, by show _ ≤ 27313; omega⟩ [] rfl (Nat.le_of_ble_eq_true rfl)) ⟨by decide, by decide, by decide, by decide, trivial⟩ trivial (fun r404 ad_38 s404 G39 hEad_38 hq => ?_)
                obtain ⟨v40, rfl, rfl, hw⟩ := hq
                have hFad_38 : (∀ j, j < 84 → ad_38 j = ad j) := fun j hj => (hEad_38 j (ltAA hj)).trans (hFad_35 j hj)
                refine aw_iload C dL_acts_407 rfl ?_
                refine aw_ic_ne C dL_acts_409 416 (by decide) hw (fun hc409 hw => ?_) (fun hc409 hw => ?_)
                · exact hw.elim
                · refine aw_iconst (v := 1) C dL_acts_412 (by decide) ?_
                  refine aw_goto (tgt := 417) C dL_acts_413 (by decide) ?_
                  exact aw_lzreturn C hr dL_acts_417 rfl (by omega) (by omega) (fun j hj => hFad_38 j (ltA_ hj)) ⟨rfl, hw⟩
          · refine aw_iload C dL_acts_205 rfl ?_
            refine aw_iconst (v := 3) C dL_acts_207 (by decide) ?_
            refine aw_callS C dL_acts_208 (t_L_low  x6 3 _ _ hw) mM_L_93 bL_low rfl rfl ⟨Nat.le_of_ble_eq_true rfl, Nat.le_of_ble_eq_true rfl, by show _ ≤ 1156; omega, by show _ ≤ 27313; omega⟩ _ rfl (Nat.le_of_ble_eq_true rfl) (fun r208 G42 hq => ?_)
            obtain ⟨v41, rfl, hw⟩ := hq
            refine aw_istore C dL_acts_211 (by decide) rfl ?_
            refine aw_iload C dL_acts_213 rfl ?_
            refine aw_iconst (v := 2) C dL_acts_215 (by decide) ?_
            refine aw_ishr C dL_acts_216 ?_
            refine aw_iconst (v := 3) C dL_acts_217 (by decide) ?_
            refine aw_callS C dL_acts_218 (t_L_low  (x6 >>> (2 &&& 31)) 3 _ _ hw) mM_L_93 bL_low rfl rfl ⟨Nat.le_of_ble_eq_true rfl, Nat.le_of_ble_eq_true rfl, by show _ ≤ 1156; omega, by show _ ≤ 27313; omega⟩ _ rfl (Nat.le_of_ble_eq_true rfl) (fun r218 G44 hq => ?_)
            obtain ⟨v43, rfl, hw⟩ := hq
            refine aw_istore C dL_acts_221 (by decide) rfl ?_
            refine aw_iload C dL_acts_223 rfl ?_
            refine aw_iconst (v := 4) C dL_acts_225 (by decide) ?_
            refine aw_ishr C dL_acts_226 ?_
            refine aw_aloadn C dL_acts_227 rfl ?_
            refine aw_iconst (v := 0) C dL_acts_228 (by decide) ?_
            refine aw_iald C dL_acts_229 (sA_47 shOK_A) hw.1 ?_
            replace hw := hw.2
            refine aw_callS C dL_acts_230 (t_L_low  (x6 >>> (4 &&& 31)) (G44 47 (0 : Int32).toNatClampNeg) _ _ hw) mM_L_93 bL_low rfl rfl ⟨Nat.le_of_ble_eq_true rfl, Nat.le_of_ble_eq_true rfl, by show _ ≤ 1156; omega, by show _ ≤ 27313; omega⟩ _ rfl (Nat.le_of_ble_eq_true rfl) (fun r230 G46 hq => ?_)
            obtain ⟨v45, rfl, hw⟩ := hq
            refine aw_istore C dL_acts_233 (by decide) rfl ?_
            refine aw_aloadn C dL_acts_235 rfl ?_
            refine aw_iload C dL_acts_236 rfl ?_
            refine aw_runQ (mc := 1) (ms := 6) (rest := []) C (run_W (na := 2) C dL_acts_238 (t_L_body_A hlf v41 _ _ hw) mM_L_127 mW_body mT_body mI_L (by decide +kernel) rfl ⟨Nat.le_of_ble_eq_true rfl, Nat.le_of_ble_eq_true rfl, by show _ ≤ 1156; omega, by show _ ≤ 27313; omega⟩ [] rfl (Nat.le_of_ble_eq_true rfl)) ⟨by decide, by decide, by decide, by decide, trivial⟩ trivial (fun r238 ad_47 s238 G48 hEad_47 hq => ?_)
            obtain ⟨v49, rfl, rfl, hw⟩ := hq
            have hFad_47 : (∀ j, j < 84 → ad_47 j = ad j) := fun j hj => (hEad_47 j (ltAA hj)).trans (hF j hj)
            refine aw_istore C dL_acts_241 (by decide) rfl ?_
            refine aw_aloadn C dL_acts_243 rfl ?_
            refine aw_iload C dL_acts_244 rfl ?_
            refine aw_iload C dL_acts_246 rfl ?_
            refine aw_iload C dL_acts_248 rfl ?_
            refine aw_iload C dL_acts_250 rfl ?_
            refine aw_iconst (v := 2) C dL_acts_252 (by decide) ?_
            refine aw_ic_ne C dL_acts_253 276 (by decide) hw (fun hc253 hw => ?_) (fun hc253 hw => ?_)
            · exact aw_msk [true, false, false, false, false, false, false, false, false, true, false, true, true] (h276 ad_47 _ _ v41 v45 v49 v41 v43 v45 _ hFad_47 (by omega) (by omega) hw)
            · refine aw_iload C dL_acts_256 rfl ?_
              refine aw_iconst (v := 5) C dL_acts_258 (by decide) ?_
              refine aw_ishr C dL_acts_259 ?_
              refine aw_iconst (v := 3) C dL_acts_260 (by decide) ?_
              refine aw_callS C dL_acts_261 (t_L_low  (x6 >>> (5 &&& 31)) 3 _ _ hw) mM_L_93 bL_low rfl rfl ⟨Nat.le_of_ble_eq_true rfl, Nat.le_of_ble_eq_true rfl, by show _ ≤ 1156; omega, by show _ ≤ 27313; omega⟩ _ rfl (Nat.le_of_ble_eq_true rfl) (fun r261 G66 hq => ?_)
              obtain ⟨v65, rfl, hw⟩ := hq
              refine aw_if_ne C dL_acts_264 272 (by decide) hw (fun hc264 hw => ?_) (fun hc264 hw => ?_)
              · exact aw_msk [true, false, false, false, false, false, false, false, false, true, false, true, true] (h272 ad_47 _ _ v41 v45 v49 v41 v43 v45 _ hFad_47 (by omega) (by omega) hw)
              · refine aw_iload C dL_acts_267 rfl ?_
                refine aw_goto (tgt := 277) C dL_acts_269 (by decide) ?_
                exact aw_msk [true, false, false, false, false, false, false, false, false, true, false, true, true] (h277 ad_47 _ _ v41 v45 v49 v41 v43 v45 x8 _ hFad_47 (by omega) (by omega) hw)
        · refine aw_aloadn C dL_acts_183 rfl ?_
          refine aw_aloadn C dL_acts_184 rfl ?_
          refine aw_aloadn C dL_acts_185 rfl ?_
          refine aw_aload C dL_acts_186 rfl ?_
          refine aw_iload C dL_acts_188 rfl ?_
          refine aw_iload C dL_acts_190 rfl ?_
          refine aw_iconst (v := 4) C dL_acts_192 (by decide) ?_
          refine aw_ishr C dL_acts_193 ?_
          refine aw_runQ (mc := 569) (ms := 23773) (rest := []) C (run_S C dL_acts_194 (t_L_gives_A hlf x8 (x5 >>> (4 &&& 31)) _ _ hw) mM_L_220 bL_gives rfl rfl ⟨Nat.le_of_ble_eq_true rfl, Nat.le_of_ble_eq_true rfl, by show _ ≤ 1156; omega, by show _ ≤ 27313; omega⟩ [] rfl (Nat.le_of_ble_eq_true rfl)) ⟨by decide, by decide, by decide, by decide, trivial⟩ trivial (fun r194 ad_67 s194 G68 hEad_67 hq => ?_)
          obtain ⟨rfl, rfl, hw⟩ := hq
          have hFad_67 : (∀ j, j < 84 → ad_67 j = ad j) := fun j hj => (hEad_67 j (ltAA hj)).trans (hF j hj)
          exact aw_lzreturn C hr dL_acts_197 rfl (by omega) (by omega) (fun j hj => hFad_67 j (ltA_ hj)) ⟨rfl, hw⟩
      · refine aw_aloadn C dL_acts_168 rfl ?_
        refine aw_aloadn C dL_acts_169 rfl ?_
        refine aw_iload C dL_acts_170 rfl ?_
        refine aw_runQ (mc := 71) (ms := 20765) (rest := []) C (run_S C dL_acts_172 (t_L_budgets_A hlf x8 _ _ hw) mM_L_216 bL_budgets rfl rfl ⟨Nat.le_of_ble_eq_true rfl, Nat.le_of_ble_eq_true rfl, by show _ ≤ 1156; omega, by show _ ≤ 27313; omega⟩ [] rfl (Nat.le_of_ble_eq_true rfl)) ⟨by decide, by decide, by decide, by decide, trivial⟩ trivial (fun r172 ad_69 s172 G70 hEad_69 hq => ?_)
        obtain ⟨rfl, rfl, hw⟩ := hq
        have hFad_69 : (∀ j, j < 84 → ad_69 j = ad j) := fun j hj => (hEad_69 j (ltAA hj)).trans (hF j hj)
        exact aw_lzreturn C hr dL_acts_175 rfl (by omega) (by omega) (fun j hj => hFad_69 j (ltA_ hj)) ⟨rfl, hw⟩
    · refine aw_aloadn C dL_acts_123 rfl ?_
      refine aw_aloadn C dL_acts_124 rfl ?_
      refine aw_aloadn C dL_acts_125 rfl ?_
      refine aw_aload C dL_acts_126 rfl ?_
      refine aw_iload C dL_acts_128 rfl ?_
      refine aw_iload C dL_acts_130 rfl ?_
      refine aw_iconst (v := 4) C dL_acts_132 (by decide) ?_
      refine aw_ishr C dL_acts_133 ?_
      refine aw_iconst (v := 2) C dL_acts_134 (by decide) ?_
      refine aw_callS C dL_acts_135 (t_L_low  (x5 >>> (4 &&& 31)) 2 _ _ hw) mM_L_93 bL_low rfl rfl ⟨Nat.le_of_ble_eq_true rfl, Nat.le_of_ble_eq_true rfl, by show _ ≤ 1156; omega, by show _ ≤ 27313; omega⟩ _ rfl (Nat.le_of_ble_eq_true rfl) (fun r135 G72 hq => ?_)
      obtain ⟨v71, rfl, hw⟩ := hq
      refine aw_if_ne C dL_acts_138 145 (by decide) hw (fun hc138 hw => ?_) (fun hc138 hw => ?_)
      · exact aw_msk [false, false, false, false, false, true, false, false, false, false, false, false, false] (h145 ad1 _ _ x5 x8 _ hF (by omega) (by omega) hw)
      · refine aw_iconst (v := 1) C dL_acts_141 (by decide) ?_
        refine aw_goto (tgt := 146) C dL_acts_142 (by decide) ?_
        exact aw_msk [false, false, false, false, false, true, false, false, false, false, false, false, false] (h146 ad1 _ _ x5 x8 1 _ hF (by omega) (by omega) hw)
  have h99 : ∀ (ad1 : Nat → Nat) (k n : Nat) (x5 : Int32) (x6 : Int32) (x7 : Int32) (x8 : Int32) (y1 : Int32) (y2 : Int32) (y3 : Int32) (G0 : Gt), (∀ j, j < 84 → ad1 j = ad j) → k + 1156 ≤ 1156 → n + 27313 ≤ 27313 → w_L_acts_A_j99 K x5 x6 x7 x8 y1 y2 y3 G0 → aw p l e { frames := 11, cells := 1156, slots := 27313, locals := 277 } s m args below meth c 13 D tA A (MQ below (QL D tA ad A shA (fun r s' G' => r = some (.int 1) ∧ K s' G')) args s 1156 27313 A) k n ad1 99 [some (.ref 0), none, some (.ref 47), some (.ref 48), some (.ref 49), some (.int x5), some (.int x6), some (.int x7), some (.int x8), none, none, none, none] [.int y3, .int y2, .int y1, .ref 47] shA G0 := by
    intro ad1 k n x5 x6 x7 x8 y1 y2 y3 G0 hF hk hn hw
    unfold w_L_acts_A_j99 at hw
    refine aw_iadd C dL_acts_99 ?_
    refine aw_iast C dL_acts_100 (sA_47 shOK_A) hw.1 hw.2 (fun G77 hw => ?_)
    refine aw_aloadn C dL_acts_101 rfl ?_
    refine aw_bipush (v := 6) C dL_acts_102 (by decide) ?_
    refine aw_iald C dL_acts_104 (sA_47 shOK_A) hw.1 ?_
    replace hw := hw.2
    refine aw_bipush (v := 30) C dL_acts_105 (by decide) ?_
    refine aw_ic_le C dL_acts_107 116 (by decide) hw (fun hc107 hw => ?_) (fun hc107 hw => ?_)
    · exact aw_msk [true, false, true, true, true, true, true, true, true, false, false, false, false] (h116 ad1 _ _ x5 x6 x7 x8 _ hF (by omega) (by omega) hw)
    · refine aw_aloadn C dL_acts_110 rfl ?_
      refine aw_aloadn C dL_acts_111 rfl ?_
      refine aw_runQ (mc := 30) (ms := 180) (rest := []) C (run_S C dL_acts_112 (t_L_told_A hlf _ _ hw) mM_L_176 bL_told rfl rfl ⟨Nat.le_of_ble_eq_true rfl, Nat.le_of_ble_eq_true rfl, by show _ ≤ 1156; omega, by show _ ≤ 27313; omega⟩ [] rfl (Nat.le_of_ble_eq_true rfl)) ⟨by decide, by decide, by decide, by decide, trivial⟩ trivial (fun r112 ad_78 s112 G79 hEad_78 hq => ?_)
      obtain ⟨rfl, rfl, hw⟩ := hq
      have hFad_78 : (∀ j, j < 84 → ad_78 j = ad j) := fun j hj => (hEad_78 j (ltAA hj)).trans (hF j hj)
      exact aw_lzreturn C hr dL_acts_115 rfl (by omega) (by omega) (fun j hj => hFad_78 j (ltA_ hj)) ⟨rfl, hw⟩
  have h98 : ∀ (ad1 : Nat → Nat) (k n : Nat) (x5 : Int32) (x6 : Int32) (x7 : Int32) (x8 : Int32) (y1 : Int32) (y2 : Int32) (G0 : Gt), (∀ j, j < 84 → ad1 j = ad j) → k + 1156 ≤ 1156 → n + 27313 ≤ 27313 → w_L_acts_A_j98 K x5 x6 x7 x8 y1 y2 G0 → aw p l e { frames := 11, cells := 1156, slots := 27313, locals := 277 } s m args below meth c 13 D tA A (MQ below (QL D tA ad A shA (fun r s' G' => r = some (.int 1) ∧ K s' G')) args s 1156 27313 A) k n ad1 98 [some (.ref 0), none, some (.ref 47), some (.ref 48), some (.ref 49), some (.int x5), some (.int x6), some (.int x7), some (.int x8), none, none, none, none] [.int y2, .int y1, .ref 47] shA G0 := by
    intro ad1 k n x5 x6 x7 x8 y1 y2 G0 hF hk hn hw
    unfold w_L_acts_A_j98 at hw
    refine aw_iconst (v := 1) C dL_acts_98 (by decide) ?_
    exact aw_msk [true, false, true, true, true, true, true, true, true, false, false, false, false] (h99 ad1 _ _ x5 x6 x7 x8 y1 y2 1 _ hF (by omega) (by omega) hw)
  have h68 : ∀ (ad1 : Nat → Nat) (k n : Nat) (x5 : Int32) (x6 : Int32) (x7 : Int32) (y0 : Int32) (y1 : Int32) (y2 : Int32) (G0 : Gt), (∀ j, j < 84 → ad1 j = ad j) → k + 1156 ≤ 1156 → n + 27313 ≤ 27313 → w_L_acts_A_j68 K x5 x6 x7 y0 y1 y2 G0 → aw p l e { frames := 11, cells := 1156, slots := 27313, locals := 277 } s m args below meth c 13 D tA A (MQ below (QL D tA ad A shA (fun r s' G' => r = some (.int 1) ∧ K s' G')) args s 1156 27313 A) k n ad1 68 [some (.ref 0), none, some (.ref 47), some (.ref 48), some (.ref 49), some (.int x5), some (.int x6), some (.int x7), none, none, none, none, none] [.int y2, .int y1, .int y0] shA G0 := by
    intro ad1 k n x5 x6 x7 y0 y1 y2 G0 hF hk hn hw
    unfold w_L_acts_A_j68 at hw
    refine aw_callS C dL_acts_68 (t_L_low  y1 y2 _ _ hw) mM_L_93 bL_low rfl rfl ⟨Nat.le_of_ble_eq_true rfl, Nat.le_of_ble_eq_true rfl, by show _ ≤ 1156; omega, by show _ ≤ 27313; omega⟩ _ rfl (Nat.le_of_ble_eq_true rfl) (fun r68 G6 hq => ?_)
    obtain ⟨v5, rfl, hw⟩ := hq
    refine aw_isub C dL_acts_71 ?_
    refine aw_istore C dL_acts_72 (by decide) rfl ?_
    refine aw_iload C dL_acts_74 rfl ?_
    refine aw_bipush (v := 14) C dL_acts_76 (by decide) ?_
    refine aw_ic_ge C dL_acts_78 116 (by decide) hw (fun hc78 hw => ?_) (fun hc78 hw => ?_)
    · exact aw_msk [true, false, true, true, true, true, true, true, true, false, false, false, false] (h116 ad1 _ _ x5 x6 x7 (y0 - v5) _ hF (by omega) (by omega) hw)
    · refine aw_aloadn C dL_acts_81 rfl ?_
      refine aw_bipush (v := 6) C dL_acts_82 (by decide) ?_
      refine aw_dup2 C dL_acts_84 rfl rfl ?_
      refine aw_iald C dL_acts_85 (sA_47 shOK_A) hw.1 ?_
      replace hw := hw.2
      refine aw_iload C dL_acts_86 rfl ?_
      refine aw_bipush (v := 12) C dL_acts_88 (by decide) ?_
      refine aw_ic_ne C dL_acts_90 98 (by decide) hw (fun hc90 hw => ?_) (fun hc90 hw => ?_)
      · exact aw_msk [true, false, true, true, true, true, true, true, true, false, false, false, false] (h98 ad1 _ _ x5 x6 x7 (y0 - v5) 6 (G6 47 (6 : Int32).toNatClampNeg) _ hF (by omega) (by omega) hw)
      · refine aw_bipush (v := 6) C dL_acts_93 (by decide) ?_
        refine aw_goto (tgt := 99) C dL_acts_95 (by decide) ?_
        exact aw_msk [true, false, true, true, true, true, true, true, true, false, false, false, false] (h99 ad1 _ _ x5 x6 x7 (y0 - v5) 6 (G6 47 (6 : Int32).toNatClampNeg) 6 _ hF (by omega) (by omega) hw)
  have h66 : ∀ (ad1 : Nat → Nat) (k n : Nat) (x5 : Int32) (x6 : Int32) (x7 : Int32) (y0 : Int32) (y1 : Int32) (G0 : Gt), (∀ j, j < 84 → ad1 j = ad j) → k + 1156 ≤ 1156 → n + 27313 ≤ 27313 → w_L_acts_A_j66 K x5 x6 x7 y0 y1 G0 → aw p l e { frames := 11, cells := 1156, slots := 27313, locals := 277 } s m args below meth c 13 D tA A (MQ below (QL D tA ad A shA (fun r s' G' => r = some (.int 1) ∧ K s' G')) args s 1156 27313 A) k n ad1 66 [some (.ref 0), none, some (.ref 47), some (.ref 48), some (.ref 49), some (.int x5), some (.int x6), some (.int x7), none, none, none, none, none] [.int y1, .int y0] shA G0 := by
    intro ad1 k n x5 x6 x7 y0 y1 G0 hF hk hn hw
    unfold w_L_acts_A_j66 at hw
    refine aw_bipush (v := 12) C dL_acts_66 (by decide) ?_
    exact aw_msk [true, false, true, true, true, true, true, true, false, false, false, false, false] (h68 ad1 _ _ x5 x6 x7 y0 y1 12 _ hF (by omega) (by omega) hw)
  have h45 : ∀ (ad1 : Nat → Nat) (k n : Nat) (x5 : Int32) (x6 : Int32) (x7 : Int32) (G0 : Gt), (∀ j, j < 84 → ad1 j = ad j) → k + 1156 ≤ 1156 → n + 27313 ≤ 27313 → w_L_acts_A_j45 K x5 x6 x7 G0 → aw p l e { frames := 11, cells := 1156, slots := 27313, locals := 277 } s m args below meth c 13 D tA A (MQ below (QL D tA ad A shA (fun r s' G' => r = some (.int 1) ∧ K s' G')) args s 1156 27313 A) k n ad1 45 [some (.ref 0), none, some (.ref 47), some (.ref 48), some (.ref 49), some (.int x5), some (.int x6), some (.int x7), none, none, none, none, none] [] shA G0 := by
    intro ad1 k n x5 x6 x7 G0 hF hk hn hw
    unfold w_L_acts_A_j45 at hw
    refine aw_aloadn C dL_acts_45 rfl ?_
    refine aw_iconst (v := 0) C dL_acts_46 (by decide) ?_
    refine aw_iald C dL_acts_47 (sA_47 shOK_A) hw.1 ?_
    replace hw := hw.2
    refine aw_iconst (v := 1) C dL_acts_48 (by decide) ?_
    refine aw_isub C dL_acts_49 ?_
    refine aw_iload C dL_acts_50 rfl ?_
    refine aw_aloadn C dL_acts_52 rfl ?_
    refine aw_iconst (v := 0) C dL_acts_53 (by decide) ?_
    refine aw_iald C dL_acts_54 (sA_47 shOK_A) hw.1 ?_
    replace hw := hw.2
    refine aw_bipush (v := 12) C dL_acts_55 (by decide) ?_
    refine aw_ic_ge C dL_acts_57 66 (by decide) hw (fun hc57 hw => ?_) (fun hc57 hw => ?_)
    · exact aw_msk [true, false, true, true, true, true, true, true, false, false, false, false, false] (h66 ad1 _ _ x5 x6 x7 ((G0 47 (0 : Int32).toNatClampNeg) - 1) x6 _ hF (by omega) (by omega) hw)
    · refine aw_aloadn C dL_acts_60 rfl ?_
      refine aw_iconst (v := 0) C dL_acts_61 (by decide) ?_
      refine aw_iald C dL_acts_62 (sA_47 shOK_A) hw.1 ?_
      replace hw := hw.2
      refine aw_goto (tgt := 68) C dL_acts_63 (by decide) ?_
      exact aw_msk [true, false, true, true, true, true, true, true, false, false, false, false, false] (h68 ad1 _ _ x5 x6 x7 ((G0 47 (0 : Int32).toNatClampNeg) - 1) x6 (G0 47 (0 : Int32).toNatClampNeg) _ hF (by omega) (by omega) hw)
  unfold w_L_acts_A at hw
  show aw p l e { frames := 11, cells := 1156, slots := 27313, locals := 277 } s m args below meth c 13 D tA A (MQ below (QL D tA ad A shA (fun r s' G' => r = some (.int 1) ∧ K s' G')) args s 1156 27313 A) 0 0 ad 0 [some (.ref 0), some (.ref 46), some (.ref 47), some (.ref 48), some (.ref 49), some (.int p5), some (.int p6), none, none, none, none, none, none] [] shA G0
  refine aw_iload C dL_acts_0 rfl ?_
  refine aw_bipush (v := 16) C dL_acts_2 (by decide) ?_
  refine aw_callS C dL_acts_4 (t_L_low  p5 16 _ _ hw) mM_L_93 bL_low rfl rfl ⟨Nat.le_of_ble_eq_true rfl, Nat.le_of_ble_eq_true rfl, by show _ ≤ 1156; omega, by show _ ≤ 27313; omega⟩ _ rfl (Nat.le_of_ble_eq_true rfl) (fun r4 G2 hq => ?_)
  obtain ⟨v1, rfl, hw⟩ := hq
  refine aw_istore C dL_acts_7 (by decide) rfl ?_
  refine aw_aloadn C dL_acts_9 rfl ?_
  refine aw_iconst (v := 0) C dL_acts_10 (by decide) ?_
  refine aw_iald C dL_acts_11 (sA_47 shOK_A) hw.1 ?_
  replace hw := hw.2
  refine aw_bipush (v := 6) C dL_acts_12 (by decide) ?_
  refine aw_ic_lt C dL_acts_14 32 (by decide) hw (fun hc14 hw => ?_) (fun hc14 hw => ?_)
  · exact aw_msk [true, true, true, false, false, true, true, false, false, false, false, false, false] (h32 ad _ _ p5 p6 _ hF0 (by omega) (by omega) hw)
  · refine aw_iload C dL_acts_17 rfl ?_
    refine aw_bipush (v := 9) C dL_acts_19 (by decide) ?_
    refine aw_ic_ge C dL_acts_21 45 (by decide) hw (fun hc21 hw => ?_) (fun hc21 hw => ?_)
    · exact aw_msk [true, false, true, true, true, true, true, true, false, false, false, false, false] (h45 ad _ _ p5 p6 v1 _ hF0 (by omega) (by omega) hw)
    · refine aw_aloadn C dL_acts_24 rfl ?_
      refine aw_iconst (v := 0) C dL_acts_25 (by decide) ?_
      refine aw_iald C dL_acts_26 (sA_47 shOK_A) hw.1 ?_
      replace hw := hw.2
      refine aw_bipush (v := 58) C dL_acts_27 (by decide) ?_
      refine aw_ic_ge C dL_acts_29 45 (by decide) hw (fun hc29 hw => ?_) (fun hc29 hw => ?_)
      · exact aw_msk [true, false, true, true, true, true, true, true, false, false, false, false, false] (h45 ad _ _ p5 p6 v1 _ hF0 (by omega) (by omega) hw)
      · exact aw_msk [true, true, true, false, false, true, true, false, false, false, false, false, false] (h32 ad _ _ p5 p6 _ hF0 (by omega) (by omega) hw)
def w_L_acts_B_j32 (K : Sh → Gt → Prop) (x5 : Int32) (x6 : Int32) (G0 : Gt) : Prop :=
  w_L_makes_B (fun s1 G4 => s1 = shB ∧
    K shB G4) (x5 >>> (4 &&& 31)) x6 G0
def w_L_acts_B_j479 (K : Sh → Gt → Prop) (G0 : Gt) : Prop :=
  w_L_write_B (fun v21 s1 G20 => s1 = shB ∧
    pif (v21 = (-1000001)) (
      w_L_write_B (fun v24 s1 G23 => s1 = shB ∧
        pif (v24 = (-1000002)) (
          K shB G23) (
          False)) 0 26 G20) (
      False)) 2 0 G0
def w_L_acts_B_j449 (K : Sh → Gt → Prop) (x6 : Int32) (x9 : Int32) (x10 : Int32) (y0 : Int32) (y1 : Int32) (G0 : Gt) : Prop :=
  pif (y0 = y1) (
    pif (x10 = 40) (
      w_L_acts_B_j479 K G0) (
      w_L_letter_B (fun v27 s1 G26 => s1 = shB ∧
        w_L_low (fun v28 G29 =>
          pif (v27 = v28) (
            w_L_acts_B_j479 K G29) (
            False)) (x6 >>> (3 &&& 31)) 26 G26) x9 x10 G0)) (
    False)
def w_L_acts_B_j445 (K : Sh → Gt → Prop) (x6 : Int32) (x9 : Int32) (x10 : Int32) (y0 : Int32) (G0 : Gt) : Prop :=
  w_L_acts_B_j449 K x6 x9 x10 y0 (x10 + 1) G0
def w_L_acts_B_j277 (K : Sh → Gt → Prop) (x9 : Int32) (x11 : Int32) (x12 : Int32) (y1 : Int32) (y2 : Int32) (y3 : Int32) (y4 : Int32) (G0 : Gt) : Prop :=
  w_L_define_B (fun v52 s1 G51 => s1 = shB ∧
    pif (v52 = x12) (
      w_L_body_B (fun v55 s1 G54 => s1 = shB ∧
        pif (v55 = x11) (
          w_L_define_B (fun v58 s1 G57 => s1 = shB ∧
            pif (v58 = (-1000001)) (
              w_L_define_B (fun v61 s1 G60 => s1 = shB ∧
                pif (v61 = (-1000002)) (
                  w_L_define_B (fun v64 s1 G63 => s1 = shB ∧
                    pif (v64 = (-1000002)) (
                      K shB G63) (
                      False)) 0 3 0 (-1) G60) (
                  False)) 0 1 0 0 G57) (
              False)) 6 0 0 (-1) G54) (
          False)) x9 G51) (
      False)) y1 y2 y3 y4 G0
def w_L_acts_B_j276 (K : Sh → Gt → Prop) (x9 : Int32) (x11 : Int32) (x12 : Int32) (y1 : Int32) (y2 : Int32) (y3 : Int32) (G0 : Gt) : Prop :=
  w_L_acts_B_j277 K x9 x11 x12 y1 y2 y3 (-1) G0
def w_L_acts_B_j272 (K : Sh → Gt → Prop) (x9 : Int32) (x11 : Int32) (x12 : Int32) (y1 : Int32) (y2 : Int32) (y3 : Int32) (G0 : Gt) : Prop :=
  w_L_acts_B_j277 K x9 x11 x12 y1 y2 y3 (-1) G0
def w_L_acts_B_j146 (K : Sh → Gt → Prop) (x5 : Int32) (y4 : Int32) (y5 : Int32) (G0 : Gt) : Prop :=
  w_L_low (fun v73 G74 =>
    w_L_runs_B (fun s1 G76 => s1 = shB ∧
      K shB G76) y4 y5 (1 + v73) G74) (x5 >>> (5 &&& 31)) 9 G0
def w_L_acts_B_j145 (K : Sh → Gt → Prop) (x5 : Int32) (y4 : Int32) (G0 : Gt) : Prop :=
  w_L_acts_B_j146 K x5 y4 0 G0
def w_L_acts_B_j116 (K : Sh → Gt → Prop) (x5 : Int32) (x6 : Int32) (x7 : Int32) (x8 : Int32) (G0 : Gt) : Prop :=
  pif (12 ≤ x7) (
    pif (x7 = 12) (
      w_L_budgets_B (fun s1 G70 => s1 = shB ∧
        K shB G70) x8 G0) (
      pif (x7 = 13) (
        w_L_gives_B (fun s1 G68 => s1 = shB ∧
          K shB G68) x8 (x5 >>> (4 &&& 31)) G0) (
        pif (x7 = 14) (
          w_L_low (fun v41 G42 =>
            w_L_low (fun v43 G44 =>
              vp_in 0 7 ∧
              w_L_low (fun v45 G46 =>
                w_L_body_B (fun v49 s1 G48 => s1 = shB ∧
                  pif (v43 = 2) (
                    w_L_low (fun v65 G66 =>
                      pif (v65 = 0) (
                        w_L_acts_B_j277 K v41 v45 v49 v41 v43 v45 x8 G66) (
                        w_L_acts_B_j272 K v41 v45 v49 v41 v43 v45 G66)) (x6 >>> (5 &&& 31)) 3 G48) (
                    w_L_acts_B_j276 K v41 v45 v49 v41 v43 v45 G48)) v41 G46) (x6 >>> (4 &&& 31)) (G44 47 (0 : Int32).toNatClampNeg) G44) (x6 >>> (2 &&& 31)) 3 G42) x6 3 G0) (
          w_L_low (fun v7 G8 =>
            w_L_length_B (fun v11 s1 G10 => s1 = shB ∧
              w_L_low (fun v12 G13 =>
                pif (v12 = 0) (
                  w_L_option_B (fun v32 s1 G31 => s1 = shB ∧
                    w_L_low (fun v33 G34 =>
                      w_L_setOption_B (fun v37 s1 G36 => s1 = shB ∧
                        pif (v37 = v32) (
                          w_L_option_B (fun v40 s1 G39 => s1 = shB ∧
                            pif (v40 = v33) (
                              K shB G39) (
                              False)) v7 G36) (
                          False)) v7 v33 G34) (x6 >>> (3 &&& 31)) 99 G31) v7 G13) (
                  w_L_low (fun v14 G15 =>
                    w_L_write_B (fun v18 s1 G17 => s1 = shB ∧
                      pif (v11 = 40) (
                        w_L_acts_B_j449 K x6 v7 v11 v18 (-1000003) G17) (
                        w_L_acts_B_j445 K x6 v7 v11 v18 G17)) v7 v14 G15) (x6 >>> (3 &&& 31)) 26 G13)) (x6 >>> (1 &&& 31)) 3 G10) v7 G8) x6 2 G0)))) (
    w_L_low (fun v71 G72 =>
      pif (v71 = 0) (
        w_L_acts_B_j146 K x5 x8 1 G72) (
        w_L_acts_B_j145 K x5 x8 G72)) (x5 >>> (4 &&& 31)) 2 G0)
def w_L_acts_B_j99 (K : Sh → Gt → Prop) (x5 : Int32) (x6 : Int32) (x7 : Int32) (x8 : Int32) (y1 : Int32) (y2 : Int32) (y3 : Int32) (G0 : Gt) : Prop :=
  vp_in y1 7 ∧
  pt (gu G0 47 (y1 : Int32).toNatClampNeg (y2 + y3)) fun G77 =>
  vp_in 6 7 ∧
  pif ((G77 47 (6 : Int32).toNatClampNeg) ≤ 30) (
    w_L_acts_B_j116 K x5 x6 x7 x8 G77) (
    w_L_told_B (fun s1 G79 => s1 = shB ∧
      K shB G79) G77)
def w_L_acts_B_j98 (K : Sh → Gt → Prop) (x5 : Int32) (x6 : Int32) (x7 : Int32) (x8 : Int32) (y1 : Int32) (y2 : Int32) (G0 : Gt) : Prop :=
  w_L_acts_B_j99 K x5 x6 x7 x8 y1 y2 1 G0
def w_L_acts_B_j68 (K : Sh → Gt → Prop) (x5 : Int32) (x6 : Int32) (x7 : Int32) (y0 : Int32) (y1 : Int32) (y2 : Int32) (G0 : Gt) : Prop :=
  w_L_low (fun v5 G6 =>
    pif (14 ≤ x7) (
      w_L_acts_B_j116 K x5 x6 x7 (y0 - v5) G6) (
      vp_in 6 7 ∧
      pif (x7 = 12) (
        w_L_acts_B_j99 K x5 x6 x7 (y0 - v5) 6 (G6 47 (6 : Int32).toNatClampNeg) 6 G6) (
        w_L_acts_B_j98 K x5 x6 x7 (y0 - v5) 6 (G6 47 (6 : Int32).toNatClampNeg) G6))) y1 y2 G0
def w_L_acts_B_j66 (K : Sh → Gt → Prop) (x5 : Int32) (x6 : Int32) (x7 : Int32) (y0 : Int32) (y1 : Int32) (G0 : Gt) : Prop :=
  w_L_acts_B_j68 K x5 x6 x7 y0 y1 12 G0
def w_L_acts_B_j45 (K : Sh → Gt → Prop) (x5 : Int32) (x6 : Int32) (x7 : Int32) (G0 : Gt) : Prop :=
  vp_in 0 7 ∧
  vp_in 0 7 ∧
  pif (12 ≤ (G0 47 (0 : Int32).toNatClampNeg)) (
    w_L_acts_B_j66 K x5 x6 x7 ((G0 47 (0 : Int32).toNatClampNeg) - 1) x6 G0) (
    vp_in 0 7 ∧
    w_L_acts_B_j68 K x5 x6 x7 ((G0 47 (0 : Int32).toNatClampNeg) - 1) x6 (G0 47 (0 : Int32).toNatClampNeg) G0)
def w_L_acts_B (K : Sh → Gt → Prop) (p5 : Int32) (p6 : Int32) (G0 : Gt) : Prop :=
  w_L_low (fun v1 G2 =>
    vp_in 0 7 ∧
    pif ((G2 47 (0 : Int32).toNatClampNeg) < 6) (
      w_L_acts_B_j32 K p5 p6 G2) (
      pif (9 ≤ v1) (
        w_L_acts_B_j45 K p5 p6 v1 G2) (
        vp_in 0 7 ∧
        pif (58 ≤ (G2 47 (0 : Int32).toNatClampNeg)) (
          w_L_acts_B_j45 K p5 p6 v1 G2) (
          w_L_acts_B_j32 K p5 p6 G2)))) p5 16 G0
set_option maxHeartbeats 4000000 in
set_option maxRecDepth 100000 in
theorem t_L_acts_B {l : Launch} (hlf : l.stackTraces = false) (p5 : Int32) (p6 : Int32) (G0 : Gt) (K : Sh → Gt → Prop) (hw : w_L_acts_B K p5 p6 G0) : CV l yL_acts cL_acts 13 (some .boolean) 11 250 1096 6614 [.ref 0, .ref 46, .ref 47, .ref 48, .ref 49, .int p5, .int p6] shB G0 (fun r s' G' => r = some (.int 1) ∧ K s' G') := by
  refine CV_of (by decide) (Nat.le_of_ble_eq_true rfl) rfl ?_
  intro p e s m args below meth c D tA ad A C hr
  have hF0 : ∀ j, j < 145 → ad j = ad j := fun _ _ => rfl
  have h32 : ∀ (ad1 : Nat → Nat) (k n : Nat) (x5 : Int32) (x6 : Int32) (G0 : Gt), (∀ j, j < 145 → ad1 j = ad j) → k + 6 ≤ 1096 → n + 36 ≤ 6614 → w_L_acts_B_j32 K x5 x6 G0 → aw p l e { frames := 11, cells := 1096, slots := 6614, locals := 250 } s m args below meth c 13 D tA A (MQ below (QL D tA ad A shB (fun r s' G' => r = some (.int 1) ∧ K s' G')) args s 1096 6614 A) k n ad1 32 [some (.ref 0), some (.ref 46), some (.ref 47), none, none, some (.int x5), some (.int x6), none, none, none, none, none, none] [] shB G0 := by
    intro ad1 k n x5 x6 G0 hF hk hn hw
    unfold w_L_acts_B_j32 at hw
    refine aw_aloadn C dL_acts_32 rfl ?_
    refine aw_aloadn C dL_acts_33 rfl ?_
    refine aw_aloadn C dL_acts_34 rfl ?_
    refine aw_iload C dL_acts_35 rfl ?_
    refine aw_iconst (v := 4) C dL_acts_37 (by decide) ?_
    refine aw_ishr C dL_acts_38 ?_
    refine aw_iload C dL_acts_39 rfl ?_
    refine aw_runQ (mc := 6) (ms := 36) (rest := []) C (run_S C dL_acts_41 (t_L_makes_B hlf (x5 >>> (4 &&& 31)) x6 _ _ hw) mM_L_208 bL_makes rfl rfl ⟨Nat.le_of_ble_eq_true rfl, Nat.le_of_ble_eq_true rfl, by show _ ≤ 1096; omega, by show _ ≤ 6614; omega⟩ [] rfl (Nat.le_of_ble_eq_true rfl)) ⟨by decide, by decide, by decide, trivial⟩ trivial (fun r41 ad_3 s41 G4 hEad_3 hq => ?_)
    obtain ⟨rfl, rfl, hw⟩ := hq
    have hFad_3 : (∀ j, j < 145 → ad_3 j = ad j) := fun j hj => (hEad_3 j (ltBB hj)).trans (hF j hj)
    exact aw_lzreturn C hr dL_acts_44 rfl (by omega) (by omega) (fun j hj => hFad_3 j (ltB_ hj)) ⟨rfl, hw⟩
  have h479 : ∀ (ad1 : Nat → Nat) (k n : Nat) (G0 : Gt), (∀ j, j < 145 → ad1 j = ad j) → k + 2 ≤ 1096 → n + 12 ≤ 6614 → w_L_acts_B_j479 K  G0 → aw p l e { frames := 11, cells := 1096, slots := 6614, locals := 250 } s m args below meth c 13 D tA A (MQ below (QL D tA ad A shB (fun r s' G' => r = some (.int 1) ∧ K s' G')) args s 1096 6614 A) k n ad1 479 [some (.ref 0), none, none, none, none, none, none, none, none, none, none, none, none] [] shB G0 := by
    intro ad1 k n  G0 hF hk hn hw
    unfold w_L_acts_B_j479 at hw
    refine aw_aloadn C dL_acts_479 rfl ?_
    refine aw_iconst (v := 2) C dL_acts_480 (by decide) ?_
    refine aw_iconst (v := 0) C dL_acts_481 (by decide) ?_
    refine aw_runQ (mc := 1) (ms := 6) (rest := []) C (run_W (na := 3) C dL_acts_482 (t_L_write_B hlf 2 0 _ _ hw) mM_L_192 mW_write mT_write mI_L (by decide +kernel) rfl ⟨Nat.le_of_ble_eq_true rfl, Nat.le_of_ble_eq_true rfl, by show _ ≤ 1096; omega, by show _ ≤ 6614; omega⟩ [] rfl (Nat.le_of_ble_eq_true rfl)) ⟨by decide, trivial⟩ trivial (fun r482 ad_19 s482 G20 hEad_19 hq => ?_)
    obtain ⟨v21, rfl, rfl, hw⟩ := hq
    have hFad_19 : (∀ j, j < 145 → ad_19 j = ad j) := fun j hj => (hEad_19 j (ltBB hj)).trans (hF j hj)
    refine aw_ldc (v := (-1000001)) C dL_acts_485 mK_L_18 ?_
    refine aw_ic_ne C dL_acts_487 506 (by decide) hw (fun hc487 hw => ?_) (fun hc487 hw => ?_)
    · exact hw.elim
    · refine aw_aloadn C dL_acts_490 rfl ?_
      refine aw_iconst (v := 0) C dL_acts_491 (by decide) ?_
      refine aw_bipush (v := 26) C dL_acts_492 (by decide) ?_
      refine aw_runQ (mc := 1) (ms := 6) (rest := []) C (run_W (na := 3) C dL_acts_494 (t_L_write_B hlf 0 26 _ _ hw) mM_L_192 mW_write mT_write mI_L (by decide +kernel) rfl ⟨Nat.le_of_ble_eq_true rfl, Nat.le_of_ble_eq_true rfl, by show _ ≤ 1096; omega, by show _ ≤ 6614; omega⟩ [] rfl (Nat.le_of_ble_eq_true rfl)) ⟨by decide, trivial⟩ trivial (fun r494 ad_22 s494 G23 hEad_22 hq => ?_)
      obtain ⟨v24, rfl, rfl, hw⟩ := hq
      have hFad_22 : (∀ j, j < 145 → ad_22 j = ad j) := fun j hj => (hEad_22 j (ltBB hj)).trans (hFad_19 j hj)
      refine aw_ldc (v := (-1000002)) C dL_acts_497 mK_L_21 ?_
      refine aw_ic_ne C dL_acts_499 506 (by decide) hw (fun hc499 hw => ?_) (fun hc499 hw => ?_)
      · exact hw.elim
      · refine aw_iconst (v := 1) C dL_acts_502 (by decide) ?_
        refine aw_goto (tgt := 507) C dL_acts_503 (by decide) ?_
        exact aw_lzreturn C hr dL_acts_507 rfl (by omega) (by omega) (fun j hj => hFad_22 j (ltB_ hj)) ⟨rfl, hw⟩
  have h449 : ∀ (ad1 : Nat → Nat) (k n : Nat) (x6 : Int32) (x9 : Int32) (x10 : Int32) (y0 : Int32) (y1 : Int32) (G0 : Gt), (∀ j, j < 145 → ad1 j = ad j) → k + 3 ≤ 1096 → n + 18 ≤ 6614 → w_L_acts_B_j449 K x6 x9 x10 y0 y1 G0 → aw p l e { frames := 11, cells := 1096, slots := 6614, locals := 250 } s m args below meth c 13 D tA A (MQ below (QL D tA ad A shB (fun r s' G' => r = some (.int 1) ∧ K s' G')) args s 1096 6614 A) k n ad1 449 [some (.ref 0), none, none, none, none, none, some (.int x6), none, none, some (.int x9), some (.int x10), none, none] [.int y1, .int y0] shB G0 := by
    intro ad1 k n x6 x9 x10 y0 y1 G0 hF hk hn hw
    unfold w_L_acts_B_j449 at hw
    refine aw_ic_ne C dL_acts_449 506 (by decide) hw (fun hc449 hw => ?_) (fun hc449 hw => ?_)
    · exact hw.elim
    · refine aw_iload C dL_acts_452 rfl ?_
      refine aw_bipush (v := 40) C dL_acts_454 (by decide) ?_
      refine aw_ic_eq C dL_acts_456 479 (by decide) hw (fun hc456 hw => ?_) (fun hc456 hw => ?_)
      · exact aw_msk [true, false, false, false, false, false, false, false, false, false, false, false, false] (h479 ad1 _ _ _ hF (by omega) (by omega) hw)
      · refine aw_aloadn C dL_acts_459 rfl ?_
        refine aw_iload C dL_acts_460 rfl ?_
        refine aw_iload C dL_acts_462 rfl ?_
        refine aw_runQ (mc := 1) (ms := 6) (rest := []) C (run_W (na := 3) C dL_acts_464 (t_L_letter_B hlf x9 x10 _ _ hw) mM_L_123 mW_letter mT_letter mI_L (by decide +kernel) rfl ⟨Nat.le_of_ble_eq_true rfl, Nat.le_of_ble_eq_true rfl, by show _ ≤ 1096; omega, by show _ ≤ 6614; omega⟩ [] rfl (Nat.le_of_ble_eq_true rfl)) ⟨by decide, trivial⟩ trivial (fun r464 ad_25 s464 G26 hEad_25 hq => ?_)
        obtain ⟨v27, rfl, rfl, hw⟩ := hq
        have hFad_25 : (∀ j, j < 145 → ad_25 j = ad j) := fun j hj => (hEad_25 j (ltBB hj)).trans (hF j hj)
        refine aw_iload C dL_acts_467 rfl ?_
        refine aw_iconst (v := 3) C dL_acts_469 (by decide) ?_
        refine aw_ishr C dL_acts_470 ?_
        refine aw_bipush (v := 26) C dL_acts_471 (by decide) ?_
        refine aw_callS C dL_acts_473 (t_L_low  (x6 >>> (3 &&& 31)) 26 _ _ hw) mM_L_93 bL_low rfl rfl ⟨Nat.le_of_ble_eq_true rfl, Nat.le_of_ble_eq_true rfl, by show _ ≤ 1096; omega, by show _ ≤ 6614; omega⟩ _ rfl (Nat.le_of_ble_eq_true rfl) (fun r473 G29 hq => ?_)
        obtain ⟨v28, rfl, hw⟩ := hq
        refine aw_ic_ne C dL_acts_476 506 (by decide) hw (fun hc476 hw => ?_) (fun hc476 hw => ?_)
        · exact hw.elim
        · exact aw_msk [true, false, false, false, false, false, false, false, false, false, false, false, false] (h479 ad_25 _ _ _ hFad_25 (by omega) (by omega) hw)
  have h445 : ∀ (ad1 : Nat → Nat) (k n : Nat) (x6 : Int32) (x9 : Int32) (x10 : Int32) (y0 : Int32) (G0 : Gt), (∀ j, j < 145 → ad1 j = ad j) → k + 3 ≤ 1096 → n + 18 ≤ 6614 → w_L_acts_B_j445 K x6 x9 x10 y0 G0 → aw p l e { frames := 11, cells := 1096, slots := 6614, locals := 250 } s m args below meth c 13 D tA A (MQ below (QL D tA ad A shB (fun r s' G' => r = some (.int 1) ∧ K s' G')) args s 1096 6614 A) k n ad1 445 [some (.ref 0), none, none, none, none, none, some (.int x6), none, none, some (.int x9), some (.int x10), none, none] [.int y0] shB G0 := by
    intro ad1 k n x6 x9 x10 y0 G0 hF hk hn hw
    unfold w_L_acts_B_j445 at hw
    refine aw_iload C dL_acts_445 rfl ?_
    refine aw_iconst (v := 1) C dL_acts_447 (by decide) ?_
    refine aw_iadd C dL_acts_448 ?_
    exact aw_msk [true, false, false, false, false, false, true, false, false, true, true, false, false] (h449 ad1 _ _ x6 x9 x10 y0 (x10 + 1) _ hF (by omega) (by omega) hw)
  have h277 : ∀ (ad1 : Nat → Nat) (k n : Nat) (x9 : Int32) (x11 : Int32) (x12 : Int32) (y1 : Int32) (y2 : Int32) (y3 : Int32) (y4 : Int32) (G0 : Gt), (∀ j, j < 145 → ad1 j = ad j) → k + 5 ≤ 1096 → n + 30 ≤ 6614 → w_L_acts_B_j277 K x9 x11 x12 y1 y2 y3 y4 G0 → aw p l e { frames := 11, cells := 1096, slots := 6614, locals := 250 } s m args below meth c 13 D tA A (MQ below (QL D tA ad A shB (fun r s' G' => r = some (.int 1) ∧ K s' G')) args s 1096 6614 A) k n ad1 277 [some (.ref 0), none, none, none, none, none, none, none, none, some (.int x9), none, some (.int x11), some (.int x12)] [.int y4, .int y3, .int y2, .int y1, .ref 0] shB G0 := by
    intro ad1 k n x9 x11 x12 y1 y2 y3 y4 G0 hF hk hn hw
    unfold w_L_acts_B_j277 at hw
    refine aw_runQ (mc := 1) (ms := 6) (rest := []) C (run_W (na := 5) C dL_acts_277 (t_L_define_B hlf y1 y2 y3 y4 _ _ hw) mM_L_194 mW_define mT_define mI_L (by decide +kernel) rfl ⟨Nat.le_of_ble_eq_true rfl, Nat.le_of_ble_eq_true rfl, by show _ ≤ 1096; omega, by show _ ≤ 6614; omega⟩ [] rfl (Nat.le_of_ble_eq_true rfl)) ⟨by decide, trivial⟩ trivial (fun r277 ad_50 s277 G51 hEad_50 hq => ?_)
    obtain ⟨v52, rfl, rfl, hw⟩ := hq
    have hFad_50 : (∀ j, j < 145 → ad_50 j = ad j) := fun j hj => (hEad_50 j (ltBB hj)).trans (hF j hj)
    refine aw_iload C dL_acts_280 rfl ?_
    refine aw_ic_ne C dL_acts_282 340 (by decide) hw (fun hc282 hw => ?_) (fun hc282 hw => ?_)
    · exact hw.elim
    · refine aw_aloadn C dL_acts_285 rfl ?_
      refine aw_iload C dL_acts_286 rfl ?_
      refine aw_runQ (mc := 1) (ms := 6) (rest := []) C (run_W (na := 2) C dL_acts_288 (t_L_body_B hlf x9 _ _ hw) mM_L_127 mW_body mT_body mI_L (by decide +kernel) rfl ⟨Nat.le_of_ble_eq_true rfl, Nat.le_of_ble_eq_true rfl, by show _ ≤ 1096; omega, by show _ ≤ 6614; omega⟩ [] rfl (Nat.le_of_ble_eq_true rfl)) ⟨by decide, trivial⟩ trivial (fun r288 ad_53 s288 G54 hEad_53 hq => ?_)
      obtain ⟨v55, rfl, rfl, hw⟩ := hq
      have hFad_53 : (∀ j, j < 145 → ad_53 j = ad j) := fun j hj => (hEad_53 j (ltBB hj)).trans (hFad_50 j hj)
      refine aw_iload C dL_acts_291 rfl ?_
      refine aw_ic_ne C dL_acts_293 340 (by decide) hw (fun hc293 hw => ?_) (fun hc293 hw => ?_)
      · exact hw.elim
      · refine aw_aloadn C dL_acts_296 rfl ?_
        refine aw_bipush (v := 6) C dL_acts_297 (by decide) ?_
        refine aw_iconst (v := 0) C dL_acts_299 (by decide) ?_
        refine aw_iconst (v := 0) C dL_acts_300 (by decide) ?_
        refine aw_iconst (v := (-1)) C dL_acts_301 (by decide) ?_
        refine aw_runQ (mc := 1) (ms := 6) (rest := []) C (run_W (na := 5) C dL_acts_302 (t_L_define_B hlf 6 0 0 (-1) _ _ hw) mM_L_194 mW_define mT_define mI_L (by decide +kernel) rfl ⟨Nat.le_of_ble_eq_true rfl, Nat.le_of_ble_eq_true rfl, by show _ ≤ 1096; omega, by show _ ≤ 6614; omega⟩ [] rfl (Nat.le_of_ble_eq_true rfl)) ⟨by decide, trivial⟩ trivial (fun r302 ad_56 s302 G57 hEad_56 hq => ?_)
        obtain ⟨v58, rfl, rfl, hw⟩ := hq
        have hFad_56 : (∀ j, j < 145 → ad_56 j = ad j) := fun j hj => (hEad_56 j (ltBB hj)).trans (hFad_53 j hj)
        refine aw_ldc (v := (-1000001)) C dL_acts_305 mK_L_18 ?_
        refine aw_ic_ne C dL_acts_307 340 (by decide) hw (fun hc307 hw => ?_) (fun hc307 hw => ?_)
        · exact hw.elim
        · refine aw_aloadn C dL_acts_310 rfl ?_
          refine aw_iconst (v := 0) C dL_acts_311 (by decide) ?_
          refine aw_iconst (v := 1) C dL_acts_312 (by decide) ?_
          refine aw_iconst (v := 0) C dL_acts_313 (by decide) ?_
          refine aw_iconst (v := 0) C dL_acts_314 (by decide) ?_
          refine aw_runQ (mc := 1) (ms := 6) (rest := []) C (run_W (na := 5) C dL_acts_315 (t_L_define_B hlf 0 1 0 0 _ _ hw) mM_L_194 mW_define mT_define mI_L (by decide +kernel) rfl ⟨Nat.le_of_ble_eq_true rfl, Nat.le_of_ble_eq_true rfl, by show _ ≤ 1096; omega, by show _ ≤ 6614; omega⟩ [] rfl (Nat.le_of_ble_eq_true rfl)) ⟨by decide, trivial⟩ trivial (fun r315 ad_59 s315 G60 hEad_59 hq => ?_)
          obtain ⟨v61, rfl, rfl, hw⟩ := hq
          have hFad_59 : (∀ j, j < 145 → ad_59 j = ad j) := fun j hj => (hEad_59 j (ltBB hj)).trans (hFad_56 j hj)
          refine aw_ldc (v := (-1000002)) C dL_acts_318 mK_L_21 ?_
          refine aw_ic_ne C dL_acts_320 340 (by decide) hw (fun hc320 hw => ?_) (fun hc320 hw => ?_)
          · exact hw.elim
          · refine aw_aloadn C dL_acts_323 rfl ?_
            refine aw_iconst (v := 0) C dL_acts_324 (by decide) ?_
            refine aw_iconst (v := 3) C dL_acts_325 (by decide) ?_
            refine aw_iconst (v := 0) C dL_acts_326 (by decide) ?_
            refine aw_iconst (v := (-1)) C dL_acts_327 (by decide) ?_
            refine aw_runQ (mc := 1) (ms := 6) (rest := []) C (run_W (na := 5) C dL_acts_328 (t_L_define_B hlf 0 3 0 (-1) _ _ hw) mM_L_194 mW_define mT_define mI_L (by decide +kernel) rfl ⟨Nat.le_of_ble_eq_true rfl, Nat.le_of_ble_eq_true rfl, by show _ ≤ 1096; omega, by show _ ≤ 6614; omega⟩ [] rfl (Nat.le_of_ble_eq_true rfl)) ⟨by decide, trivial⟩ trivial (fun r328 ad_62 s328 G63 hEad_62 hq => ?_)
            obtain ⟨v64, rfl, rfl, hw⟩ := hq
            have hFad_62 : (∀ j, j < 145 → ad_62 j = ad j) := fun j hj => (hEad_62 j (ltBB hj)).trans (hFad_59 j hj)
            refine aw_ldc (v := (-1000002)) C dL_acts_331 mK_L_21 ?_
            refine aw_ic_ne C dL_acts_333 340 (by decide) hw (fun hc333 hw => ?_) (fun hc333 hw => ?_)
            · exact hw.elim
            · refine aw_iconst (v := 1) C dL_acts_336 (by decide) ?_
              refine aw_goto (tgt := 341) C dL_acts_337 (by decide) ?_
              exact aw_lzreturn C hr dL_acts_341 rfl (by omega) (by omega) (fun j hj => hFad_62 j (ltB_ hj)) ⟨rfl, hw⟩
  have h276 : ∀ (ad1 : Nat → Nat) (k n : Nat) (x9 : Int32) (x11 : Int32) (x12 : Int32) (y1 : Int32) (y2 : Int32) (y3 : Int32) (G0 : Gt), (∀ j, j < 145 → ad1 j = ad j) → k + 5 ≤ 1096 → n + 30 ≤ 6614 → w_L_acts_B_j276 K x9 x11 x12 y1 y2 y3 G0 → aw p l e { frames := 11, cells := 1096, slots := 6614, locals := 250 } s m args below meth c 13 D tA A (MQ below (QL D tA ad A shB (fun r s' G' => r = some (.int 1) ∧ K s' G')) args s 1096 6614 A) k n ad1 276 [some (.ref 0), none, none, none, none, none, none, none, none, some (.int x9), none, some (.int x11), some (.int x12)] [.int y3, .int y2, .int y1, .ref 0] shB G0 := by
    intro ad1 k n x9 x11 x12 y1 y2 y3 G0 hF hk hn hw
    unfold w_L_acts_B_j276 at hw
    refine aw_iconst (v := (-1)) C dL_acts_276 (by decide) ?_
    exact aw_msk [true, false, false, false, false, false, false, false, false, true, false, true, true] (h277 ad1 _ _ x9 x11 x12 y1 y2 y3 (-1) _ hF (by omega) (by omega) hw)
  have h272 : ∀ (ad1 : Nat → Nat) (k n : Nat) (x9 : Int32) (x11 : Int32) (x12 : Int32) (y1 : Int32) (y2 : Int32) (y3 : Int32) (G0 : Gt), (∀ j, j < 145 → ad1 j = ad j) → k + 5 ≤ 1096 → n + 30 ≤ 6614 → w_L_acts_B_j272 K x9 x11 x12 y1 y2 y3 G0 → aw p l e { frames := 11, cells := 1096, slots := 6614, locals := 250 } s m args below meth c 13 D tA A (MQ below (QL D tA ad A shB (fun r s' G' => r = some (.int 1) ∧ K s' G')) args s 1096 6614 A) k n ad1 272 [some (.ref 0), none, none, none, none, none, none, none, none, some (.int x9), none, some (.int x11), some (.int x12)] [.int y3, .int y2, .int y1, .ref 0] shB G0 := by
    intro ad1 k n x9 x11 x12 y1 y2 y3 G0 hF hk hn hw
    unfold w_L_acts_B_j272 at hw
    refine aw_iconst (v := (-1)) C dL_acts_272 (by decide) ?_
    refine aw_goto (tgt := 277) C dL_acts_273 (by decide) ?_
    exact aw_msk [true, false, false, false, false, false, false, false, false, true, false, true, true] (h277 ad1 _ _ x9 x11 x12 y1 y2 y3 (-1) _ hF (by omega) (by omega) hw)
  have h146 : ∀ (ad1 : Nat → Nat) (k n : Nat) (x5 : Int32) (y4 : Int32) (y5 : Int32) (G0 : Gt), (∀ j, j < 145 → ad1 j = ad j) → k + 1096 ≤ 1096 → n + 6614 ≤ 6614 → w_L_acts_B_j146 K x5 y4 y5 G0 → aw p l e { frames := 11, cells := 1096, slots := 6614, locals := 250 } s m args below meth c 13 D tA A (MQ below (QL D tA ad A shB (fun r s' G' => r = some (.int 1) ∧ K s' G')) args s 1096 6614 A) k n ad1 146 [none, none, none, none, none, some (.int x5), none, none, none, none, none, none, none] [.int y5, .int y4, .ref 49, .ref 48, .ref 47, .ref 0] shB G0 := by
    intro ad1 k n x5 y4 y5 G0 hF hk hn hw
    unfold w_L_acts_B_j146 at hw
    refine aw_iconst (v := 1) C dL_acts_146 (by decide) ?_
    refine aw_iload C dL_acts_147 rfl ?_
    refine aw_iconst (v := 5) C dL_acts_149 (by decide) ?_
    refine aw_ishr C dL_acts_150 ?_
    refine aw_bipush (v := 9) C dL_acts_151 (by decide) ?_
    refine aw_callS C dL_acts_153 (t_L_low  (x5 >>> (5 &&& 31)) 9 _ _ hw) mM_L_93 bL_low rfl rfl ⟨Nat.le_of_ble_eq_true rfl, Nat.le_of_ble_eq_true rfl, by show _ ≤ 1096; omega, by show _ ≤ 6614; omega⟩ _ rfl (Nat.le_of_ble_eq_true rfl) (fun r153 G74 hq => ?_)
    obtain ⟨v73, rfl, hw⟩ := hq
    refine aw_iadd C dL_acts_156 ?_
    refine aw_runQ (mc := 1096) (ms := 6614) (rest := []) C (run_S C dL_acts_157 (t_L_runs_B hlf y4 y5 (1 + v73) _ _ hw) mM_L_212 bL_runs rfl rfl ⟨Nat.le_of_ble_eq_true rfl, Nat.le_of_ble_eq_true rfl, by show _ ≤ 1096; omega, by show _ ≤ 6614; omega⟩ [] rfl (Nat.le_of_ble_eq_true rfl)) trivial trivial (fun r157 ad_75 s157 G76 hEad_75 hq => ?_)
    obtain ⟨rfl, rfl, hw⟩ := hq
    have hFad_75 : (∀ j, j < 145 → ad_75 j = ad j) := fun j hj => (hEad_75 j (ltBB hj)).trans (hF j hj)
    exact aw_lzreturn C hr dL_acts_160 rfl (by omega) (by omega) (fun j hj => hFad_75 j (ltB_ hj)) ⟨rfl, hw⟩
  have h145 : ∀ (ad1 : Nat → Nat) (k n : Nat) (x5 : Int32) (y4 : Int32) (G0 : Gt), (∀ j, j < 145 → ad1 j = ad j) → k + 1096 ≤ 1096 → n + 6614 ≤ 6614 → w_L_acts_B_j145 K x5 y4 G0 → aw p l e { frames := 11, cells := 1096, slots := 6614, locals := 250 } s m args below meth c 13 D tA A (MQ below (QL D tA ad A shB (fun r s' G' => r = some (.int 1) ∧ K s' G')) args s 1096 6614 A) k n ad1 145 [none, none, none, none, none, some (.int x5), none, none, none, none, none, none, none] [.int y4, .ref 49, .ref 48, .ref 47, .ref 0] shB G0 := by
    intro ad1 k n x5 y4 G0 hF hk hn hw
    unfold w_L_acts_B_j145 at hw
    refine aw_iconst (v := 0) C dL_acts_145 (by decide) ?_
    exact aw_msk [false, false, false, false, false, true, false, false, false, false, false, false, false] (h146 ad1 _ _ x5 y4 0 _ hF (by omega) (by omega) hw)
  have h116 : ∀ (ad1 : Nat → Nat) (k n : Nat) (x5 : Int32) (x6 : Int32) (x7 : Int32) (x8 : Int32) (G0 : Gt), (∀ j, j < 145 → ad1 j = ad j) → k + 1096 ≤ 1096 → n + 6614 ≤ 6614 → w_L_acts_B_j116 K x5 x6 x7 x8 G0 → aw p l e { frames := 11, cells := 1096, slots := 6614, locals := 250 } s m args below meth c 13 D tA A (MQ below (QL D tA ad A shB (fun r s' G' => r = some (.int 1) ∧ K s' G')) args s 1096 6614 A) k n ad1 116 [some (.ref 0), none, some (.ref 47), some (.ref 48), some (.ref 49), some (.int x5), some (.int x6), some (.int x7), some (.int x8), none, none, none, none] [] shB G0 := by
    intro ad1 k n x5 x6 x7 x8 G0 hF hk hn hw
    unfold w_L_acts_B_j116 at hw
    refine aw_iload C dL_acts_116 rfl ?_
    refine aw_bipush (v := 12) C dL_acts_118 (by decide) ?_
    refine aw_ic_ge C dL_acts_120 161 (by decide) hw (fun hc120 hw => ?_) (fun hc120 hw => ?_)
    · refine aw_iload C dL_acts_161 rfl ?_
      refine aw_bipush (v := 12) C dL_acts_163 (by decide) ?_
      refine aw_ic_ne C dL_acts_165 176 (by decide) hw (fun hc165 hw => ?_) (fun hc165 hw => ?_)
      · refine aw_iload C dL_acts_176 rfl ?_
        refine aw_bipush (v := 13) C dL_acts_178 (by decide) ?_
        refine aw_ic_ne C dL_acts_180 198 (by decide) hw (fun hc180 hw => ?_) (fun hc180 hw => ?_)
        · refine aw_iload C dL_acts_198 rfl ?_
          refine aw_bipush (v := 14) C dL_acts_200 (by decide) ?_
          refine aw_ic_ne C dL_acts_202 342 (by decide) hw (fun hc202 hw => ?_) (fun hc202 hw => ?_)
          · refine aw_iload C dL_acts_342 rfl ?_
            refine aw_iconst (v := 2) C dL_acts_344 (by decide) ?_
            refine aw_callS C dL_acts_345 (t_L_low  x6 2 _ _ hw) mM_L_93 bL_low rfl rfl ⟨Nat.le_of_ble_eq_true rfl, Nat.le_of_ble_eq_true rfl, by show _ ≤ 1096; omega, by show _ ≤ 6614; omega⟩ _ rfl (Nat.le_of_ble_eq_true rfl) (fun r345 G8 hq => ?_)
            obtain ⟨v7, rfl, hw⟩ := hq
            refine aw_istore C dL_acts_348 (by decide) rfl ?_
            refine aw_aloadn C dL_acts_350 rfl ?_
            refine aw_iload C dL_acts_351 rfl ?_
            refine aw_runQ (mc := 1) (ms := 6) (rest := []) C (run_W (na := 2) C dL_acts_353 (t_L_length_B hlf v7 _ _ hw) mM_L_116 mW_length mT_length mI_L (by decide +kernel) rfl ⟨Nat.le_of_ble_eq_true rfl, Nat.le_of_ble_eq_true rfl, by show _ ≤ 1096; omega, by show _ ≤ 6614; omega⟩ [] rfl (Nat.le_of_ble_eq_true rfl)) ⟨by decide, by decide, by decide, by decide, trivial⟩ trivial (fun r353 ad_9 s353 G10 hEad_9 hq => ?_)
            obtain ⟨v11, rfl, rfl, hw⟩ := hq
            have hFad_9 : (∀ j, j < 145 → ad_9 j = ad j) := fun j hj => (hEad_9 j (ltBB hj)).trans (hF j hj)
            refine aw_istore C dL_acts_356 (by decide) rfl ?_
            refine aw_iload C dL_acts_358 rfl ?_
            refine aw_iconst (v := 1) C dL_acts_360 (by decide) ?_
            refine aw_ishr C dL_acts_361 ?_
            refine aw_iconst (v := 3) C dL_acts_362 (by decide) ?_
            refine aw_callS C dL_acts_363 (t_L_low  (x6 >>> (1 &&& 31)) 3 _ _ hw) mM_L_93 bL_low rfl rfl ⟨Nat.le_of_ble_eq_true rfl, Nat.le_of_ble_eq_true rfl, by show _ ≤ 1096; omega, by show _ ≤ 6614; omega⟩ _ rfl (Nat.le_of_ble_eq_true rfl) (fun r363 G13 hq => ?_)
            obtain ⟨v12, rfl, hw⟩ := hq
            refine aw_if_ne C dL_acts_366 418 (by decide) hw (fun hc366 hw => ?_) (fun hc366 hw => ?_)
            · refine aw_aloadn C dL_acts_418 rfl ?_
              refine aw_iload C dL_acts_419 rfl ?_
              refine aw_iload C dL_acts_421 rfl ?_
              refine aw_iconst (v := 3) C dL_acts_423 (by decide) ?_
              refine aw_ishr C dL_acts_424 ?_
              refine aw_bipush (v := 26) C dL_acts_425 (by decide) ?_
              refine aw_callS C dL_acts_427 (t_L_low  (x6 >>> (3 &&& 31)) 26 _ _ hw) mM_L_93 bL_low rfl rfl ⟨Nat.le_of_ble_eq_true rfl, Nat.le_of_ble_eq_true rfl, by show _ ≤ 1096; omega, by show _ ≤ 6614; omega⟩ _ rfl (Nat.le_of_ble_eq_true rfl) (fun r427 G15 hq => ?_)
              obtain ⟨v14, rfl, hw⟩ := hq
              refine aw_runQ (mc := 1) (ms := 6) (rest := []) C (run_W (na := 3) C dL_acts_430 (t_L_write_B hlf v7 v14 _ _ hw) mM_L_192 mW_write mT_write mI_L (by decide +kernel) rfl ⟨Nat.le_of_ble_eq_true rfl, Nat.le_of_ble_eq_true rfl, by show _ ≤ 1096; omega, by show _ ≤ 6614; omega⟩ [] rfl (Nat.le_of_ble_eq_true rfl)) ⟨by decide, by decide, by decide, by decide, trivial⟩ trivial (fun r430 ad_16 s430 G17 hEad_16 hq => ?_)
              obtain ⟨v18, rfl, rfl, hw⟩ := hq
              have hFad_16 : (∀ j, j < 145 → ad_16 j = ad j) := fun j hj => (hEad_16 j (ltBB hj)).trans (hFad_9 j hj)
              refine aw_iload C dL_acts_433 rfl ?_
              refine aw_bipush (v := 40) C dL_acts_435 (by decide) ?_
              refine aw_ic_ne C dL_acts_437 445 (by decide) hw (fun hc437 hw => ?_) (fun hc437 hw => ?_)
              · exact aw_msk [true, false, false, false, false, false, true, false, false, true, true, false, false] (h445 ad_16 _ _ x6 v7 v11 v18 _ hFad_16 (by omega) (by omega) hw)
              · refine aw_ldc (v := (-1000003)) C dL_acts_440 mK_L_24 ?_
                refine aw_goto (tgt := 449) C dL_acts_442 (by decide) ?_
                exact aw_msk [true, false, false, false, false, false, true, false, false, true, true, false, false] (h449 ad_16 _ _ x6 v7 v11 v18 (-1000003) _ hFad_16 (by omega) (by omega) hw)
            · refine aw_aloadn C dL_acts_369 rfl ?_
              refine aw_iload C dL_acts_370 rfl ?_
              refine aw_runQ (mc := 1) (ms := 6) (rest := []) C (run_W (na := 2) C dL_acts_372 (t_L_option_B hlf v7 _ _ hw) mM_L_125 mW_option mT_option mI_L (by decide +kernel) rfl ⟨Nat.le_of_ble_eq_true rfl, Nat.le_of_ble_eq_true rfl, by show _ ≤ 1096; omega, by show _ ≤ 6614; omega⟩ [] rfl (Nat.le_of_ble_eq_true rfl)) ⟨by decide, by decide, by decide, by decide, trivial⟩ trivial (fun r372 ad_30 s372 G31 hEad_30 hq => ?_)
              obtain ⟨v32, rfl, rfl, hw⟩ := hq
              have hFad_30 : (∀ j, j < 145 → ad_30 j = ad j) := fun j hj => (hEad_30 j (ltBB hj)).trans (hFad_9 j hj)
              refine aw_istore C dL_acts_375 (by decide) rfl ?_
              refine aw_iload C dL_acts_377 rfl ?_
              refine aw_iconst (v := 3) C dL_acts_379 (by decide) ?_
              refine aw_ishr C dL_acts_380 ?_
              refine aw_bipush (v := 99) C dL_acts_381 (by decide) ?_
              refine aw_callS C dL_acts_383 (t_L_low  (x6 >>> (3 &&& 31)) 99 _ _ hw) mM_L_93 bL_low rfl rfl ⟨Nat.le_of_ble_eq_true rfl, Nat.le_of_ble_eq_true rfl, by show _ ≤ 1096; omega, by show _ ≤ 6614; omega⟩ _ rfl (Nat.le_of_ble_eq_true rfl) (fun r383 G34 hq => ?_)
              obtain ⟨v33, rfl, hw⟩ := hq
              refine aw_istore C dL_acts_386 (by decide) rfl ?_
              refine aw_aloadn C dL_acts_388 rfl ?_
              refine aw_iload C dL_acts_389 rfl ?_
              refine aw_iload C dL_acts_391 rfl ?_
              refine aw_runQ (mc := 1) (ms := 6) (rest := []) C (run_W (na := 3) C dL_acts_393 (t_L_setOption_B hlf v7 v33 _ _ hw) mM_L_190 mW_setOption mT_setOption mI_L (by decide +kernel) rfl ⟨Nat.le_of_ble_eq_true rfl, Nat.le_of_ble_eq_true rfl, by show _ ≤ 1096; omega, by show _ ≤ 6614; omega⟩ [] rfl (Nat.le_of_ble_eq_true rfl)) ⟨by decide, by decide, by decide, by decide, trivial⟩ trivial (fun r393 ad_35 s393 G36 hEad_35 hq => ?_)
              obtain ⟨v37, rfl, rfl, hw⟩ := hq
              have hFad_35 : (∀ j, j < 145 → ad_35 j = ad j) := fun j hj => (hEad_35 j (ltBB hj)).trans (hFad_30 j hj)
              refine aw_iload C dL_acts_396 rfl ?_
              refine aw_ic_ne C dL_acts_398 416 (by decide) hw (fun hc398 hw => ?_) (fun hc398 hw => ?_)
              · exact hw.elim
              · refine aw_aloadn C dL_acts_401 rfl ?_
                refine aw_iload C dL_acts_402 rfl ?_
                refine aw_runQ (mc := 1) (ms := 6) (rest := []) C (run_W (na := 2) C dL_acts_404 (t_L_option_B hlf v7 _ _ hw) mM_L_125 mW_option mT_option mI_L (by decide +kernel) rfl ⟨Nat.le_of_ble_eq_true rfl, Nat.le_of_ble_eq_true rfl, by show _ ≤ 1096; omega, by show _ ≤ 6614; omega⟩ [] rfl (Nat.le_of_ble_eq_true rfl)) ⟨by decide, by decide, by decide, by decide, trivial⟩ trivial (fun r404 ad_38 s404 G39 hEad_38 hq => ?_)
                obtain ⟨v40, rfl, rfl, hw⟩ := hq
                have hFad_38 : (∀ j, j < 145 → ad_38 j = ad j) := fun j hj => (hEad_38 j (ltBB hj)).trans (hFad_35 j hj)
                refine aw_iload C dL_acts_407 rfl ?_
                refine aw_ic_ne C dL_acts_409 416 (by decide) hw (fun hc409 hw => ?_) (fun hc409 hw => ?_)
                · exact hw.elim
                · refine aw_iconst (v := 1) C dL_acts_412 (by decide) ?_
                  refine aw_goto (tgt := 417) C dL_acts_413 (by decide) ?_
                  exact aw_lzreturn C hr dL_acts_417 rfl (by omega) (by omega) (fun j hj => hFad_38 j (ltB_ hj)) ⟨rfl, hw⟩
          · refine aw_iload C dL_acts_205 rfl ?_
            refine aw_iconst (v := 3) C dL_acts_207 (by decide) ?_
            refine aw_callS C dL_acts_208 (t_L_low  x6 3 _ _ hw) mM_L_93 bL_low rfl rfl ⟨Nat.le_of_ble_eq_true rfl, Nat.le_of_ble_eq_true rfl, by show _ ≤ 1096; omega, by show _ ≤ 6614; omega⟩ _ rfl (Nat.le_of_ble_eq_true rfl) (fun r208 G42 hq => ?_)
            obtain ⟨v41, rfl, hw⟩ := hq
            refine aw_istore C dL_acts_211 (by decide) rfl ?_
            refine aw_iload C dL_acts_213 rfl ?_
            refine aw_iconst (v := 2) C dL_acts_215 (by decide) ?_
            refine aw_ishr C dL_acts_216 ?_
            refine aw_iconst (v := 3) C dL_acts_217 (by decide) ?_
            refine aw_callS C dL_acts_218 (t_L_low  (x6 >>> (2 &&& 31)) 3 _ _ hw) mM_L_93 bL_low rfl rfl ⟨Nat.le_of_ble_eq_true rfl, Nat.le_of_ble_eq_true rfl, by show _ ≤ 1096; omega, by show _ ≤ 6614; omega⟩ _ rfl (Nat.le_of_ble_eq_true rfl) (fun r218 G44 hq => ?_)
            obtain ⟨v43, rfl, hw⟩ := hq
            refine aw_istore C dL_acts_221 (by decide) rfl ?_
            refine aw_iload C dL_acts_223 rfl ?_
            refine aw_iconst (v := 4) C dL_acts_225 (by decide) ?_
            refine aw_ishr C dL_acts_226 ?_
            refine aw_aloadn C dL_acts_227 rfl ?_
            refine aw_iconst (v := 0) C dL_acts_228 (by decide) ?_
            refine aw_iald C dL_acts_229 (sA_47 shOK_B) hw.1 ?_
            replace hw := hw.2
            refine aw_callS C dL_acts_230 (t_L_low  (x6 >>> (4 &&& 31)) (G44 47 (0 : Int32).toNatClampNeg) _ _ hw) mM_L_93 bL_low rfl rfl ⟨Nat.le_of_ble_eq_true rfl, Nat.le_of_ble_eq_true rfl, by show _ ≤ 1096; omega, by show _ ≤ 6614; omega⟩ _ rfl (Nat.le_of_ble_eq_true rfl) (fun r230 G46 hq => ?_)
            obtain ⟨v45, rfl, hw⟩ := hq
            refine aw_istore C dL_acts_233 (by decide) rfl ?_
            refine aw_aloadn C dL_acts_235 rfl ?_
            refine aw_iload C dL_acts_236 rfl ?_
            refine aw_runQ (mc := 1) (ms := 6) (rest := []) C (run_W (na := 2) C dL_acts_238 (t_L_body_B hlf v41 _ _ hw) mM_L_127 mW_body mT_body mI_L (by decide +kernel) rfl ⟨Nat.le_of_ble_eq_true rfl, Nat.le_of_ble_eq_true rfl, by show _ ≤ 1096; omega, by show _ ≤ 6614; omega⟩ [] rfl (Nat.le_of_ble_eq_true rfl)) ⟨by decide, by decide, by decide, by decide, trivial⟩ trivial (fun r238 ad_47 s238 G48 hEad_47 hq => ?_)
            obtain ⟨v49, rfl, rfl, hw⟩ := hq
            have hFad_47 : (∀ j, j < 145 → ad_47 j = ad j) := fun j hj => (hEad_47 j (ltBB hj)).trans (hF j hj)
            refine aw_istore C dL_acts_241 (by decide) rfl ?_
            refine aw_aloadn C dL_acts_243 rfl ?_
            refine aw_iload C dL_acts_244 rfl ?_
            refine aw_iload C dL_acts_246 rfl ?_
            refine aw_iload C dL_acts_248 rfl ?_
            refine aw_iload C dL_acts_250 rfl ?_
            refine aw_iconst (v := 2) C dL_acts_252 (by decide) ?_
            refine aw_ic_ne C dL_acts_253 276 (by decide) hw (fun hc253 hw => ?_) (fun hc253 hw => ?_)
            · exact aw_msk [true, false, false, false, false, false, false, false, false, true, false, true, true] (h276 ad_47 _ _ v41 v45 v49 v41 v43 v45 _ hFad_47 (by omega) (by omega) hw)
            · refine aw_iload C dL_acts_256 rfl ?_
              refine aw_iconst (v := 5) C dL_acts_258 (by decide) ?_
              refine aw_ishr C dL_acts_259 ?_
              refine aw_iconst (v := 3) C dL_acts_260 (by decide) ?_
              refine aw_callS C dL_acts_261 (t_L_low  (x6 >>> (5 &&& 31)) 3 _ _ hw) mM_L_93 bL_low rfl rfl ⟨Nat.le_of_ble_eq_true rfl, Nat.le_of_ble_eq_true rfl, by show _ ≤ 1096; omega, by show _ ≤ 6614; omega⟩ _ rfl (Nat.le_of_ble_eq_true rfl) (fun r261 G66 hq => ?_)
              obtain ⟨v65, rfl, hw⟩ := hq
              refine aw_if_ne C dL_acts_264 272 (by decide) hw (fun hc264 hw => ?_) (fun hc264 hw => ?_)
              · exact aw_msk [true, false, false, false, false, false, false, false, false, true, false, true, true] (h272 ad_47 _ _ v41 v45 v49 v41 v43 v45 _ hFad_47 (by omega) (by omega) hw)
              · refine aw_iload C dL_acts_267 rfl ?_
                refine aw_goto (tgt := 277) C dL_acts_269 (by decide) ?_
                exact aw_msk [true, false, false, false, false, false, false, false, false, true, false, true, true] (h277 ad_47 _ _ v41 v45 v49 v41 v43 v45 x8 _ hFad_47 (by omega) (by omega) hw)
        · refine aw_aloadn C dL_acts_183 rfl ?_
          refine aw_aloadn C dL_acts_184 rfl ?_
          refine aw_aloadn C dL_acts_185 rfl ?_
          refine aw_aload C dL_acts_186 rfl ?_
          refine aw_iload C dL_acts_188 rfl ?_
          refine aw_iload C dL_acts_190 rfl ?_
          refine aw_iconst (v := 4) C dL_acts_192 (by decide) ?_
          refine aw_ishr C dL_acts_193 ?_
          refine aw_runQ (mc := 509) (ms := 3074) (rest := []) C (run_S C dL_acts_194 (t_L_gives_B hlf x8 (x5 >>> (4 &&& 31)) _ _ hw) mM_L_220 bL_gives rfl rfl ⟨Nat.le_of_ble_eq_true rfl, Nat.le_of_ble_eq_true rfl, by show _ ≤ 1096; omega, by show _ ≤ 6614; omega⟩ [] rfl (Nat.le_of_ble_eq_true rfl)) ⟨by decide, by decide, by decide, by decide, trivial⟩ trivial (fun r194 ad_67 s194 G68 hEad_67 hq => ?_)
          obtain ⟨rfl, rfl, hw⟩ := hq
          have hFad_67 : (∀ j, j < 145 → ad_67 j = ad j) := fun j hj => (hEad_67 j (ltBB hj)).trans (hF j hj)
          exact aw_lzreturn C hr dL_acts_197 rfl (by omega) (by omega) (fun j hj => hFad_67 j (ltB_ hj)) ⟨rfl, hw⟩
      · refine aw_aloadn C dL_acts_168 rfl ?_
        refine aw_aloadn C dL_acts_169 rfl ?_
        refine aw_iload C dL_acts_170 rfl ?_
        refine aw_runQ (mc := 11) (ms := 66) (rest := []) C (run_S C dL_acts_172 (t_L_budgets_B hlf x8 _ _ hw) mM_L_216 bL_budgets rfl rfl ⟨Nat.le_of_ble_eq_true rfl, Nat.le_of_ble_eq_true rfl, by show _ ≤ 1096; omega, by show _ ≤ 6614; omega⟩ [] rfl (Nat.le_of_ble_eq_true rfl)) ⟨by decide, by decide, by decide, by decide, trivial⟩ trivial (fun r172 ad_69 s172 G70 hEad_69 hq => ?_)
        obtain ⟨rfl, rfl, hw⟩ := hq
        have hFad_69 : (∀ j, j < 145 → ad_69 j = ad j) := fun j hj => (hEad_69 j (ltBB hj)).trans (hF j hj)
        exact aw_lzreturn C hr dL_acts_175 rfl (by omega) (by omega) (fun j hj => hFad_69 j (ltB_ hj)) ⟨rfl, hw⟩
    · refine aw_aloadn C dL_acts_123 rfl ?_
      refine aw_aloadn C dL_acts_124 rfl ?_
      refine aw_aloadn C dL_acts_125 rfl ?_
      refine aw_aload C dL_acts_126 rfl ?_
      refine aw_iload C dL_acts_128 rfl ?_
      refine aw_iload C dL_acts_130 rfl ?_
      refine aw_iconst (v := 4) C dL_acts_132 (by decide) ?_
      refine aw_ishr C dL_acts_133 ?_
      refine aw_iconst (v := 2) C dL_acts_134 (by decide) ?_
      refine aw_callS C dL_acts_135 (t_L_low  (x5 >>> (4 &&& 31)) 2 _ _ hw) mM_L_93 bL_low rfl rfl ⟨Nat.le_of_ble_eq_true rfl, Nat.le_of_ble_eq_true rfl, by show _ ≤ 1096; omega, by show _ ≤ 6614; omega⟩ _ rfl (Nat.le_of_ble_eq_true rfl) (fun r135 G72 hq => ?_)
      obtain ⟨v71, rfl, hw⟩ := hq
      refine aw_if_ne C dL_acts_138 145 (by decide) hw (fun hc138 hw => ?_) (fun hc138 hw => ?_)
      · exact aw_msk [false, false, false, false, false, true, false, false, false, false, false, false, false] (h145 ad1 _ _ x5 x8 _ hF (by omega) (by omega) hw)
      · refine aw_iconst (v := 1) C dL_acts_141 (by decide) ?_
        refine aw_goto (tgt := 146) C dL_acts_142 (by decide) ?_
        exact aw_msk [false, false, false, false, false, true, false, false, false, false, false, false, false] (h146 ad1 _ _ x5 x8 1 _ hF (by omega) (by omega) hw)
  have h99 : ∀ (ad1 : Nat → Nat) (k n : Nat) (x5 : Int32) (x6 : Int32) (x7 : Int32) (x8 : Int32) (y1 : Int32) (y2 : Int32) (y3 : Int32) (G0 : Gt), (∀ j, j < 145 → ad1 j = ad j) → k + 1096 ≤ 1096 → n + 6614 ≤ 6614 → w_L_acts_B_j99 K x5 x6 x7 x8 y1 y2 y3 G0 → aw p l e { frames := 11, cells := 1096, slots := 6614, locals := 250 } s m args below meth c 13 D tA A (MQ below (QL D tA ad A shB (fun r s' G' => r = some (.int 1) ∧ K s' G')) args s 1096 6614 A) k n ad1 99 [some (.ref 0), none, some (.ref 47), some (.ref 48), some (.ref 49), some (.int x5), some (.int x6), some (.int x7), some (.int x8), none, none, none, none] [.int y3, .int y2, .int y1, .ref 47] shB G0 := by
    intro ad1 k n x5 x6 x7 x8 y1 y2 y3 G0 hF hk hn hw
    unfold w_L_acts_B_j99 at hw
    refine aw_iadd C dL_acts_99 ?_
    refine aw_iast C dL_acts_100 (sA_47 shOK_B) hw.1 hw.2 (fun G77 hw => ?_)
    refine aw_aloadn C dL_acts_101 rfl ?_
    refine aw_bipush (v := 6) C dL_acts_102 (by decide) ?_
    refine aw_iald C dL_acts_104 (sA_47 shOK_B) hw.1 ?_
    replace hw := hw.2
    refine aw_bipush (v := 30) C dL_acts_105 (by decide) ?_
    refine aw_ic_le C dL_acts_107 116 (by decide) hw (fun hc107 hw => ?_) (fun hc107 hw => ?_)
    · exact aw_msk [true, false, true, true, true, true, true, true, true, false, false, false, false] (h116 ad1 _ _ x5 x6 x7 x8 _ hF (by omega) (by omega) hw)
    · refine aw_aloadn C dL_acts_110 rfl ?_
      refine aw_aloadn C dL_acts_111 rfl ?_
      refine aw_runQ (mc := 30) (ms := 180) (rest := []) C (run_S C dL_acts_112 (t_L_told_B hlf _ _ hw) mM_L_176 bL_told rfl rfl ⟨Nat.le_of_ble_eq_true rfl, Nat.le_of_ble_eq_true rfl, by show _ ≤ 1096; omega, by show _ ≤ 6614; omega⟩ [] rfl (Nat.le_of_ble_eq_true rfl)) ⟨by decide, by decide, by decide, by decide, trivial⟩ trivial (fun r112 ad_78 s112 G79 hEad_78 hq => ?_)
      obtain ⟨rfl, rfl, hw⟩ := hq
      have hFad_78 : (∀ j, j < 145 → ad_78 j = ad j) := fun j hj => (hEad_78 j (ltBB hj)).trans (hF j hj)
      exact aw_lzreturn C hr dL_acts_115 rfl (by omega) (by omega) (fun j hj => hFad_78 j (ltB_ hj)) ⟨rfl, hw⟩
  have h98 : ∀ (ad1 : Nat → Nat) (k n : Nat) (x5 : Int32) (x6 : Int32) (x7 : Int32) (x8 : Int32) (y1 : Int32) (y2 : Int32) (G0 : Gt), (∀ j, j < 145 → ad1 j = ad j) → k + 1096 ≤ 1096 → n + 6614 ≤ 6614 → w_L_acts_B_j98 K x5 x6 x7 x8 y1 y2 G0 → aw p l e { frames := 11, cells := 1096, slots := 6614, locals := 250 } s m args below meth c 13 D tA A (MQ below (QL D tA ad A shB (fun r s' G' => r = some (.int 1) ∧ K s' G')) args s 1096 6614 A) k n ad1 98 [some (.ref 0), none, some (.ref 47), some (.ref 48), some (.ref 49), some (.int x5), some (.int x6), some (.int x7), some (.int x8), none, none, none, none] [.int y2, .int y1, .ref 47] shB G0 := by
    intro ad1 k n x5 x6 x7 x8 y1 y2 G0 hF hk hn hw
    unfold w_L_acts_B_j98 at hw
    refine aw_iconst (v := 1) C dL_acts_98 (by decide) ?_
    exact aw_msk [true, false, true, true, true, true, true, true, true, false, false, false, false] (h99 ad1 _ _ x5 x6 x7 x8 y1 y2 1 _ hF (by omega) (by omega) hw)
  have h68 : ∀ (ad1 : Nat → Nat) (k n : Nat) (x5 : Int32) (x6 : Int32) (x7 : Int32) (y0 : Int32) (y1 : Int32) (y2 : Int32) (G0 : Gt), (∀ j, j < 145 → ad1 j = ad j) → k + 1096 ≤ 1096 → n + 6614 ≤ 6614 → w_L_acts_B_j68 K x5 x6 x7 y0 y1 y2 G0 → aw p l e { frames := 11, cells := 1096, slots := 6614, locals := 250 } s m args below meth c 13 D tA A (MQ below (QL D tA ad A shB (fun r s' G' => r = some (.int 1) ∧ K s' G')) args s 1096 6614 A) k n ad1 68 [some (.ref 0), none, some (.ref 47), some (.ref 48), some (.ref 49), some (.int x5), some (.int x6), some (.int x7), none, none, none, none, none] [.int y2, .int y1, .int y0] shB G0 := by
    intro ad1 k n x5 x6 x7 y0 y1 y2 G0 hF hk hn hw
    unfold w_L_acts_B_j68 at hw
    refine aw_callS C dL_acts_68 (t_L_low  y1 y2 _ _ hw) mM_L_93 bL_low rfl rfl ⟨Nat.le_of_ble_eq_true rfl, Nat.le_of_ble_eq_true rfl, by show _ ≤ 1096; omega, by show _ ≤ 6614; omega⟩ _ rfl (Nat.le_of_ble_eq_true rfl) (fun r68 G6 hq => ?_)
    obtain ⟨v5, rfl, hw⟩ := hq
    refine aw_isub C dL_acts_71 ?_
    refine aw_istore C dL_acts_72 (by decide) rfl ?_
    refine aw_iload C dL_acts_74 rfl ?_
    refine aw_bipush (v := 14) C dL_acts_76 (by decide) ?_
    refine aw_ic_ge C dL_acts_78 116 (by decide) hw (fun hc78 hw => ?_) (fun hc78 hw => ?_)
    · exact aw_msk [true, false, true, true, true, true, true, true, true, false, false, false, false] (h116 ad1 _ _ x5 x6 x7 (y0 - v5) _ hF (by omega) (by omega) hw)
    · refine aw_aloadn C dL_acts_81 rfl ?_
      refine aw_bipush (v := 6) C dL_acts_82 (by decide) ?_
      refine aw_dup2 C dL_acts_84 rfl rfl ?_
      refine aw_iald C dL_acts_85 (sA_47 shOK_B) hw.1 ?_
      replace hw := hw.2
      refine aw_iload C dL_acts_86 rfl ?_
      refine aw_bipush (v := 12) C dL_acts_88 (by decide) ?_
      refine aw_ic_ne C dL_acts_90 98 (by decide) hw (fun hc90 hw => ?_) (fun hc90 hw => ?_)
      · exact aw_msk [true, false, true, true, true, true, true, true, true, false, false, false, false] (h98 ad1 _ _ x5 x6 x7 (y0 - v5) 6 (G6 47 (6 : Int32).toNatClampNeg) _ hF (by omega) (by omega) hw)
      · refine aw_bipush (v := 6) C dL_acts_93 (by decide) ?_
        refine aw_goto (tgt := 99) C dL_acts_95 (by decide) ?_
        exact aw_msk [true, false, true, true, true, true, true, true, true, false, false, false, false] (h99 ad1 _ _ x5 x6 x7 (y0 - v5) 6 (G6 47 (6 : Int32).toNatClampNeg) 6 _ hF (by omega) (by omega) hw)
  have h66 : ∀ (ad1 : Nat → Nat) (k n : Nat) (x5 : Int32) (x6 : Int32) (x7 : Int32) (y0 : Int32) (y1 : Int32) (G0 : Gt), (∀ j, j < 145 → ad1 j = ad j) → k + 1096 ≤ 1096 → n + 6614 ≤ 6614 → w_L_acts_B_j66 K x5 x6 x7 y0 y1 G0 → aw p l e { frames := 11, cells := 1096, slots := 6614, locals := 250 } s m args below meth c 13 D tA A (MQ below (QL D tA ad A shB (fun r s' G' => r = some (.int 1) ∧ K s' G')) args s 1096 6614 A) k n ad1 66 [some (.ref 0), none, some (.ref 47), some (.ref 48), some (.ref 49), some (.int x5), some (.int x6), some (.int x7), none, none, none, none, none] [.int y1, .int y0] shB G0 := by
    intro ad1 k n x5 x6 x7 y0 y1 G0 hF hk hn hw
    unfold w_L_acts_B_j66 at hw
    refine aw_bipush (v := 12) C dL_acts_66 (by decide) ?_
    exact aw_msk [true, false, true, true, true, true, true, true, false, false, false, false, false] (h68 ad1 _ _ x5 x6 x7 y0 y1 12 _ hF (by omega) (by omega) hw)
  have h45 : ∀ (ad1 : Nat → Nat) (k n : Nat) (x5 : Int32) (x6 : Int32) (x7 : Int32) (G0 : Gt), (∀ j, j < 145 → ad1 j = ad j) → k + 1096 ≤ 1096 → n + 6614 ≤ 6614 → w_L_acts_B_j45 K x5 x6 x7 G0 → aw p l e { frames := 11, cells := 1096, slots := 6614, locals := 250 } s m args below meth c 13 D tA A (MQ below (QL D tA ad A shB (fun r s' G' => r = some (.int 1) ∧ K s' G')) args s 1096 6614 A) k n ad1 45 [some (.ref 0), none, some (.ref 47), some (.ref 48), some (.ref 49), some (.int x5), some (.int x6), some (.int x7), none, none, none, none, none] [] shB G0 := by
    intro ad1 k n x5 x6 x7 G0 hF hk hn hw
    unfold w_L_acts_B_j45 at hw
    refine aw_aloadn C dL_acts_45 rfl ?_
    refine aw_iconst (v := 0) C dL_acts_46 (by decide) ?_
    refine aw_iald C dL_acts_47 (sA_47 shOK_B) hw.1 ?_
    replace hw := hw.2
    refine aw_iconst (v := 1) C dL_acts_48 (by decide) ?_
    refine aw_isub C dL_acts_49 ?_
    refine aw_iload C dL_acts_50 rfl ?_
    refine aw_aloadn C dL_acts_52 rfl ?_
    refine aw_iconst (v := 0) C dL_acts_53 (by decide) ?_
    refine aw_iald C dL_acts_54 (sA_47 shOK_B) hw.1 ?_
    replace hw := hw.2
    refine aw_bipush (v := 12) C dL_acts_55 (by decide) ?_
    refine aw_ic_ge C dL_acts_57 66 (by decide) hw (fun hc57 hw => ?_) (fun hc57 hw => ?_)
    · exact aw_msk [true, false, true, true, true, true, true, true, false, false, false, false, false] (h66 ad1 _ _ x5 x6 x7 ((G0 47 (0 : Int32).toNatClampNeg) - 1) x6 _ hF (by omega) (by omega) hw)
    · refine aw_aloadn C dL_acts_60 rfl ?_
      refine aw_iconst (v := 0) C dL_acts_61 (by decide) ?_
      refine aw_iald C dL_acts_62 (sA_47 shOK_B) hw.1 ?_
      replace hw := hw.2
      refine aw_goto (tgt := 68) C dL_acts_63 (by decide) ?_
      exact aw_msk [true, false, true, true, true, true, true, true, false, false, false, false, false] (h68 ad1 _ _ x5 x6 x7 ((G0 47 (0 : Int32).toNatClampNeg) - 1) x6 (G0 47 (0 : Int32).toNatClampNeg) _ hF (by omega) (by omega) hw)
  unfold w_L_acts_B at hw
  show aw p l e { frames := 11, cells := 1096, slots := 6614, locals := 250 } s m args below meth c 13 D tA A (MQ below (QL D tA ad A shB (fun r s' G' => r = some (.int 1) ∧ K s' G')) args s 1096 6614 A) 0 0 ad 0 [some (.ref 0), some (.ref 46), some (.ref 47), some (.ref 48), some (.ref 49), some (.int p5), some (.int p6), none, none, none, none, none, none] [] shB G0
  refine aw_iload C dL_acts_0 rfl ?_
  refine aw_bipush (v := 16) C dL_acts_2 (by decide) ?_
  refine aw_callS C dL_acts_4 (t_L_low  p5 16 _ _ hw) mM_L_93 bL_low rfl rfl ⟨Nat.le_of_ble_eq_true rfl, Nat.le_of_ble_eq_true rfl, by show _ ≤ 1096; omega, by show _ ≤ 6614; omega⟩ _ rfl (Nat.le_of_ble_eq_true rfl) (fun r4 G2 hq => ?_)
  obtain ⟨v1, rfl, hw⟩ := hq
  refine aw_istore C dL_acts_7 (by decide) rfl ?_
  refine aw_aloadn C dL_acts_9 rfl ?_
  refine aw_iconst (v := 0) C dL_acts_10 (by decide) ?_
  refine aw_iald C dL_acts_11 (sA_47 shOK_B) hw.1 ?_
  replace hw := hw.2
  refine aw_bipush (v := 6) C dL_acts_12 (by decide) ?_
  refine aw_ic_lt C dL_acts_14 32 (by decide) hw (fun hc14 hw => ?_) (fun hc14 hw => ?_)
  · exact aw_msk [true, true, true, false, false, true, true, false, false, false, false, false, false] (h32 ad _ _ p5 p6 _ hF0 (by omega) (by omega) hw)
  · refine aw_iload C dL_acts_17 rfl ?_
    refine aw_bipush (v := 9) C dL_acts_19 (by decide) ?_
    refine aw_ic_ge C dL_acts_21 45 (by decide) hw (fun hc21 hw => ?_) (fun hc21 hw => ?_)
    · exact aw_msk [true, false, true, true, true, true, true, true, false, false, false, false, false] (h45 ad _ _ p5 p6 v1 _ hF0 (by omega) (by omega) hw)
    · refine aw_aloadn C dL_acts_24 rfl ?_
      refine aw_iconst (v := 0) C dL_acts_25 (by decide) ?_
      refine aw_iald C dL_acts_26 (sA_47 shOK_B) hw.1 ?_
      replace hw := hw.2
      refine aw_bipush (v := 58) C dL_acts_27 (by decide) ?_
      refine aw_ic_ge C dL_acts_29 45 (by decide) hw (fun hc29 hw => ?_) (fun hc29 hw => ?_)
      · exact aw_msk [true, false, true, true, true, true, true, true, false, false, false, false, false] (h45 ad _ _ p5 p6 v1 _ hF0 (by omega) (by omega) hw)
      · exact aw_msk [true, true, true, false, false, true, true, false, false, false, false, false, false] (h32 ad _ _ p5 p6 _ hF0 (by omega) (by omega) hw)
