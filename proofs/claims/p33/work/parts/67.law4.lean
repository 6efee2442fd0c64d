def w_L_runs_A_j427 (K : Sh → Gt → Prop) (x9 : Int32) (x10 : Int32) (G0 : Gt) : Prop :=
  vp_in 2 7 ∧
  pt (gu G0 47 (2 : Int32).toNatClampNeg x9) fun G58 =>
  vp_in 3 7 ∧
  pt (gu G58 47 (3 : Int32).toNatClampNeg x10) fun G59 =>
  w_X10_cause_B (fun v62 G61x => pt (frm 50 G59 G61x) fun G61 =>
    vp_in 4 7 ∧
    pt (gu G61 47 (4 : Int32).toNatClampNeg v62) fun G63 =>
    w_X10_traced_B (fun v66 G65x => pt (frm 50 G63 G65x) fun G65 =>
      vp_in 5 7 ∧
      pt (gu G65 47 (5 : Int32).toNatClampNeg v66) fun G67 =>
      w_L_told_B (fun s1 G69x => s1 = shB ∧ pt (frm 50 G67 G69x) fun G69 =>
        pif (x9 < 40000) (
          K shB G69) (
          w_L_same_B (fun s1 G71x => s1 = shB ∧ pt (frm 50 G69 G71x) fun G71 =>
            K shB G71) G69)) G67) G63) G59
def w_L_runs_A_h304 (K : Sh → Gt → Prop) : Nat → Int32 → Int32 → Int32 → Int32 → Gt → Prop
  | 0, _, _, _, _, _ => False
  | n + 1, x6, x9, x10, x11, G0 =>
    w_X10_next_B (fun v48 G47x => pt (frm 50 G0 G47x) fun G47 =>
      pif (v48 < 0) (
        pif (x11 = x10) (
          w_L_step_B (fun v51 s1 G50x => s1 = shB ∧ pt (frm 50 G47 G50x) fun G50 =>
            pif (v51 = (-1000003)) (
              w_L_giveUp_B (fun v54 s1 G53x => s1 = shB ∧ pt (frm 50 G50 G53x) fun G53 =>
                pif (v54 = (-1000003)) (
                  w_L_look_B (fun v57 s1 G56x => s1 = shB ∧ pt (frm 50 G53 G56x) fun G56 =>
                    pif (v57 = (-1000003)) (
                      w_L_runs_A_j427 K x9 x10 G56) (
                      False)) 0 G53) (
                  False)) G50) (
              False)) 1 G47) (
          False)) (
        w_L_step_B (fun v74 s1 G73x => s1 = shB ∧ pt (frm 50 G47 G73x) fun G73 =>
          pif (v74 < 0) (
            False) (
            pif (x6 < v74) (
              False) (
              w_X10_active_B (fun v77 G76x => pt (frm 50 G73 G76x) fun G76 =>
                pif (v77 < 0) (
                  False) (
                  w_X10_active_B (fun v80 G79x => pt (frm 50 G76 G79x) fun G79 =>
                    pif (13 ≤ v80) (
                      False) (
                      w_X10_next_B (fun v83 G82x => pt (frm 50 G79 G82x) fun G82 =>
                        vp_in 0 7 ∧
                        pif ((G82 47 (0 : Int32).toNatClampNeg) ≤ v83) (
                          False) (
                          w_L_runs_A_h304 K n x6 x9 x10 (x11 + v74) G82)) G79)) G76)) G73))) x6 G47)) G0
def w_L_runs_A_h74 (K : Sh → Gt → Prop) : Nat → Int32 → Int32 → Int32 → Int32 → Int32 → Int32 → Gt → Prop
  | 0, _, _, _, _, _, _, _ => False
  | n + 1, x4, x5, x6, x9, x10, x11, G0 =>
    pif (4 ≤ x11) (
      w_L_isOutcome (fun v13 G14 =>
        pif (v13 = 0) (
          False) (
          pif (x10 ≤ 0) (
            False) (
            vp_in 1 7 ∧
            pif ((G14 47 (1 : Int32).toNatClampNeg) < x10) (
              False) (
              w_L_told_B (fun s1 G16x => s1 = shB ∧ pt (frm 50 G14 G16x) fun G16 =>
                w_L_same_B (fun s1 G18x => s1 = shB ∧ pt (frm 50 G16 G18x) fun G18 =>
                  pif (x5 = 0) (
                    w_L_run_B (fun v86 s1 G85x => s1 = shB ∧ pt (frm 50 G18 G85x) fun G85 =>
                      pif (v86 = x9) (
                        w_L_runs_A_j427 K x9 x10 G85) (
                        False)) x4 G18) (
                    w_L_start_B (fun v21 s1 G20x => s1 = shB ∧ pt (frm 50 G18 G20x) fun G20 =>
                      pif (v21 = 0) (
                        w_X10_next_B (fun v24 G23x => pt (frm 50 G20 G23x) fun G23 =>
                          pif (v24 = x4) (
                            w_L_look_B (fun v27 s1 G26x => s1 = shB ∧ pt (frm 50 G23 G26x) fun G26 =>
                              pif (v27 = 49999) (
                                w_L_start_B (fun v30 s1 G29x => s1 = shB ∧ pt (frm 50 G26 G29x) fun G29 =>
                                  pif (v30 = (-1000003)) (
                                    w_L_run_B (fun v33 s1 G32x => s1 = shB ∧ pt (frm 50 G29 G32x) fun G32 =>
                                      pif (v33 = (-1000003)) (
                                        w_L_tried_B (fun v36 s1 G35x => s1 = shB ∧ pt (frm 50 G32 G35x) fun G35 =>
                                          pif (v36 = (-1000003)) (
                                            w_L_setOption_B (fun v39 s1 G38x => s1 = shB ∧ pt (frm 50 G35 G38x) fun G38 =>
                                              pif (v39 = (-1000003)) (
                                                w_L_write_B (fun v42 s1 G41x => s1 = shB ∧ pt (frm 50 G38 G41x) fun G41 =>
                                                  pif (v42 = (-1000003)) (
                                                    w_L_define_B (fun v45 s1 G44x => s1 = shB ∧ pt (frm 50 G41 G44x) fun G44 =>
                                                      pif (v45 = (-1000003)) (
                                                        ∃ i, i ≤ 302 ∧ w_L_runs_A_h304 K i x6 x9 x10 0 G44) (
                                                        False)) 0 0 0 (-1) G41) (
                                                    False)) 0 0 G38) (
                                                False)) 0 0 G35) (
                                            False)) x4 G32) (
                                        False)) x4 G29) (
                                    False)) x4 G26) (
                                False)) 0 G23) (
                            False)) G20) (
                        False)) x4 G18)) G16) G14)))) x9 G0) (
      w_L_register_B (fun v89 s1 G88x => s1 = shB ∧ pt (frm 50 G0 G88x) fun G88 =>
        vp_in x11 4 ∧
        pif (v89 = (G88 50 (x11 : Int32).toNatClampNeg)) (
          w_L_runs_A_h74 K n x4 x5 x6 x9 x10 (x11 + 1) G88) (
          False)) x11 G0)
def w_L_runs_A_h32 (K : Sh → Gt → Prop) : Nat → Int32 → Int32 → Int32 → Int32 → Gt → Prop
  | 0, _, _, _, _, _ => False
  | n + 1, x4, x5, x6, x9, G0 =>
    pif (4 ≤ x9) (
      w_L_tried_A (fun v9 s1 G8x => s1 = shB ∧ pt (frm 50 G0 G8x) fun G8 =>
        w_L_triedSteps_B (fun v12 s1 G11x => s1 = shB ∧ pt (frm 50 G8 G11x) fun G11 =>
          ∃ i, i ≤ 5 ∧ w_L_runs_A_h74 K i x4 x5 x6 v9 v12 0 G11) x4 G8) x4 G0) (
      w_L_register_A (fun v92 s1 G91x => s1 = shA ∧ pt (frm 50 G0 G91x) fun G91 =>
        vp_in x9 4 ∧
        pt (gu G91 50 (x9 : Int32).toNatClampNeg v92) fun G93 =>
        w_L_runs_A_h32 K n x4 x5 x6 (x9 + 1) G93) x9 G0)
def w_L_runs_A (K : Sh → Gt → Prop) (p4 : Int32) (p5 : Int32) (p6 : Int32) (G0 : Gt) : Prop :=
  pt (gz G0 50 0) fun G1 =>
  w_L_notes_A (fun s1 G4x => s1 = shA ∧ pt (frm 50 G1 G4x) fun G4 =>
    w_L_letters_A (fun s1 G6x => s1 = shA ∧ pt (frm 50 G4 G6x) fun G6 =>
      ∃ i, i ≤ 5 ∧ w_L_runs_A_h32 K i p4 p5 p6 0 G6) 1 G4) G1
set_option maxHeartbeats 4000000 in
set_option maxRecDepth 100000 in
theorem t_L_runs_A {l : Launch} (hlf : l.stackTraces = false) (p4 : Int32) (p5 : Int32) (p6 : Int32) (G0 : Gt) (K : Sh → Gt → Prop) (hw : w_L_runs_A K p4 p5 p6 G0) : CV l yL_runs cL_runs 13 (some .boolean) 10 245 1156 27313 [.ref 0, .ref 47, .ref 48, .ref 49, .int p4, .int p5, .int p6] shA G0 (fun r s' G' => r = some (.int 1) ∧ K s' G') := by
  refine CV_of (by decide) (Nat.le_of_ble_eq_true rfl) rfl ?_
  intro p e s m args below meth c D tA ad A C hr
  have hF0 : ∀ j, j < 84 → ad j = ad j := fun _ _ => rfl
  have h427 : ∀ (ad1 : Nat → Nat) (k n : Nat) (x9 : Int32) (x10 : Int32) (G0 : Gt), (∀ j, j < 84 → ¬ j = 50 → ad1 j = ad j) → k + 267 ≤ 1156 → n + 1622 ≤ 27313 → w_L_runs_A_j427 K x9 x10 G0 → aw p l e { frames := 10, cells := 1156, slots := 27313, locals := 245 } s m args below meth c 13 D tA A (MQ below (QL D tA ad A shA (fun r s' G' => r = some (.int 1) ∧ K s' G')) args s 1156 27313 A) k n ad1 427 [some (.ref 0), some (.ref 47), some (.ref 48), some (.ref 49), none, none, none, none, some (.int 1), some (.int x9), some (.int x10), none, none] [] (shB.set 50 (.inl (0, 4))) G0 := by
    intro ad1 k n x9 x10 G0 hF hk hn hw
    unfold w_L_runs_A_j427 at hw
    refine aw_aloadn C dL_runs_427 rfl ?_
    refine aw_iconst (v := 2) C dL_runs_428 (by decide) ?_
    refine aw_iload C dL_runs_429 rfl ?_
    refine aw_iast C dL_runs_431 (set_ne2 (sA_47 shOK_B) (by decide)) hw.1 hw.2 (fun G58 hw => ?_)
    refine aw_aloadn C dL_runs_432 rfl ?_
    refine aw_iconst (v := 3) C dL_runs_433 (by decide) ?_
    refine aw_iload C dL_runs_434 rfl ?_
    refine aw_iast C dL_runs_436 (set_ne2 (sA_47 shOK_B) (by decide)) hw.1 hw.2 (fun G59 hw => ?_)
    refine aw_aloadn C dL_runs_437 rfl ?_
    refine aw_iconst (v := 4) C dL_runs_438 (by decide) ?_
    refine aw_aloadn C dL_runs_439 rfl ?_
    refine aw_runF (mc := 0) (ms := 0) (t9 := 50) (m9 := 4) (rest := [.int 4, .ref 47]) C (sA_50 shOK_B) (run_V C dL_runs_440 ((t_X10_cause_B _ _ hw).toCV) mM_L_152 bX10_cause shB_0 rfl rfl ⟨Nat.le_of_ble_eq_true rfl, Nat.le_of_ble_eq_true rfl, by show _ ≤ 1156; omega, by show _ ≤ 27313; omega⟩ [.int 4, .ref 47] rfl (Nat.le_of_ble_eq_true rfl)) ⟨by decide, by decide, by decide, by decide, trivial⟩ ⟨by decide, trivial⟩ (fun r440 ad_60 s440 G61x hEad_60 hq => ?_)
    obtain ⟨rfl, v62, rfl, hw⟩ := hq
    refine ⟨(sA_50 shOK_B), ?_⟩
    obtain ⟨G61, eG61, hw⟩ := hw
    rw [← eG61]
    have hFad_60 : (∀ j, j < 84 → ¬ j = 50 → ad_60 j = ad j) := fun j hj hn => (hEad_60 j (ltAB hj)).trans (hF j hj hn)
    refine aw_iast C dL_runs_443 (set_ne2 (sA_47 shOK_B) (by decide)) hw.1 hw.2 (fun G63 hw => ?_)
    refine aw_aloadn C dL_runs_444 rfl ?_
    refine aw_iconst (v := 5) C dL_runs_445 (by decide) ?_
    refine aw_aloadn C dL_runs_446 rfl ?_
    refine aw_runF (mc := 0) (ms := 0) (t9 := 50) (m9 := 4) (rest := [.int 5, .ref 47]) C (sA_50 shOK_B) (run_V C dL_runs_447 ((t_X10_traced_B _ _ hw).toCV) mM_L_155 bX10_traced shB_0 rfl rfl ⟨Nat.le_of_ble_eq_true rfl, Nat.le_of_ble_eq_true rfl, by show _ ≤ 1156; omega, by show _ ≤ 27313; omega⟩ [.int 5, .ref 47] rfl (Nat.le_of_ble_eq_true rfl)) ⟨by decide, by decide, by decide, by decide, trivial⟩ ⟨by decide, trivial⟩ (fun r447 ad_64 s447 G65x hEad_64 hq => ?_)
    obtain ⟨rfl, v66, rfl, hw⟩ := hq
    refine ⟨(sA_50 shOK_B), ?_⟩
    obtain ⟨G65, eG65, hw⟩ := hw
    rw [← eG65]
    have hFad_64 : (∀ j, j < 84 → ¬ j = 50 → ad_64 j = ad j) := fun j hj hn => (hEad_64 j (ltAB hj)).trans (hFad_60 j hj hn)
    refine aw_iast C dL_runs_450 (set_ne2 (sA_47 shOK_B) (by decide)) hw.1 hw.2 (fun G67 hw => ?_)
    refine aw_iload C dL_runs_451 rfl ?_
    refine aw_if_eq (X := True) (Y := True) C dL_runs_453 484 (by decide) ⟨fun _ => trivial, fun _ => trivial⟩ (fun hx _ => ?_) (fun hx _ => ?_)
    · exact (show False by revert hx; decide).elim
    · refine aw_aloadn C dL_runs_456 rfl ?_
      refine aw_aloadn C dL_runs_457 rfl ?_
      refine aw_runF (mc := 30) (ms := 180) (t9 := 50) (m9 := 4) (rest := []) C (sA_50 shOK_B) (run_S C dL_runs_458 (t_L_told_B hlf _ _ hw) mM_L_176 bL_told rfl rfl ⟨Nat.le_of_ble_eq_true rfl, Nat.le_of_ble_eq_true rfl, by show _ ≤ 1156; omega, by show _ ≤ 27313; omega⟩ [] rfl (Nat.le_of_ble_eq_true rfl)) ⟨by decide, by decide, by decide, by decide, trivial⟩ trivial (fun r458 ad_68 s458 G69x hEad_68 hq => ?_)
      obtain ⟨rfl, rfl, hw⟩ := hq
      refine ⟨(sA_50 shOK_B), ?_⟩
      obtain ⟨G69, eG69, hw⟩ := hw
      rw [← eG69]
      have hFad_68 : (∀ j, j < 84 → ¬ j = 50 → ad_68 j = ad j) := fun j hj hn => (hEad_68 j (ltAB hj)).trans (hFad_64 j hj hn)
      refine aw_if_eq (X := True) (Y := True) C dL_runs_461 484 (by decide) ⟨fun _ => trivial, fun _ => trivial⟩ (fun hx _ => ?_) (fun hx _ => ?_)
      · exact (show False by revert hx; decide).elim
      · refine aw_iload C dL_runs_464 rfl ?_
        refine aw_ldc (v := 40000) C dL_runs_466 mK_L_201 ?_
        refine aw_ic_lt C dL_runs_468 480 (by decide) hw (fun hc468 hw => ?_) (fun hc468 hw => ?_)
        · refine aw_iconst (v := 1) C dL_runs_480 (by decide) ?_
          refine aw_goto (tgt := 485) C dL_runs_481 (by decide) ?_
          refine aw_msk [] ?_
          refine aw_drop (t9 := 50) (m9 := 4) (ad := adr 50 ad ad_68) (sA_50 shOK_B) (by decide +kernel) adr_ne (by simp [msk]) (by simp) ?_
          exact aw_lzreturn C hr dL_runs_485 rfl (by omega) (by omega) (adr_eq (fun j hj hn => hFad_68 j (ltA_ hj) hn)) ⟨rfl, hw⟩
        · refine aw_aloadn C dL_runs_471 rfl ?_
          refine aw_aloadn C dL_runs_472 rfl ?_
          refine aw_aloadn C dL_runs_473 rfl ?_
          refine aw_runF (mc := 237) (ms := 1442) (t9 := 50) (m9 := 4) (rest := []) C (sA_50 shOK_B) (run_S C dL_runs_474 (t_L_same_B hlf _ _ hw) mM_L_179 bL_same rfl rfl ⟨Nat.le_of_ble_eq_true rfl, Nat.le_of_ble_eq_true rfl, by show _ ≤ 1156; omega, by show _ ≤ 27313; omega⟩ [] rfl (Nat.le_of_ble_eq_true rfl)) ⟨by decide, by decide, by decide, by decide, trivial⟩ trivial (fun r474 ad_70 s474 G71x hEad_70 hq => ?_)
          obtain ⟨rfl, rfl, hw⟩ := hq
          refine ⟨(sA_50 shOK_B), ?_⟩
          obtain ⟨G71, eG71, hw⟩ := hw
          rw [← eG71]
          have hFad_70 : (∀ j, j < 84 → ¬ j = 50 → ad_70 j = ad j) := fun j hj hn => (hEad_70 j (ltAB hj)).trans (hFad_68 j hj hn)
          refine aw_if_eq (X := True) (Y := True) C dL_runs_477 484 (by decide) ⟨fun _ => trivial, fun _ => trivial⟩ (fun hx _ => ?_) (fun hx _ => ?_)
          · exact (show False by revert hx; decide).elim
          · refine aw_iconst (v := 1) C dL_runs_480 (by decide) ?_
            refine aw_goto (tgt := 485) C dL_runs_481 (by decide) ?_
            refine aw_msk [] ?_
            refine aw_drop (t9 := 50) (m9 := 4) (ad := adr 50 ad ad_70) (sA_50 shOK_B) (by decide +kernel) adr_ne (by simp [msk]) (by simp) ?_
            exact aw_lzreturn C hr dL_runs_485 rfl (by omega) (by omega) (adr_eq (fun j hj hn => hFad_70 j (ltA_ hj) hn)) ⟨rfl, hw⟩
  have h304 : ∀ (f304 : Nat) (ad1 : Nat → Nat) (k n : Nat) (x6 : Int32) (x9 : Int32) (x10 : Int32) (x11 : Int32) (G0 : Gt), (∀ j, j < 84 → ¬ j = 50 → ad1 j = ad j) → k + 1 * f304 + 270 ≤ 1156 → n + 6 * f304 + 1640 ≤ 27313 → w_L_runs_A_h304 K f304 x6 x9 x10 x11 G0 → aw p l e { frames := 10, cells := 1156, slots := 27313, locals := 245 } s m args below meth c 13 D tA A (MQ below (QL D tA ad A shA (fun r s' G' => r = some (.int 1) ∧ K s' G')) args s 1156 27313 A) k n ad1 304 [some (.ref 0), some (.ref 47), some (.ref 48), some (.ref 49), none, none, some (.int x6), none, some (.int 1), some (.int x9), some (.int x10), some (.int x11), none] [] (shB.set 50 (.inl (0, 4))) G0 := by
    intro f304
    induction f304 with
    | zero => intro ad1 k n x6 x9 x10 x11 G0 hF hk hn hw; exact hw.elim
    | succ f304 ih304 =>
      intro ad1 k n x6 x9 x10 x11 G0 hF hk hn hw
      rw [w_L_runs_A_h304] at hw
      refine aw_iload C dL_runs_304 rfl ?_
      refine aw_if_eq (X := True) (Y := True) C dL_runs_306 379 (by decide) ⟨fun _ => trivial, fun _ => trivial⟩ (fun hx _ => ?_) (fun hx _ => ?_)
      · exact (show False by revert hx; decide).elim
      · refine aw_aloadn C dL_runs_309 rfl ?_
        refine aw_runF (mc := 0) (ms := 0) (t9 := 50) (m9 := 4) (rest := []) C (sA_50 shOK_B) (run_V C dL_runs_310 ((t_X10_next_B _ _ hw).toCV) mM_L_159 bX10_next shB_0 rfl rfl ⟨Nat.le_of_ble_eq_true rfl, Nat.le_of_ble_eq_true rfl, by show _ ≤ 1156; omega, by show _ ≤ 27313; omega⟩ [] rfl (Nat.le_of_ble_eq_true rfl)) ⟨by decide, by decide, by decide, by decide, trivial⟩ trivial (fun r310 ad_46 s310 G47x hEad_46 hq => ?_)
        obtain ⟨rfl, v48, rfl, hw⟩ := hq
        refine ⟨(sA_50 shOK_B), ?_⟩
        obtain ⟨G47, eG47, hw⟩ := hw
        rw [← eG47]
        have hFad_46 : (∀ j, j < 84 → ¬ j = 50 → ad_46 j = ad j) := fun j hj hn => (hEad_46 j (ltAB hj)).trans (hF j hj hn)
        refine aw_if_lt C dL_runs_313 379 (by decide) hw (fun hc313 hw => ?_) (fun hc313 hw => ?_)
        · refine aw_iload C dL_runs_379 rfl ?_
          refine aw_if_eq (X := True) (Y := True) C dL_runs_381 424 (by decide) ⟨fun _ => trivial, fun _ => trivial⟩ (fun hx _ => ?_) (fun hx _ => ?_)
          · exact (show False by revert hx; decide).elim
          · refine aw_iload C dL_runs_384 rfl ?_
            refine aw_iload C dL_runs_386 rfl ?_
            refine aw_ic_ne C dL_runs_388 424 (by decide) hw (fun hc388 hw => ?_) (fun hc388 hw => ?_)
            · exact hw.elim
            · refine aw_aloadn C dL_runs_391 rfl ?_
              refine aw_iconst (v := 1) C dL_runs_392 (by decide) ?_
              refine aw_runF (mc := 1) (ms := 6) (t9 := 50) (m9 := 4) (rest := []) C (sA_50 shOK_B) (run_W (na := 2) C dL_runs_393 (t_L_step_B hlf 1 _ _ hw) mM_L_196 mW_step mT_step mI_L (by decide +kernel) rfl ⟨Nat.le_of_ble_eq_true rfl, Nat.le_of_ble_eq_true rfl, by show _ ≤ 1156; omega, by show _ ≤ 27313; omega⟩ [] rfl (Nat.le_of_ble_eq_true rfl)) ⟨by decide, by decide, by decide, by decide, trivial⟩ trivial (fun r393 ad_49 s393 G50x hEad_49 hq => ?_)
              obtain ⟨v51, rfl, rfl, hw⟩ := hq
              refine ⟨(sA_50 shOK_B), ?_⟩
              obtain ⟨G50, eG50, hw⟩ := hw
              rw [← eG50]
              have hFad_49 : (∀ j, j < 84 → ¬ j = 50 → ad_49 j = ad j) := fun j hj hn => (hEad_49 j (ltAB hj)).trans (hFad_46 j hj hn)
              refine aw_ldc (v := (-1000003)) C dL_runs_396 mK_L_24 ?_
              refine aw_ic_ne C dL_runs_398 424 (by decide) hw (fun hc398 hw => ?_) (fun hc398 hw => ?_)
              · exact hw.elim
              · refine aw_aloadn C dL_runs_401 rfl ?_
                refine aw_runF (mc := 1) (ms := 6) (t9 := 50) (m9 := 4) (rest := []) C (sA_50 shOK_B) (run_W (na := 1) C dL_runs_402 (t_L_giveUp_B hlf _ _ hw) mM_L_198 mW_giveUp mT_giveUp mI_L (by decide +kernel) rfl ⟨Nat.le_of_ble_eq_true rfl, Nat.le_of_ble_eq_true rfl, by show _ ≤ 1156; omega, by show _ ≤ 27313; omega⟩ [] rfl (Nat.le_of_ble_eq_true rfl)) ⟨by decide, by decide, by decide, by decide, trivial⟩ trivial (fun r402 ad_52 s402 G53x hEad_52 hq => ?_)
                obtain ⟨v54, rfl, rfl, hw⟩ := hq
                refine ⟨(sA_50 shOK_B), ?_⟩
                obtain ⟨G53, eG53, hw⟩ := hw
                rw [← eG53]
                have hFad_52 : (∀ j, j < 84 → ¬ j = 50 → ad_52 j = ad j) := fun j hj hn => (hEad_52 j (ltAB hj)).trans (hFad_49 j hj hn)
                refine aw_ldc (v := (-1000003)) C dL_runs_405 mK_L_24 ?_
                refine aw_ic_ne C dL_runs_407 424 (by decide) hw (fun hc407 hw => ?_) (fun hc407 hw => ?_)
                · exact hw.elim
                · refine aw_aloadn C dL_runs_410 rfl ?_
                  refine aw_iconst (v := 0) C dL_runs_411 (by decide) ?_
                  refine aw_runF (mc := 1) (ms := 6) (t9 := 50) (m9 := 4) (rest := []) C (sA_50 shOK_B) (run_W (na := 2) C dL_runs_412 (t_L_look_B hlf 0 _ _ hw) mM_L_187 mW_look mT_look mI_L (by decide +kernel) rfl ⟨Nat.le_of_ble_eq_true rfl, Nat.le_of_ble_eq_true rfl, by show _ ≤ 1156; omega, by show _ ≤ 27313; omega⟩ [] rfl (Nat.le_of_ble_eq_true rfl)) ⟨by decide, by decide, by decide, by decide, trivial⟩ trivial (fun r412 ad_55 s412 G56x hEad_55 hq => ?_)
                  obtain ⟨v57, rfl, rfl, hw⟩ := hq
                  refine ⟨(sA_50 shOK_B), ?_⟩
                  obtain ⟨G56, eG56, hw⟩ := hw
                  rw [← eG56]
                  have hFad_55 : (∀ j, j < 84 → ¬ j = 50 → ad_55 j = ad j) := fun j hj hn => (hEad_55 j (ltAB hj)).trans (hFad_52 j hj hn)
                  refine aw_ldc (v := (-1000003)) C dL_runs_415 mK_L_24 ?_
                  refine aw_ic_ne C dL_runs_417 424 (by decide) hw (fun hc417 hw => ?_) (fun hc417 hw => ?_)
                  · exact hw.elim
                  · refine aw_iconst (v := 1) C dL_runs_420 (by decide) ?_
                    refine aw_goto (tgt := 425) C dL_runs_421 (by decide) ?_
                    refine aw_istore C dL_runs_425 (by decide) rfl ?_
                    exact aw_msk [true, true, true, true, false, false, false, false, true, true, true, false, false] (h427 ad_55 _ _ x9 x10 _ hFad_55 (by omega) (by omega) hw)
        · refine aw_aloadn C dL_runs_316 rfl ?_
          refine aw_iload C dL_runs_317 rfl ?_
          refine aw_runF (mc := 1) (ms := 6) (t9 := 50) (m9 := 4) (rest := []) C (sA_50 shOK_B) (run_W (na := 2) C dL_runs_319 (t_L_step_B hlf x6 _ _ hw) mM_L_196 mW_step mT_step mI_L (by decide +kernel) rfl ⟨Nat.le_of_ble_eq_true rfl, Nat.le_of_ble_eq_true rfl, by show _ ≤ 1156; omega, by show _ ≤ 27313; omega⟩ [] rfl (Nat.le_of_ble_eq_true rfl)) ⟨by decide, by decide, by decide, by decide, trivial⟩ trivial (fun r319 ad_72 s319 G73x hEad_72 hq => ?_)
          obtain ⟨v74, rfl, rfl, hw⟩ := hq
          refine ⟨(sA_50 shOK_B), ?_⟩
          obtain ⟨G73, eG73, hw⟩ := hw
          rw [← eG73]
          have hFad_72 : (∀ j, j < 84 → ¬ j = 50 → ad_72 j = ad j) := fun j hj hn => (hEad_72 j (ltAB hj)).trans (hFad_46 j hj hn)
          refine aw_istore C dL_runs_322 (by decide) rfl ?_
          refine aw_iload C dL_runs_324 rfl ?_
          refine aw_iload C dL_runs_326 rfl ?_
          refine aw_iadd C dL_runs_328 ?_
          refine aw_istore C dL_runs_329 (by decide) rfl ?_
          refine aw_iload C dL_runs_331 rfl ?_
          refine aw_if_lt C dL_runs_333 373 (by decide) hw (fun hc333 hw => ?_) (fun hc333 hw => ?_)
          · exact hw.elim
          · refine aw_iload C dL_runs_336 rfl ?_
            refine aw_iload C dL_runs_338 rfl ?_
            refine aw_ic_gt C dL_runs_340 373 (by decide) hw (fun hc340 hw => ?_) (fun hc340 hw => ?_)
            · exact hw.elim
            · refine aw_aloadn C dL_runs_343 rfl ?_
              refine aw_runF (mc := 0) (ms := 0) (t9 := 50) (m9 := 4) (rest := []) C (sA_50 shOK_B) (run_V C dL_runs_344 ((t_X10_active_B _ _ hw).toCV) mM_L_162 bX10_active shB_0 rfl rfl ⟨Nat.le_of_ble_eq_true rfl, Nat.le_of_ble_eq_true rfl, by show _ ≤ 1156; omega, by show _ ≤ 27313; omega⟩ [] rfl (Nat.le_of_ble_eq_true rfl)) ⟨by decide, by decide, by decide, by decide, trivial⟩ trivial (fun r344 ad_75 s344 G76x hEad_75 hq => ?_)
              obtain ⟨rfl, v77, rfl, hw⟩ := hq
              refine ⟨(sA_50 shOK_B), ?_⟩
              obtain ⟨G76, eG76, hw⟩ := hw
              rw [← eG76]
              have hFad_75 : (∀ j, j < 84 → ¬ j = 50 → ad_75 j = ad j) := fun j hj hn => (hEad_75 j (ltAB hj)).trans (hFad_72 j hj hn)
              refine aw_if_lt C dL_runs_347 373 (by decide) hw (fun hc347 hw => ?_) (fun hc347 hw => ?_)
              · exact hw.elim
              · refine aw_aloadn C dL_runs_350 rfl ?_
                refine aw_runF (mc := 0) (ms := 0) (t9 := 50) (m9 := 4) (rest := []) C (sA_50 shOK_B) (run_V C dL_runs_351 ((t_X10_active_B _ _ hw).toCV) mM_L_162 bX10_active shB_0 rfl rfl ⟨Nat.le_of_ble_eq_true rfl, Nat.le_of_ble_eq_true rfl, by show _ ≤ 1156; omega, by show _ ≤ 27313; omega⟩ [] rfl (Nat.le_of_ble_eq_true rfl)) ⟨by decide, by decide, by decide, by decide, trivial⟩ trivial (fun r351 ad_78 s351 G79x hEad_78 hq => ?_)
                obtain ⟨rfl, v80, rfl, hw⟩ := hq
                refine ⟨(sA_50 shOK_B), ?_⟩
                obtain ⟨G79, eG79, hw⟩ := hw
                rw [← eG79]
                have hFad_78 : (∀ j, j < 84 → ¬ j = 50 → ad_78 j = ad j) := fun j hj hn => (hEad_78 j (ltAB hj)).trans (hFad_75 j hj hn)
                refine aw_bipush (v := 13) C dL_runs_354 (by decide) ?_
                refine aw_ic_ge C dL_runs_356 373 (by decide) hw (fun hc356 hw => ?_) (fun hc356 hw => ?_)
                · exact hw.elim
                · refine aw_aloadn C dL_runs_359 rfl ?_
                  refine aw_runF (mc := 0) (ms := 0) (t9 := 50) (m9 := 4) (rest := []) C (sA_50 shOK_B) (run_V C dL_runs_360 ((t_X10_next_B _ _ hw).toCV) mM_L_159 bX10_next shB_0 rfl rfl ⟨Nat.le_of_ble_eq_true rfl, Nat.le_of_ble_eq_true rfl, by show _ ≤ 1156; omega, by show _ ≤ 27313; omega⟩ [] rfl (Nat.le_of_ble_eq_true rfl)) ⟨by decide, by decide, by decide, by decide, trivial⟩ trivial (fun r360 ad_81 s360 G82x hEad_81 hq => ?_)
                  obtain ⟨rfl, v83, rfl, hw⟩ := hq
                  refine ⟨(sA_50 shOK_B), ?_⟩
                  obtain ⟨G82, eG82, hw⟩ := hw
                  rw [← eG82]
                  have hFad_81 : (∀ j, j < 84 → ¬ j = 50 → ad_81 j = ad j) := fun j hj hn => (hEad_81 j (ltAB hj)).trans (hFad_78 j hj hn)
                  refine aw_aloadn C dL_runs_363 rfl ?_
                  refine aw_iconst (v := 0) C dL_runs_364 (by decide) ?_
                  refine aw_iald C dL_runs_365 (set_ne2 (sA_47 shOK_B) (by decide)) hw.1 ?_
                  replace hw := hw.2
                  refine aw_ic_ge C dL_runs_366 373 (by decide) hw (fun hc366 hw => ?_) (fun hc366 hw => ?_)
                  · exact hw.elim
                  · refine aw_iconst (v := 1) C dL_runs_369 (by decide) ?_
                    refine aw_goto (tgt := 374) C dL_runs_370 (by decide) ?_
                    refine aw_istore C dL_runs_374 (by decide) rfl ?_
                    refine aw_goto (tgt := 304) C dL_runs_376 (by decide) ?_
                    exact aw_msk [true, true, true, true, false, false, true, false, true, true, true, true, false] (ih304 ad_81 _ _ x6 x9 x10 (x11 + v74) _ hFad_81 (by omega) (by omega) hw)
  have h74 : ∀ (f74 : Nat) (ad1 : Nat → Nat) (k n : Nat) (x4 : Int32) (x5 : Int32) (x6 : Int32) (x9 : Int32) (x10 : Int32) (x11 : Int32) (G0 : Gt), (∀ j, j < 84 → ¬ j = 50 → ad1 j = ad j) → k + 1 * f74 + 847 ≤ 1156 → n + 6 * f74 + 5122 ≤ 27313 → w_L_runs_A_h74 K f74 x4 x5 x6 x9 x10 x11 G0 → aw p l e { frames := 10, cells := 1156, slots := 27313, locals := 245 } s m args below meth c 13 D tA A (MQ below (QL D tA ad A shA (fun r s' G' => r = some (.int 1) ∧ K s' G')) args s 1156 27313 A) k n ad1 74 [some (.ref 0), some (.ref 47), some (.ref 48), some (.ref 49), some (.int x4), some (.int x5), some (.int x6), some (.ref 50), some (.int 1), some (.int x9), some (.int x10), some (.int x11), none] [] (shB.set 50 (.inl (0, 4))) G0 := by
    intro f74
    induction f74 with
    | zero => intro ad1 k n x4 x5 x6 x9 x10 x11 G0 hF hk hn hw; exact hw.elim
    | succ f74 ih74 =>
      intro ad1 k n x4 x5 x6 x9 x10 x11 G0 hF hk hn hw
      rw [w_L_runs_A_h74] at hw
      refine aw_iload C dL_runs_74 rfl ?_
      refine aw_iconst (v := 4) C dL_runs_76 (by decide) ?_
      refine aw_ic_ge C dL_runs_77 112 (by decide) hw (fun hc77 hw => ?_) (fun hc77 hw => ?_)
      · refine aw_iload C dL_runs_112 rfl ?_
        refine aw_if_eq (X := True) (Y := True) C dL_runs_114 159 (by decide) ⟨fun _ => trivial, fun _ => trivial⟩ (fun hx _ => ?_) (fun hx _ => ?_)
        · exact (show False by revert hx; decide).elim
        · refine aw_iload C dL_runs_117 rfl ?_
          refine aw_callS C dL_runs_119 (t_L_isOutcome  x9 _ _ hw) mM_L_173 bL_isOutcome rfl rfl ⟨Nat.le_of_ble_eq_true rfl, Nat.le_of_ble_eq_true rfl, by show _ ≤ 1156; omega, by show _ ≤ 27313; omega⟩ _ rfl (Nat.le_of_ble_eq_true rfl) (fun r119 G14 hq => ?_)
          obtain ⟨v13, rfl, hw⟩ := hq
          refine aw_if_eq C dL_runs_122 159 (by decide) hw (fun hc122 hw => ?_) (fun hc122 hw => ?_)
          · exact hw.elim
          · refine aw_iload C dL_runs_125 rfl ?_
            refine aw_if_le C dL_runs_127 159 (by decide) hw (fun hc127 hw => ?_) (fun hc127 hw => ?_)
            · exact hw.elim
            · refine aw_iload C dL_runs_130 rfl ?_
              refine aw_aloadn C dL_runs_132 rfl ?_
              refine aw_iconst (v := 1) C dL_runs_133 (by decide) ?_
              refine aw_iald C dL_runs_134 (set_ne2 (sA_47 shOK_B) (by decide)) hw.1 ?_
              replace hw := hw.2
              refine aw_ic_gt C dL_runs_135 159 (by decide) hw (fun hc135 hw => ?_) (fun hc135 hw => ?_)
              · exact hw.elim
              · refine aw_aloadn C dL_runs_138 rfl ?_
                refine aw_aloadn C dL_runs_139 rfl ?_
                refine aw_runF (mc := 30) (ms := 180) (t9 := 50) (m9 := 4) (rest := []) C (sA_50 shOK_B) (run_S C dL_runs_140 (t_L_told_B hlf _ _ hw) mM_L_176 bL_told rfl rfl ⟨Nat.le_of_ble_eq_true rfl, Nat.le_of_ble_eq_true rfl, by show _ ≤ 1156; omega, by show _ ≤ 27313; omega⟩ [] rfl (Nat.le_of_ble_eq_true rfl)) ⟨by decide, by decide, by decide, by decide, by decide, trivial⟩ trivial (fun r140 ad_15 s140 G16x hEad_15 hq => ?_)
                obtain ⟨rfl, rfl, hw⟩ := hq
                refine ⟨(sA_50 shOK_B), ?_⟩
                obtain ⟨G16, eG16, hw⟩ := hw
                rw [← eG16]
                have hFad_15 : (∀ j, j < 84 → ¬ j = 50 → ad_15 j = ad j) := fun j hj hn => (hEad_15 j (ltAB hj)).trans (hF j hj hn)
                refine aw_if_eq (X := True) (Y := True) C dL_runs_143 159 (by decide) ⟨fun _ => trivial, fun _ => trivial⟩ (fun hx _ => ?_) (fun hx _ => ?_)
                · exact (show False by revert hx; decide).elim
                · refine aw_aloadn C dL_runs_146 rfl ?_
                  refine aw_aloadn C dL_runs_147 rfl ?_
                  refine aw_aloadn C dL_runs_148 rfl ?_
                  refine aw_runF (mc := 237) (ms := 1442) (t9 := 50) (m9 := 4) (rest := []) C (sA_50 shOK_B) (run_S C dL_runs_149 (t_L_same_B hlf _ _ hw) mM_L_179 bL_same rfl rfl ⟨Nat.le_of_ble_eq_true rfl, Nat.le_of_ble_eq_true rfl, by show _ ≤ 1156; omega, by show _ ≤ 27313; omega⟩ [] rfl (Nat.le_of_ble_eq_true rfl)) ⟨by decide, by decide, by decide, by decide, by decide, trivial⟩ trivial (fun r149 ad_17 s149 G18x hEad_17 hq => ?_)
                  obtain ⟨rfl, rfl, hw⟩ := hq
                  refine ⟨(sA_50 shOK_B), ?_⟩
                  obtain ⟨G18, eG18, hw⟩ := hw
                  rw [← eG18]
                  have hFad_17 : (∀ j, j < 84 → ¬ j = 50 → ad_17 j = ad j) := fun j hj hn => (hEad_17 j (ltAB hj)).trans (hFad_15 j hj hn)
                  refine aw_if_eq (X := True) (Y := True) C dL_runs_152 159 (by decide) ⟨fun _ => trivial, fun _ => trivial⟩ (fun hx _ => ?_) (fun hx _ => ?_)
                  · exact (show False by revert hx; decide).elim
                  · refine aw_iconst (v := 1) C dL_runs_155 (by decide) ?_
                    refine aw_goto (tgt := 160) C dL_runs_156 (by decide) ?_
                    refine aw_istore C dL_runs_160 (by decide) rfl ?_
                    refine aw_iload C dL_runs_162 rfl ?_
                    refine aw_if_ne C dL_runs_164 193 (by decide) hw (fun hc164 hw => ?_) (fun hc164 hw => ?_)
                    · refine aw_iconst (v := 0) C dL_runs_193 (by decide) ?_
                      refine aw_istore C dL_runs_194 (by decide) rfl ?_
                      refine aw_iload C dL_runs_196 rfl ?_
                      refine aw_if_eq (X := True) (Y := True) C dL_runs_198 301 (by decide) ⟨fun _ => trivial, fun _ => trivial⟩ (fun hx _ => ?_) (fun hx _ => ?_)
                      · exact (show False by revert hx; decide).elim
                      · refine aw_aloadn C dL_runs_201 rfl ?_
                        refine aw_iload C dL_runs_202 rfl ?_
                        refine aw_runF (mc := 1) (ms := 6) (t9 := 50) (m9 := 4) (rest := []) C (sA_50 shOK_B) (run_W (na := 2) C dL_runs_204 (t_L_start_B hlf x4 _ _ hw) mM_L_185 mW_start mT_start mI_L (by decide +kernel) rfl ⟨Nat.le_of_ble_eq_true rfl, Nat.le_of_ble_eq_true rfl, by show _ ≤ 1156; omega, by show _ ≤ 27313; omega⟩ [] rfl (Nat.le_of_ble_eq_true rfl)) ⟨by decide, by decide, by decide, by decide, by decide, trivial⟩ trivial (fun r204 ad_19 s204 G20x hEad_19 hq => ?_)
                        obtain ⟨v21, rfl, rfl, hw⟩ := hq
                        refine ⟨(sA_50 shOK_B), ?_⟩
                        obtain ⟨G20, eG20, hw⟩ := hw
                        rw [← eG20]
                        have hFad_19 : (∀ j, j < 84 → ¬ j = 50 → ad_19 j = ad j) := fun j hj hn => (hEad_19 j (ltAB hj)).trans (hFad_17 j hj hn)
                        refine aw_if_ne C dL_runs_207 301 (by decide) hw (fun hc207 hw => ?_) (fun hc207 hw => ?_)
                        · exact hw.elim
                        · refine aw_aloadn C dL_runs_210 rfl ?_
                          refine aw_runF (mc := 0) (ms := 0) (t9 := 50) (m9 := 4) (rest := []) C (sA_50 shOK_B) (run_V C dL_runs_211 ((t_X10_next_B _ _ hw).toCV) mM_L_159 bX10_next shB_0 rfl rfl ⟨Nat.le_of_ble_eq_true rfl, Nat.le_of_ble_eq_true rfl, by show _ ≤ 1156; omega, by show _ ≤ 27313; omega⟩ [] rfl (Nat.le_of_ble_eq_true rfl)) ⟨by decide, by decide, by decide, by decide, by decide, trivial⟩ trivial (fun r211 ad_22 s211 G23x hEad_22 hq => ?_)
                          obtain ⟨rfl, v24, rfl, hw⟩ := hq
                          refine ⟨(sA_50 shOK_B), ?_⟩
                          obtain ⟨G23, eG23, hw⟩ := hw
                          rw [← eG23]
                          have hFad_22 : (∀ j, j < 84 → ¬ j = 50 → ad_22 j = ad j) := fun j hj hn => (hEad_22 j (ltAB hj)).trans (hFad_19 j hj hn)
                          refine aw_iload C dL_runs_214 rfl ?_
                          refine aw_ic_ne C dL_runs_216 301 (by decide) hw (fun hc216 hw => ?_) (fun hc216 hw => ?_)
                          · exact hw.elim
                          · refine aw_aloadn C dL_runs_219 rfl ?_
                            refine aw_iconst (v := 0) C dL_runs_220 (by decide) ?_
                            refine aw_runF (mc := 1) (ms := 6) (t9 := 50) (m9 := 4) (rest := []) C (sA_50 shOK_B) (run_W (na := 2) C dL_runs_221 (t_L_look_B hlf 0 _ _ hw) mM_L_187 mW_look mT_look mI_L (by decide +kernel) rfl ⟨Nat.le_of_ble_eq_true rfl, Nat.le_of_ble_eq_true rfl, by show _ ≤ 1156; omega, by show _ ≤ 27313; omega⟩ [] rfl (Nat.le_of_ble_eq_true rfl)) ⟨by decide, by decide, by decide, by decide, by decide, trivial⟩ trivial (fun r221 ad_25 s221 G26x hEad_25 hq => ?_)
                            obtain ⟨v27, rfl, rfl, hw⟩ := hq
                            refine ⟨(sA_50 shOK_B), ?_⟩
                            obtain ⟨G26, eG26, hw⟩ := hw
                            rw [← eG26]
                            have hFad_25 : (∀ j, j < 84 → ¬ j = 50 → ad_25 j = ad j) := fun j hj hn => (hEad_25 j (ltAB hj)).trans (hFad_22 j hj hn)
                            refine aw_ldc (v := 49999) C dL_runs_224 mK_L_189 ?_
                            refine aw_ic_ne C dL_runs_226 301 (by decide) hw (fun hc226 hw => ?_) (fun hc226 hw => ?_)
                            · exact hw.elim
                            · refine aw_aloadn C dL_runs_229 rfl ?_
                              refine aw_iload C dL_runs_230 rfl ?_
                              refine aw_runF (mc := 1) (ms := 6) (t9 := 50) (m9 := 4) (rest := []) C (sA_50 shOK_B) (run_W (na := 2) C dL_runs_232 (t_L_start_B hlf x4 _ _ hw) mM_L_185 mW_start mT_start mI_L (by decide +kernel) rfl ⟨Nat.le_of_ble_eq_true rfl, Nat.le_of_ble_eq_true rfl, by show _ ≤ 1156; omega, by show _ ≤ 27313; omega⟩ [] rfl (Nat.le_of_ble_eq_true rfl)) ⟨by decide, by decide, by decide, by decide, by decide, trivial⟩ trivial (fun r232 ad_28 s232 G29x hEad_28 hq => ?_)
                              obtain ⟨v30, rfl, rfl, hw⟩ := hq
                              refine ⟨(sA_50 shOK_B), ?_⟩
                              obtain ⟨G29, eG29, hw⟩ := hw
                              rw [← eG29]
                              have hFad_28 : (∀ j, j < 84 → ¬ j = 50 → ad_28 j = ad j) := fun j hj hn => (hEad_28 j (ltAB hj)).trans (hFad_25 j hj hn)
                              refine aw_ldc (v := (-1000003)) C dL_runs_235 mK_L_24 ?_
                              refine aw_ic_ne C dL_runs_237 301 (by decide) hw (fun hc237 hw => ?_) (fun hc237 hw => ?_)
                              · exact hw.elim
                              · refine aw_aloadn C dL_runs_240 rfl ?_
                                refine aw_iload C dL_runs_241 rfl ?_
                                refine aw_runF (mc := 1) (ms := 6) (t9 := 50) (m9 := 4) (rest := []) C (sA_50 shOK_B) (run_W (na := 2) C dL_runs_243 (t_L_run_B hlf x4 _ _ hw) mM_L_183 mW_run mT_run mI_L (by decide +kernel) rfl ⟨Nat.le_of_ble_eq_true rfl, Nat.le_of_ble_eq_true rfl, by show _ ≤ 1156; omega, by show _ ≤ 27313; omega⟩ [] rfl (Nat.le_of_ble_eq_true rfl)) ⟨by decide, by decide, by decide, by decide, by decide, trivial⟩ trivial (fun r243 ad_31 s243 G32x hEad_31 hq => ?_)
                                obtain ⟨v33, rfl, rfl, hw⟩ := hq
                                refine ⟨(sA_50 shOK_B), ?_⟩
                                obtain ⟨G32, eG32, hw⟩ := hw
                                rw [← eG32]
                                have hFad_31 : (∀ j, j < 84 → ¬ j = 50 → ad_31 j = ad j) := fun j hj hn => (hEad_31 j (ltAB hj)).trans (hFad_28 j hj hn)
                                refine aw_ldc (v := (-1000003)) C dL_runs_246 mK_L_24 ?_
                                refine aw_ic_ne C dL_runs_248 301 (by decide) hw (fun hc248 hw => ?_) (fun hc248 hw => ?_)
                                · exact hw.elim
                                · refine aw_aloadn C dL_runs_251 rfl ?_
                                  refine aw_iload C dL_runs_252 rfl ?_
                                  refine aw_runF (mc := 1) (ms := 6) (t9 := 50) (m9 := 4) (rest := []) C (sA_50 shOK_B) (run_W (na := 2) C dL_runs_254 (t_L_tried_B hlf x4 _ _ hw) mM_L_169 mW_tried mT_tried mI_L (by decide +kernel) rfl ⟨Nat.le_of_ble_eq_true rfl, Nat.le_of_ble_eq_true rfl, by show _ ≤ 1156; omega, by show _ ≤ 27313; omega⟩ [] rfl (Nat.le_of_ble_eq_true rfl)) ⟨by decide, by decide, by decide, by decide, by decide, trivial⟩ trivial (fun r254 ad_34 s254 G35x hEad_34 hq => ?_)
                                  obtain ⟨v36, rfl, rfl, hw⟩ := hq
                                  refine ⟨(sA_50 shOK_B), ?_⟩
                                  obtain ⟨G35, eG35, hw⟩ := hw
                                  rw [← eG35]
                                  have hFad_34 : (∀ j, j < 84 → ¬ j = 50 → ad_34 j = ad j) := fun j hj hn => (hEad_34 j (ltAB hj)).trans (hFad_31 j hj hn)
                                  refine aw_ldc (v := (-1000003)) C dL_runs_257 mK_L_24 ?_
                                  refine aw_ic_ne C dL_runs_259 301 (by decide) hw (fun hc259 hw => ?_) (fun hc259 hw => ?_)
                                  · exact hw.elim
                                  · refine aw_aloadn C dL_runs_262 rfl ?_
                                    refine aw_iconst (v := 0) C dL_runs_263 (by decide) ?_
                                    refine aw_iconst (v := 0) C dL_runs_264 (by decide) ?_
                                    refine aw_runF (mc := 1) (ms := 6) (t9 := 50) (m9 := 4) (rest := []) C (sA_50 shOK_B) (run_W (na := 3) C dL_runs_265 (t_L_setOption_B hlf 0 0 _ _ hw) mM_L_190 mW_setOption mT_setOption mI_L (by decide +kernel) rfl ⟨Nat.le_of_ble_eq_true rfl, Nat.le_of_ble_eq_true rfl, by show _ ≤ 1156; omega, by show _ ≤ 27313; omega⟩ [] rfl (Nat.le_of_ble_eq_true rfl)) ⟨by decide, by decide, by decide, by decide, by decide, trivial⟩ trivial (fun r265 ad_37 s265 G38x hEad_37 hq => ?_)
                                    obtain ⟨v39, rfl, rfl, hw⟩ := hq
                                    refine ⟨(sA_50 shOK_B), ?_⟩
                                    obtain ⟨G38, eG38, hw⟩ := hw
                                    rw [← eG38]
                                    have hFad_37 : (∀ j, j < 84 → ¬ j = 50 → ad_37 j = ad j) := fun j hj hn => (hEad_37 j (ltAB hj)).trans (hFad_34 j hj hn)
                                    refine aw_ldc (v := (-1000003)) C dL_runs_268 mK_L_24 ?_
                                    refine aw_ic_ne C dL_runs_270 301 (by decide) hw (fun hc270 hw => ?_) (fun hc270 hw => ?_)
                                    · exact hw.elim
                                    · refine aw_aloadn C dL_runs_273 rfl ?_
                                      refine aw_iconst (v := 0) C dL_runs_274 (by decide) ?_
                                      refine aw_iconst (v := 0) C dL_runs_275 (by decide) ?_
                                      refine aw_runF (mc := 1) (ms := 6) (t9 := 50) (m9 := 4) (rest := []) C (sA_50 shOK_B) (run_W (na := 3) C dL_runs_276 (t_L_write_B hlf 0 0 _ _ hw) mM_L_192 mW_write mT_write mI_L (by decide +kernel) rfl ⟨Nat.le_of_ble_eq_true rfl, Nat.le_of_ble_eq_true rfl, by show _ ≤ 1156; omega, by show _ ≤ 27313; omega⟩ [] rfl (Nat.le_of_ble_eq_true rfl)) ⟨by decide, by decide, by decide, by decide, by decide, trivial⟩ trivial (fun r276 ad_40 s276 G41x hEad_40 hq => ?_)
                                      obtain ⟨v42, rfl, rfl, hw⟩ := hq
                                      refine ⟨(sA_50 shOK_B), ?_⟩
                                      obtain ⟨G41, eG41, hw⟩ := hw
                                      rw [← eG41]
                                      have hFad_40 : (∀ j, j < 84 → ¬ j = 50 → ad_40 j = ad j) := fun j hj hn => (hEad_40 j (ltAB hj)).trans (hFad_37 j hj hn)
                                      refine aw_ldc (v := (-1000003)) C dL_runs_279 mK_L_24 ?_
                                      refine aw_ic_ne C dL_runs_281 301 (by decide) hw (fun hc281 hw => ?_) (fun hc281 hw => ?_)
                                      · exact hw.elim
                                      · refine aw_aloadn C dL_runs_284 rfl ?_
                                        refine aw_iconst (v := 0) C dL_runs_285 (by decide) ?_
                                        refine aw_iconst (v := 0) C dL_runs_286 (by decide) ?_
                                        refine aw_iconst (v := 0) C dL_runs_287 (by decide) ?_
                                        refine aw_iconst (v := (-1)) C dL_runs_288 (by decide) ?_
                                        refine aw_runF (mc := 1) (ms := 6) (t9 := 50) (m9 := 4) (rest := []) C (sA_50 shOK_B) (run_W (na := 5) C dL_runs_289 (t_L_define_B hlf 0 0 0 (-1) _ _ hw) mM_L_194 mW_define mT_define mI_L (by decide +kernel) rfl ⟨Nat.le_of_ble_eq_true rfl, Nat.le_of_ble_eq_true rfl, by show _ ≤ 1156; omega, by show _ ≤ 27313; omega⟩ [] rfl (Nat.le_of_ble_eq_true rfl)) ⟨by decide, by decide, by decide, by decide, by decide, trivial⟩ trivial (fun r289 ad_43 s289 G44x hEad_43 hq => ?_)
                                        obtain ⟨v45, rfl, rfl, hw⟩ := hq
                                        refine ⟨(sA_50 shOK_B), ?_⟩
                                        obtain ⟨G44, eG44, hw⟩ := hw
                                        rw [← eG44]
                                        have hFad_43 : (∀ j, j < 84 → ¬ j = 50 → ad_43 j = ad j) := fun j hj hn => (hEad_43 j (ltAB hj)).trans (hFad_40 j hj hn)
                                        refine aw_ldc (v := (-1000003)) C dL_runs_292 mK_L_24 ?_
                                        refine aw_ic_ne C dL_runs_294 301 (by decide) hw (fun hc294 hw => ?_) (fun hc294 hw => ?_)
                                        · exact hw.elim
                                        · refine aw_iconst (v := 1) C dL_runs_297 (by decide) ?_
                                          refine aw_goto (tgt := 302) C dL_runs_298 (by decide) ?_
                                          refine aw_istore C dL_runs_302 (by decide) rfl ?_
                                          obtain ⟨f0, hf0, hw⟩ := hw
                                          exact aw_msk [true, true, true, true, false, false, true, false, true, true, true, true, false] (h304 f0 ad_43 _ _ x6 x9 x10 0 _ hFad_43 (by omega) (by omega) hw)
                    · refine aw_iload C dL_runs_167 rfl ?_
                      refine aw_if_eq (X := True) (Y := True) C dL_runs_169 187 (by decide) ⟨fun _ => trivial, fun _ => trivial⟩ (fun hx _ => ?_) (fun hx _ => ?_)
                      · exact (show False by revert hx; decide).elim
                      · refine aw_aloadn C dL_runs_172 rfl ?_
                        refine aw_iload C dL_runs_173 rfl ?_
                        refine aw_runF (mc := 1) (ms := 6) (t9 := 50) (m9 := 4) (rest := []) C (sA_50 shOK_B) (run_W (na := 2) C dL_runs_175 (t_L_run_B hlf x4 _ _ hw) mM_L_183 mW_run mT_run mI_L (by decide +kernel) rfl ⟨Nat.le_of_ble_eq_true rfl, Nat.le_of_ble_eq_true rfl, by show _ ≤ 1156; omega, by show _ ≤ 27313; omega⟩ [] rfl (Nat.le_of_ble_eq_true rfl)) ⟨by decide, by decide, by decide, by decide, by decide, trivial⟩ trivial (fun r175 ad_84 s175 G85x hEad_84 hq => ?_)
                        obtain ⟨v86, rfl, rfl, hw⟩ := hq
                        refine ⟨(sA_50 shOK_B), ?_⟩
                        obtain ⟨G85, eG85, hw⟩ := hw
                        rw [← eG85]
                        have hFad_84 : (∀ j, j < 84 → ¬ j = 50 → ad_84 j = ad j) := fun j hj hn => (hEad_84 j (ltAB hj)).trans (hFad_17 j hj hn)
                        refine aw_iload C dL_runs_178 rfl ?_
                        refine aw_ic_ne C dL_runs_180 187 (by decide) hw (fun hc180 hw => ?_) (fun hc180 hw => ?_)
                        · exact hw.elim
                        · refine aw_iconst (v := 1) C dL_runs_183 (by decide) ?_
                          refine aw_goto (tgt := 188) C dL_runs_184 (by decide) ?_
                          refine aw_istore C dL_runs_188 (by decide) rfl ?_
                          refine aw_goto (tgt := 427) C dL_runs_190 (by decide) ?_
                          exact aw_msk [true, true, true, true, false, false, false, false, true, true, true, false, false] (h427 ad_84 _ _ x9 x10 _ hFad_84 (by omega) (by omega) hw)
      · refine aw_iload C dL_runs_80 rfl ?_
        refine aw_if_eq (X := True) (Y := True) C dL_runs_82 103 (by decide) ⟨fun _ => trivial, fun _ => trivial⟩ (fun hx _ => ?_) (fun hx _ => ?_)
        · exact (show False by revert hx; decide).elim
        · refine aw_aloadn C dL_runs_85 rfl ?_
          refine aw_iload C dL_runs_86 rfl ?_
          refine aw_runF (mc := 1) (ms := 6) (t9 := 50) (m9 := 4) (rest := []) C (sA_50 shOK_B) (run_W (na := 2) C dL_runs_88 (t_L_register_B hlf x11 _ _ hw) mM_L_167 mW_register mT_register mI_L (by decide +kernel) rfl ⟨Nat.le_of_ble_eq_true rfl, Nat.le_of_ble_eq_true rfl, by show _ ≤ 1156; omega, by show _ ≤ 27313; omega⟩ [] rfl (Nat.le_of_ble_eq_true rfl)) ⟨by decide, by decide, by decide, by decide, by decide, trivial⟩ trivial (fun r88 ad_87 s88 G88x hEad_87 hq => ?_)
          obtain ⟨v89, rfl, rfl, hw⟩ := hq
          refine ⟨(sA_50 shOK_B), ?_⟩
          obtain ⟨G88, eG88, hw⟩ := hw
          rw [← eG88]
          have hFad_87 : (∀ j, j < 84 → ¬ j = 50 → ad_87 j = ad j) := fun j hj hn => (hEad_87 j (ltAB hj)).trans (hF j hj hn)
          refine aw_aload C dL_runs_91 rfl ?_
          refine aw_iload C dL_runs_93 rfl ?_
          refine aw_iald C dL_runs_95 (set_eq' (sA_50 shOK_B)) hw.1 ?_
          replace hw := hw.2
          refine aw_ic_ne C dL_runs_96 103 (by decide) hw (fun hc96 hw => ?_) (fun hc96 hw => ?_)
          · exact hw.elim
          · refine aw_iconst (v := 1) C dL_runs_99 (by decide) ?_
            refine aw_goto (tgt := 104) C dL_runs_100 (by decide) ?_
            refine aw_istore C dL_runs_104 (by decide) rfl ?_
            refine aw_iinc (w := (x11 + 1)) C dL_runs_106 rfl rfl (by decide) rfl ?_
            refine aw_goto (tgt := 74) C dL_runs_109 (by decide) ?_
            exact aw_msk [true, true, true, true, true, true, true, true, true, true, true, true, false] (ih74 ad_87 _ _ x4 x5 x6 x9 x10 (x11 + 1) _ hFad_87 (by omega) (by omega) hw)
  have h32 : ∀ (f32 : Nat) (ad1 : Nat → Nat) (k n : Nat) (x4 : Int32) (x5 : Int32) (x6 : Int32) (x9 : Int32) (G0 : Gt), (∀ j, j < 84 → ¬ j = 50 → ad1 j = ad j) → k + 1 * f32 + 914 ≤ 1156 → n + 6 * f32 + 25863 ≤ 27313 → w_L_runs_A_h32 K f32 x4 x5 x6 x9 G0 → aw p l e { frames := 10, cells := 1156, slots := 27313, locals := 245 } s m args below meth c 13 D tA A (MQ below (QL D tA ad A shA (fun r s' G' => r = some (.int 1) ∧ K s' G')) args s 1156 27313 A) k n ad1 32 [some (.ref 0), some (.ref 47), some (.ref 48), some (.ref 49), some (.int x4), some (.int x5), some (.int x6), some (.ref 50), some (.int 1), some (.int x9), none, none, none] [] (shA.set 50 (.inl (0, 4))) G0 := by
    intro f32
    induction f32 with
    | zero => intro ad1 k n x4 x5 x6 x9 G0 hF hk hn hw; exact hw.elim
    | succ f32 ih32 =>
      intro ad1 k n x4 x5 x6 x9 G0 hF hk hn hw
      rw [w_L_runs_A_h32] at hw
      refine aw_iload C dL_runs_32 rfl ?_
      refine aw_iconst (v := 4) C dL_runs_34 (by decide) ?_
      refine aw_ic_ge C dL_runs_35 55 (by decide) hw (fun hc35 hw => ?_) (fun hc35 hw => ?_)
      · refine aw_aloadn C dL_runs_55 rfl ?_
        refine aw_iload C dL_runs_56 rfl ?_
        refine aw_runF (mc := 61) (ms := 20705) (t9 := 50) (m9 := 4) (rest := []) C (sA_50 shOK_A) (run_W (na := 2) C dL_runs_58 (t_L_tried_A hlf x4 _ _ hw) mM_L_169 mW_tried mT_tried mI_L (by decide +kernel) rfl ⟨Nat.le_of_ble_eq_true rfl, Nat.le_of_ble_eq_true rfl, by show _ ≤ 1156; omega, by show _ ≤ 27313; omega⟩ [] rfl (Nat.le_of_ble_eq_true rfl)) ⟨by decide, by decide, by decide, by decide, by decide, trivial⟩ trivial (fun r58 ad_7 s58 G8x hEad_7 hq => ?_)
        obtain ⟨v9, rfl, rfl, hw⟩ := hq
        refine ⟨(sA_50 shOK_B), ?_⟩
        obtain ⟨G8, eG8, hw⟩ := hw
        rw [← eG8]
        have hFad_7 : (∀ j, j < 84 → ¬ j = 50 → ad_7 j = ad j) := fun j hj hn => (hEad_7 j (ltAA hj)).trans (hF j hj hn)
        refine aw_istore C dL_runs_61 (by decide) rfl ?_
        refine aw_aloadn C dL_runs_63 rfl ?_
        refine aw_iload C dL_runs_64 rfl ?_
        refine aw_runF (mc := 1) (ms := 6) (t9 := 50) (m9 := 4) (rest := []) C (sA_50 shOK_B) (run_W (na := 2) C dL_runs_66 (t_L_triedSteps_B hlf x4 _ _ hw) mM_L_171 mW_triedSteps mT_triedSteps mI_L (by decide +kernel) rfl ⟨Nat.le_of_ble_eq_true rfl, Nat.le_of_ble_eq_true rfl, by show _ ≤ 1156; omega, by show _ ≤ 27313; omega⟩ [] rfl (Nat.le_of_ble_eq_true rfl)) ⟨by decide, by decide, by decide, by decide, by decide, trivial⟩ trivial (fun r66 ad_10 s66 G11x hEad_10 hq => ?_)
        obtain ⟨v12, rfl, rfl, hw⟩ := hq
        refine ⟨(sA_50 shOK_B), ?_⟩
        obtain ⟨G11, eG11, hw⟩ := hw
        rw [← eG11]
        have hFad_10 : (∀ j, j < 84 → ¬ j = 50 → ad_10 j = ad j) := fun j hj hn => (hEad_10 j (ltAB hj)).trans (hFad_7 j hj hn)
        refine aw_istore C dL_runs_69 (by decide) rfl ?_
        refine aw_iconst (v := 0) C dL_runs_71 (by decide) ?_
        refine aw_istore C dL_runs_72 (by decide) rfl ?_
        obtain ⟨f0, hf0, hw⟩ := hw
        exact aw_msk [true, true, true, true, true, true, true, true, true, true, true, true, false] (h74 f0 ad_10 _ _ x4 x5 x6 v9 v12 0 _ hFad_10 (by omega) (by omega) hw)
      · refine aw_aload C dL_runs_38 rfl ?_
        refine aw_iload C dL_runs_40 rfl ?_
        refine aw_aloadn C dL_runs_42 rfl ?_
        refine aw_iload C dL_runs_43 rfl ?_
        refine aw_runF (mc := 1) (ms := 6) (t9 := 50) (m9 := 4) (rest := [.int x9, .ref 50]) C (sA_50 shOK_A) (run_W (na := 2) C dL_runs_45 (t_L_register_A hlf x9 _ _ hw) mM_L_167 mW_register mT_register mI_L (by decide +kernel) rfl ⟨Nat.le_of_ble_eq_true rfl, Nat.le_of_ble_eq_true rfl, by show _ ≤ 1156; omega, by show _ ≤ 27313; omega⟩ [.int x9, .ref 50] rfl (Nat.le_of_ble_eq_true rfl)) ⟨by decide, by decide, by decide, by decide, by decide, trivial⟩ ⟨by decide, trivial⟩ (fun r45 ad_90 s45 G91x hEad_90 hq => ?_)
        obtain ⟨v92, rfl, rfl, hw⟩ := hq
        refine ⟨(sA_50 shOK_A), ?_⟩
        obtain ⟨G91, eG91, hw⟩ := hw
        rw [← eG91]
        have hFad_90 : (∀ j, j < 84 → ¬ j = 50 → ad_90 j = ad j) := fun j hj hn => (hEad_90 j (ltAA hj)).trans (hF j hj hn)
        refine aw_iast C dL_runs_48 (set_eq' (sA_50 shOK_A)) hw.1 hw.2 (fun G93 hw => ?_)
        refine aw_iinc (w := (x9 + 1)) C dL_runs_49 rfl rfl (by decide) rfl ?_
        refine aw_goto (tgt := 32) C dL_runs_52 (by decide) ?_
        exact aw_msk [true, true, true, true, true, true, true, true, true, true, false, false, false] (ih32 ad_90 _ _ x4 x5 x6 (x9 + 1) _ hFad_90 (by omega) (by omega) hw)
  unfold w_L_runs_A at hw
  show aw p l e { frames := 10, cells := 1156, slots := 27313, locals := 245 } s m args below meth c 13 D tA A (MQ below (QL D tA ad A shA (fun r s' G' => r = some (.int 1) ∧ K s' G')) args s 1156 27313 A) 0 0 ad 0 [some (.ref 0), some (.ref 47), some (.ref 48), some (.ref 49), some (.int p4), some (.int p5), some (.int p6), none, none, none, none, none, none] [] shA G0
  refine aw_iconst (v := 4) C dL_runs_0 (by decide) ?_
  refine aw_newP (t9 := 50) (m9 := 4) C dL_runs_1 mA_int rfl (by decide) (sA_50 shOK_A) (by decide +kernel) (by simp) (by show _ ≤ 1156; omega) (by show _ ≤ 27313; omega) (fun ad_2 hEad_2 => ?_)
  have hFad_2 : (∀ j, j < 84 → ¬ j = 50 → ad_2 j = ad j) := fun j hj hn => hEad_2 j hn
  obtain ⟨G1, eG1, hw⟩ := hw
  rw [← eG1]
  refine aw_astore C dL_runs_3 (by decide) rfl ?_
  refine aw_aloadn C dL_runs_5 rfl ?_
  refine aw_aloadn C dL_runs_6 rfl ?_
  refine aw_runF (mc := 41) (ms := 246) (t9 := 50) (m9 := 4) (rest := []) C (sA_50 shOK_A) (run_S C dL_runs_7 (t_L_notes_A hlf _ _ hw) mM_L_135 bL_notes rfl rfl ⟨Nat.le_of_ble_eq_true rfl, Nat.le_of_ble_eq_true rfl, by show _ ≤ 1156; omega, by show _ ≤ 27313; omega⟩ [] rfl (Nat.le_of_ble_eq_true rfl)) ⟨by decide, by decide, by decide, by decide, by decide, trivial⟩ trivial (fun r7 ad_3 s7 G4x hEad_3 hq => ?_)
  obtain ⟨rfl, rfl, hw⟩ := hq
  refine ⟨(sA_50 shOK_A), ?_⟩
  obtain ⟨G4, eG4, hw⟩ := hw
  rw [← eG4]
  have hFad_3 : (∀ j, j < 84 → ¬ j = 50 → ad_3 j = ad j) := fun j hj hn => (hEad_3 j (ltAA hj)).trans (hFad_2 j hj hn)
  refine aw_if_eq (X := True) (Y := True) C dL_runs_10 26 (by decide) ⟨fun _ => trivial, fun _ => trivial⟩ (fun hx _ => ?_) (fun hx _ => ?_)
  · exact (show False by revert hx; decide).elim
  · refine aw_aloadn C dL_runs_13 rfl ?_
    refine aw_aloadn C dL_runs_14 rfl ?_
    refine aw_iconst (v := 1) C dL_runs_15 (by decide) ?_
    refine aw_runF (mc := 195) (ms := 1170) (t9 := 50) (m9 := 4) (rest := []) C (sA_50 shOK_A) (run_S C dL_runs_16 (t_L_letters_A hlf 1 _ _ hw) mM_L_139 bL_letters rfl rfl ⟨Nat.le_of_ble_eq_true rfl, Nat.le_of_ble_eq_true rfl, by show _ ≤ 1156; omega, by show _ ≤ 27313; omega⟩ [] rfl (Nat.le_of_ble_eq_true rfl)) ⟨by decide, by decide, by decide, by decide, by decide, trivial⟩ trivial (fun r16 ad_5 s16 G6x hEad_5 hq => ?_)
    obtain ⟨rfl, rfl, hw⟩ := hq
    refine ⟨(sA_50 shOK_A), ?_⟩
    obtain ⟨G6, eG6, hw⟩ := hw
    rw [← eG6]
    have hFad_5 : (∀ j, j < 84 → ¬ j = 50 → ad_5 j = ad j) := fun j hj hn => (hEad_5 j (ltAA hj)).trans (hFad_3 j hj hn)
    refine aw_if_eq (X := True) (Y := True) C dL_runs_19 26 (by decide) ⟨fun _ => trivial, fun _ => trivial⟩ (fun hx _ => ?_) (fun hx _ => ?_)
    · exact (show False by revert hx; decide).elim
    · refine aw_iconst (v := 1) C dL_runs_22 (by decide) ?_
      refine aw_goto (tgt := 27) C dL_runs_23 (by decide) ?_
      refine aw_istore C dL_runs_27 (by decide) rfl ?_
      refine aw_iconst (v := 0) C dL_runs_29 (by decide) ?_
      refine aw_istore C dL_runs_30 (by decide) rfl ?_
      obtain ⟨f0, hf0, hw⟩ := hw
      exact aw_msk [true, true, true, true, true, true, true, true, true, true, false, false, false] (h32 f0 ad_5 _ _ p4 p5 p6 0 _ hFad_5 (by omega) (by omega) hw)
def w_L_runs_B_j427 (K : Sh → Gt → Prop) (x9 : Int32) (x10 : Int32) (G0 : Gt) : Prop :=
  vp_in 2 7 ∧
  pt (gu G0 47 (2 : Int32).toNatClampNeg x9) fun G58 =>
  vp_in 3 7 ∧
  pt (gu G58 47 (3 : Int32).toNatClampNeg x10) fun G59 =>
  w_X10_cause_B (fun v62 G61x => pt (frm 50 G59 G61x) fun G61 =>
    vp_in 4 7 ∧
    pt (gu G61 47 (4 : Int32).toNatClampNeg v62) fun G63 =>
    w_X10_traced_B (fun v66 G65x => pt (frm 50 G63 G65x) fun G65 =>
      vp_in 5 7 ∧
      pt (gu G65 47 (5 : Int32).toNatClampNeg v66) fun G67 =>
      w_L_told_B (fun s1 G69x => s1 = shB ∧ pt (frm 50 G67 G69x) fun G69 =>
        pif (x9 < 40000) (
          K shB G69) (
          w_L_same_B (fun s1 G71x => s1 = shB ∧ pt (frm 50 G69 G71x) fun G71 =>
            K shB G71) G69)) G67) G63) G59
def w_L_runs_B_h304 (K : Sh → Gt → Prop) : Nat → Int32 → Int32 → Int32 → Int32 → Gt → Prop
  | 0, _, _, _, _, _ => False
  | n + 1, x6, x9, x10, x11, G0 =>
    w_X10_next_B (fun v48 G47x => pt (frm 50 G0 G47x) fun G47 =>
      pif (v48 < 0) (
        pif (x11 = x10) (
          w_L_step_B (fun v51 s1 G50x => s1 = shB ∧ pt (frm 50 G47 G50x) fun G50 =>
            pif (v51 = (-1000003)) (
              w_L_giveUp_B (fun v54 s1 G53x => s1 = shB ∧ pt (frm 50 G50 G53x) fun G53 =>
                pif (v54 = (-1000003)) (
                  w_L_look_B (fun v57 s1 G56x => s1 = shB ∧ pt (frm 50 G53 G56x) fun G56 =>
                    pif (v57 = (-1000003)) (
                      w_L_runs_B_j427 K x9 x10 G56) (
                      False)) 0 G53) (
                  False)) G50) (
              False)) 1 G47) (
          False)) (
        w_L_step_B (fun v74 s1 G73x => s1 = shB ∧ pt (frm 50 G47 G73x) fun G73 =>
          pif (v74 < 0) (
            False) (
            pif (x6 < v74) (
              False) (
              w_X10_active_B (fun v77 G76x => pt (frm 50 G73 G76x) fun G76 =>
                pif (v77 < 0) (
                  False) (
                  w_X10_active_B (fun v80 G79x => pt (frm 50 G76 G79x) fun G79 =>
                    pif (13 ≤ v80) (
                      False) (
                      w_X10_next_B (fun v83 G82x => pt (frm 50 G79 G82x) fun G82 =>
                        vp_in 0 7 ∧
                        pif ((G82 47 (0 : Int32).toNatClampNeg) ≤ v83) (
                          False) (
                          w_L_runs_B_h304 K n x6 x9 x10 (x11 + v74) G82)) G79)) G76)) G73))) x6 G47)) G0
def w_L_runs_B_h74 (K : Sh → Gt → Prop) : Nat → Int32 → Int32 → Int32 → Int32 → Int32 → Int32 → Gt → Prop
  | 0, _, _, _, _, _, _, _ => False
  | n + 1, x4, x5, x6, x9, x10, x11, G0 =>
    pif (4 ≤ x11) (
      w_L_isOutcome (fun v13 G14 =>
        pif (v13 = 0) (
          False) (
          pif (x10 ≤ 0) (
            False) (
            vp_in 1 7 ∧
            pif ((G14 47 (1 : Int32).toNatClampNeg) < x10) (
              False) (
              w_L_told_B (fun s1 G16x => s1 = shB ∧ pt (frm 50 G14 G16x) fun G16 =>
                w_L_same_B (fun s1 G18x => s1 = shB ∧ pt (frm 50 G16 G18x) fun G18 =>
                  pif (x5 = 0) (
                    w_L_run_B (fun v86 s1 G85x => s1 = shB ∧ pt (frm 50 G18 G85x) fun G85 =>
                      pif (v86 = x9) (
                        w_L_runs_B_j427 K x9 x10 G85) (
                        False)) x4 G18) (
                    w_L_start_B (fun v21 s1 G20x => s1 = shB ∧ pt (frm 50 G18 G20x) fun G20 =>
                      pif (v21 = 0) (
                        w_X10_next_B (fun v24 G23x => pt (frm 50 G20 G23x) fun G23 =>
                          pif (v24 = x4) (
                            w_L_look_B (fun v27 s1 G26x => s1 = shB ∧ pt (frm 50 G23 G26x) fun G26 =>
                              pif (v27 = 49999) (
                                w_L_start_B (fun v30 s1 G29x => s1 = shB ∧ pt (frm 50 G26 G29x) fun G29 =>
                                  pif (v30 = (-1000003)) (
                                    w_L_run_B (fun v33 s1 G32x => s1 = shB ∧ pt (frm 50 G29 G32x) fun G32 =>
                                      pif (v33 = (-1000003)) (
                                        w_L_tried_B (fun v36 s1 G35x => s1 = shB ∧ pt (frm 50 G32 G35x) fun G35 =>
                                          pif (v36 = (-1000003)) (
                                            w_L_setOption_B (fun v39 s1 G38x => s1 = shB ∧ pt (frm 50 G35 G38x) fun G38 =>
                                              pif (v39 = (-1000003)) (
                                                w_L_write_B (fun v42 s1 G41x => s1 = shB ∧ pt (frm 50 G38 G41x) fun G41 =>
                                                  pif (v42 = (-1000003)) (
                                                    w_L_define_B (fun v45 s1 G44x => s1 = shB ∧ pt (frm 50 G41 G44x) fun G44 =>
                                                      pif (v45 = (-1000003)) (
                                                        ∃ i, i ≤ 302 ∧ w_L_runs_B_h304 K i x6 x9 x10 0 G44) (
                                                        False)) 0 0 0 (-1) G41) (
                                                    False)) 0 0 G38) (
                                                False)) 0 0 G35) (
                                            False)) x4 G32) (
                                        False)) x4 G29) (
                                    False)) x4 G26) (
                                False)) 0 G23) (
                            False)) G20) (
                        False)) x4 G18)) G16) G14)))) x9 G0) (
      w_L_register_B (fun v89 s1 G88x => s1 = shB ∧ pt (frm 50 G0 G88x) fun G88 =>
        vp_in x11 4 ∧
        pif (v89 = (G88 50 (x11 : Int32).toNatClampNeg)) (
          w_L_runs_B_h74 K n x4 x5 x6 x9 x10 (x11 + 1) G88) (
          False)) x11 G0)
def w_L_runs_B_h32 (K : Sh → Gt → Prop) : Nat → Int32 → Int32 → Int32 → Int32 → Gt → Prop
  | 0, _, _, _, _, _ => False
  | n + 1, x4, x5, x6, x9, G0 =>
    pif (4 ≤ x9) (
      w_L_tried_B (fun v9 s1 G8x => s1 = shB ∧ pt (frm 50 G0 G8x) fun G8 =>
        w_L_triedSteps_B (fun v12 s1 G11x => s1 = shB ∧ pt (frm 50 G8 G11x) fun G11 =>
          ∃ i, i ≤ 5 ∧ w_L_runs_B_h74 K i x4 x5 x6 v9 v12 0 G11) x4 G8) x4 G0) (
      w_L_register_B (fun v92 s1 G91x => s1 = shB ∧ pt (frm 50 G0 G91x) fun G91 =>
        vp_in x9 4 ∧
        pt (gu G91 50 (x9 : Int32).toNatClampNeg v92) fun G93 =>
        w_L_runs_B_h32 K n x4 x5 x6 (x9 + 1) G93) x9 G0)
def w_L_runs_B (K : Sh → Gt → Prop) (p4 : Int32) (p5 : Int32) (p6 : Int32) (G0 : Gt) : Prop :=
  pt (gz G0 50 0) fun G1 =>
  w_L_notes_B (fun s1 G4x => s1 = shB ∧ pt (frm 50 G1 G4x) fun G4 =>
    w_L_letters_B (fun s1 G6x => s1 = shB ∧ pt (frm 50 G4 G6x) fun G6 =>
      ∃ i, i ≤ 5 ∧ w_L_runs_B_h32 K i p4 p5 p6 0 G6) 1 G4) G1
set_option maxHeartbeats 4000000 in
set_option maxRecDepth 100000 in
theorem t_L_runs_B {l : Launch} (hlf : l.stackTraces = false) (p4 : Int32) (p5 : Int32) (p6 : Int32) (G0 : Gt) (K : Sh → Gt → Prop) (hw : w_L_runs_B K p4 p5 p6 G0) : CV l yL_runs cL_runs 13 (some .boolean) 10 218 1096 6614 [.ref 0, .ref 47, .ref 48, .ref 49, .int p4, .int p5, .int p6] shB G0 (fun r s' G' => r = some (.int 1) ∧ K s' G') := by
  refine CV_of (by decide) (Nat.le_of_ble_eq_true rfl) rfl ?_
  intro p e s m args below meth c D tA ad A C hr
  have hF0 : ∀ j, j < 145 → ad j = ad j := fun _ _ => rfl
  have h427 : ∀ (ad1 : Nat → Nat) (k n : Nat) (x9 : Int32) (x10 : Int32) (G0 : Gt), (∀ j, j < 145 → ¬ j = 50 → ad1 j = ad j) → k + 267 ≤ 1096 → n + 1622 ≤ 6614 → w_L_runs_B_j427 K x9 x10 G0 → aw p l e { frames := 10, cells := 1096, slots := 6614, locals := 218 } s m args below meth c 13 D tA A (MQ below (QL D tA ad A shB (fun r s' G' => r = some (.int 1) ∧ K s' G')) args s 1096 6614 A) k n ad1 427 [some (.ref 0), some (.ref 47), some (.ref 48), some (.ref 49), none, none, none, none, some (.int 1), some (.int x9), some (.int x10), none, none] [] (shB.set 50 (.inl (0, 4))) G0 := by
    intro ad1 k n x9 x10 G0 hF hk hn hw
    unfold w_L_runs_B_j427 at hw
    refine aw_aloadn C dL_runs_427 rfl ?_
    refine aw_iconst (v := 2) C dL_runs_428 (by decide) ?_
    refine aw_iload C dL_runs_429 rfl ?_
    refine aw_iast C dL_runs_431 (set_ne2 (sA_47 shOK_B) (by decide)) hw.1 hw.2 (fun G58 hw => ?_)
    refine aw_aloadn C dL_runs_432 rfl ?_
    refine aw_iconst (v := 3) C dL_runs_433 (by decide) ?_
    refine aw_iload C dL_runs_434 rfl ?_
    refine aw_iast C dL_runs_436 (set_ne2 (sA_47 shOK_B) (by decide)) hw.1 hw.2 (fun G59 hw => ?_)
    refine aw_aloadn C dL_runs_437 rfl ?_
    refine aw_iconst (v := 4) C dL_runs_438 (by decide) ?_
    refine aw_aloadn C dL_runs_439 rfl ?_
    refine aw_runF (mc := 0) (ms := 0) (t9 := 50) (m9 := 4) (rest := [.int 4, .ref 47]) C (sA_50 shOK_B) (run_V C dL_runs_440 ((t_X10_cause_B _ _ hw).toCV) mM_L_152 bX10_cause shB_0 rfl rfl ⟨Nat.le_of_ble_eq_true rfl, Nat.le_of_ble_eq_true rfl, by show _ ≤ 1096; omega, by show _ ≤ 6614; omega⟩ [.int 4, .ref 47] rfl (Nat.le_of_ble_eq_true rfl)) ⟨by decide, by decide, by decide, by decide, trivial⟩ ⟨by decide, trivial⟩ (fun r440 ad_60 s440 G61x hEad_60 hq => ?_)
    obtain ⟨rfl, v62, rfl, hw⟩ := hq
    refine ⟨(sA_50 shOK_B), ?_⟩
    obtain ⟨G61, eG61, hw⟩ := hw
    rw [← eG61]
    have hFad_60 : (∀ j, j < 145 → ¬ j = 50 → ad_60 j = ad j) := fun j hj hn => (hEad_60 j (ltBB hj)).trans (hF j hj hn)
    refine aw_iast C dL_runs_443 (set_ne2 (sA_47 shOK_B) (by decide)) hw.1 hw.2 (fun G63 hw => ?_)
    refine aw_aloadn C dL_runs_444 rfl ?_
    refine aw_iconst (v := 5) C dL_runs_445 (by decide) ?_
    refine aw_aloadn C dL_runs_446 rfl ?_
    refine aw_runF (mc := 0) (ms := 0) (t9 := 50) (m9 := 4) (rest := [.int 5, .ref 47]) C (sA_50 shOK_B) (run_V C dL_runs_447 ((t_X10_traced_B _ _ hw).toCV) mM_L_155 bX10_traced shB_0 rfl rfl ⟨Nat.le_of_ble_eq_true rfl, Nat.le_of_ble_eq_true rfl, by show _ ≤ 1096; omega, by show _ ≤ 6614; omega⟩ [.int 5, .ref 47] rfl (Nat.le_of_ble_eq_true rfl)) ⟨by decide, by decide, by decide, by decide, trivial⟩ ⟨by decide, trivial⟩ (fun r447 ad_64 s447 G65x hEad_64 hq => ?_)
    obtain ⟨rfl, v66, rfl, hw⟩ := hq
    refine ⟨(sA_50 shOK_B), ?_⟩
    obtain ⟨G65, eG65, hw⟩ := hw
    rw [← eG65]
    have hFad_64 : (∀ j, j < 145 → ¬ j = 50 → ad_64 j = ad j) := fun j hj hn => (hEad_64 j (ltBB hj)).trans (hFad_60 j hj hn)
    refine aw_iast C dL_runs_450 (set_ne2 (sA_47 shOK_B) (by decide)) hw.1 hw.2 (fun G67 hw => ?_)
    refine aw_iload C dL_runs_451 rfl ?_
    refine aw_if_eq (X := True) (Y := True) C dL_runs_453 484 (by decide) ⟨fun _ => trivial, fun _ => trivial⟩ (fun hx _ => ?_) (fun hx _ => ?_)
    · exact (show False by revert hx; decide).elim
    · refine aw_aloadn C dL_runs_456 rfl ?_
      refine aw_aloadn C dL_runs_457 rfl ?_
      refine aw_runF (mc := 30) (ms := 180) (t9 := 50) (m9 := 4) (rest := []) C (sA_50 shOK_B) (run_S C dL_runs_458 (t_L_told_B hlf _ _ hw) mM_L_176 bL_told rfl rfl ⟨Nat.le_of_ble_eq_true rfl, Nat.le_of_ble_eq_true rfl, by show _ ≤ 1096; omega, by show _ ≤ 6614; omega⟩ [] rfl (Nat.le_of_ble_eq_true rfl)) ⟨by decide, by decide, by decide, by decide, trivial⟩ trivial (fun r458 ad_68 s458 G69x hEad_68 hq => ?_)
      obtain ⟨rfl, rfl, hw⟩ := hq
      refine ⟨(sA_50 shOK_B), ?_⟩
      obtain ⟨G69, eG69, hw⟩ := hw
      rw [← eG69]
      have hFad_68 : (∀ j, j < 145 → ¬ j = 50 → ad_68 j = ad j) := fun j hj hn => (hEad_68 j (ltBB hj)).trans (hFad_64 j hj hn)
      refine aw_if_eq (X := True) (Y := True) C dL_runs_461 484 (by decide) ⟨fun _ => trivial, fun _ => trivial⟩ (fun hx _ => ?_) (fun hx _ => ?_)
      · exact (show False by revert hx; decide).elim
      · refine aw_iload C dL_runs_464 rfl ?_
        refine aw_ldc (v := 40000) C dL_runs_466 mK_L_201 ?_
        refine aw_ic_lt C dL_runs_468 480 (by decide) hw (fun hc468 hw => ?_) (fun hc468 hw => ?_)
        · refine aw_iconst (v := 1) C dL_runs_480 (by decide) ?_
          refine aw_goto (tgt := 485) C dL_runs_481 (by decide) ?_
          refine aw_msk [] ?_
          refine aw_drop (t9 := 50) (m9 := 4) (ad := adr 50 ad ad_68) (sA_50 shOK_B) (by decide +kernel) adr_ne (by simp [msk]) (by simp) ?_
          exact aw_lzreturn C hr dL_runs_485 rfl (by omega) (by omega) (adr_eq (fun j hj hn => hFad_68 j (ltB_ hj) hn)) ⟨rfl, hw⟩
        · refine aw_aloadn C dL_runs_471 rfl ?_
          refine aw_aloadn C dL_runs_472 rfl ?_
          refine aw_aloadn C dL_runs_473 rfl ?_
          refine aw_runF (mc := 237) (ms := 1442) (t9 := 50) (m9 := 4) (rest := []) C (sA_50 shOK_B) (run_S C dL_runs_474 (t_L_same_B hlf _ _ hw) mM_L_179 bL_same rfl rfl ⟨Nat.le_of_ble_eq_true rfl, Nat.le_of_ble_eq_true rfl, by show _ ≤ 1096; omega, by show _ ≤ 6614; omega⟩ [] rfl (Nat.le_of_ble_eq_true rfl)) ⟨by decide, by decide, by decide, by decide, trivial⟩ trivial (fun r474 ad_70 s474 G71x hEad_70 hq => ?_)
          obtain ⟨rfl, rfl, hw⟩ := hq
          refine ⟨(sA_50 shOK_B), ?_⟩
          obtain ⟨G71, eG71, hw⟩ := hw
          rw [← eG71]
          have hFad_70 : (∀ j, j < 145 → ¬ j = 50 → ad_70 j = ad j) := fun j hj hn => (hEad_70 j (ltBB hj)).trans (hFad_68 j hj hn)
          refine aw_if_eq (X := True) (Y := True) C dL_runs_477 484 (by decide) ⟨fun _ => trivial, fun _ => trivial⟩ (fun hx _ => ?_) (fun hx _ => ?_)
          · exact (show False by revert hx; decide).elim
          · refine aw_iconst (v := 1) C dL_runs_480 (by decide) ?_
            refine aw_goto (tgt := 485) C dL_runs_481 (by decide) ?_
            refine aw_msk [] ?_
            refine aw_drop (t9 := 50) (m9 := 4) (ad := adr 50 ad ad_70) (sA_50 shOK_B) (by decide +kernel) adr_ne (by simp [msk]) (by simp) ?_
            exact aw_lzreturn C hr dL_runs_485 rfl (by omega) (by omega) (adr_eq (fun j hj hn => hFad_70 j (ltB_ hj) hn)) ⟨rfl, hw⟩
  have h304 : ∀ (f304 : Nat) (ad1 : Nat → Nat) (k n : Nat) (x6 : Int32) (x9 : Int32) (x10 : Int32) (x11 : Int32) (G0 : Gt), (∀ j, j < 145 → ¬ j = 50 → ad1 j = ad j) → k + 1 * f304 + 270 ≤ 1096 → n + 6 * f304 + 1640 ≤ 6614 → w_L_runs_B_h304 K f304 x6 x9 x10 x11 G0 → aw p l e { frames := 10, cells := 1096, slots := 6614, locals := 218 } s m args below meth c 13 D tA A (MQ below (QL D tA ad A shB (fun r s' G' => r = some (.int 1) ∧ K s' G')) args s 1096 6614 A) k n ad1 304 [some (.ref 0), some (.ref 47), some (.ref 48), some (.ref 49), none, none, some (.int x6), none, some (.int 1), some (.int x9), some (.int x10), some (.int x11), none] [] (shB.set 50 (.inl (0, 4))) G0 := by
    intro f304
    induction f304 with
    | zero => intro ad1 k n x6 x9 x10 x11 G0 hF hk hn hw; exact hw.elim
    | succ f304 ih304 =>
      intro ad1 k n x6 x9 x10 x11 G0 hF hk hn hw
      rw [w_L_runs_B_h304] at hw
      refine aw_iload C dL_runs_304 rfl ?_
      refine aw_if_eq (X := True) (Y := True) C dL_runs_306 379 (by decide) ⟨fun _ => trivial, fun _ => trivial⟩ (fun hx _ => ?_) (fun hx _ => ?_)
      · exact (show False by revert hx; decide).elim
      · refine aw_aloadn C dL_runs_309 rfl ?_
        refine aw_runF (mc := 0) (ms := 0) (t9 := 50) (m9 := 4) (rest := []) C (sA_50 shOK_B) (run_V C dL_runs_310 ((t_X10_next_B _ _ hw).toCV) mM_L_159 bX10_next shB_0 rfl rfl ⟨Nat.le_of_ble_eq_true rfl, Nat.le_of_ble_eq_true rfl, by show _ ≤ 1096; omega, by show _ ≤ 6614; omega⟩ [] rfl (Nat.le_of_ble_eq_true rfl)) ⟨by decide, by decide, by decide, by decide, trivial⟩ trivial (fun r310 ad_46 s310 G47x hEad_46 hq => ?_)
        obtain ⟨rfl, v48, rfl, hw⟩ := hq
        refine ⟨(sA_50 shOK_B), ?_⟩
        obtain ⟨G47, eG47, hw⟩ := hw
        rw [← eG47]
        have hFad_46 : (∀ j, j < 145 → ¬ j = 50 → ad_46 j = ad j) := fun j hj hn => (hEad_46 j (ltBB hj)).trans (hF j hj hn)
        refine aw_if_lt C dL_runs_313 379 (by decide) hw (fun hc313 hw => ?_) (fun hc313 hw => ?_)
        · refine aw_iload C dL_runs_379 rfl ?_
          refine aw_if_eq (X := True) (Y := True) C dL_runs_381 424 (by decide) ⟨fun _ => trivial, fun _ => trivial⟩ (fun hx _ => ?_) (fun hx _ => ?_)
          · exact (show False by revert hx; decide).elim
          · refine aw_iload C dL_runs_384 rfl ?_
            refine aw_iload C dL_runs_386 rfl ?_
            refine aw_ic_ne C dL_runs_388 424 (by decide) hw (fun hc388 hw => ?_) (fun hc388 hw => ?_)
            · exact hw.elim
            · refine aw_aloadn C dL_runs_391 rfl ?_
              refine aw_iconst (v := 1) C dL_runs_392 (by decide) ?_
              refine aw_runF (mc := 1) (ms := 6) (t9 := 50) (m9 := 4) (rest := []) C (sA_50 shOK_B) (run_W (na := 2) C dL_runs_393 (t_L_step_B hlf 1 _ _ hw) mM_L_196 mW_step mT_step mI_L (by decide +kernel) rfl ⟨Nat.le_of_ble_eq_true rfl, Nat.le_of_ble_eq_true rfl, by show _ ≤ 1096; omega, by show _ ≤ 6614; omega⟩ [] rfl (Nat.le_of_ble_eq_true rfl)) ⟨by decide, by decide, by decide, by decide, trivial⟩ trivial (fun r393 ad_49 s393 G50x hEad_49 hq => ?_)
              obtain ⟨v51, rfl, rfl, hw⟩ := hq
              refine ⟨(sA_50 shOK_B), ?_⟩
              obtain ⟨G50, eG50, hw⟩ := hw
              rw [← eG50]
              have hFad_49 : (∀ j, j < 145 → ¬ j = 50 → ad_49 j = ad j) := fun j hj hn => (hEad_49 j (ltBB hj)).trans (hFad_46 j hj hn)
              refine aw_ldc (v := (-1000003)) C dL_runs_396 mK_L_24 ?_
              refine aw_ic_ne C dL_runs_398 424 (by decide) hw (fun hc398 hw => ?_) (fun hc398 hw => ?_)
              · exact hw.elim
              · refine aw_aloadn C dL_runs_401 rfl ?_
                refine aw_runF (mc := 1) (ms := 6) (t9 := 50) (m9 := 4) (rest := []) C (sA_50 shOK_B) (run_W (na := 1) C dL_runs_402 (t_L_giveUp_B hlf _ _ hw) mM_L_198 mW_giveUp mT_giveUp mI_L (by decide +kernel) rfl ⟨Nat.le_of_ble_eq_true rfl, Nat.le_of_ble_eq_true rfl, by show _ ≤ 1096; omega, by show _ ≤ 6614; omega⟩ [] rfl (Nat.le_of_ble_eq_true rfl)) ⟨by decide, by decide, by decide, by decide, trivial⟩ trivial (fun r402 ad_52 s402 G53x hEad_52 hq => ?_)
                obtain ⟨v54, rfl, rfl, hw⟩ := hq
                refine ⟨(sA_50 shOK_B), ?_⟩
                obtain ⟨G53, eG53, hw⟩ := hw
                rw [← eG53]
                have hFad_52 : (∀ j, j < 145 → ¬ j = 50 → ad_52 j = ad j) := fun j hj hn => (hEad_52 j (ltBB hj)).trans (hFad_49 j hj hn)
                refine aw_ldc (v := (-1000003)) C dL_runs_405 mK_L_24 ?_
                refine aw_ic_ne C dL_runs_407 424 (by decide) hw (fun hc407 hw => ?_) (fun hc407 hw => ?_)
                · exact hw.elim
                · refine aw_aloadn C dL_runs_410 rfl ?_
                  refine aw_iconst (v := 0) C dL_runs_411 (by decide) ?_
                  refine aw_runF (mc := 1) (ms := 6) (t9 := 50) (m9 := 4) (rest := []) C (sA_50 shOK_B) (run_W (na := 2) C dL_runs_412 (t_L_look_B hlf 0 _ _ hw) mM_L_187 mW_look mT_look mI_L (by decide +kernel) rfl ⟨Nat.le_of_ble_eq_true rfl, Nat.le_of_ble_eq_true rfl, by show _ ≤ 1096; omega, by show _ ≤ 6614; omega⟩ [] rfl (Nat.le_of_ble_eq_true rfl)) ⟨by decide, by decide, by decide, by decide, trivial⟩ trivial (fun r412 ad_55 s412 G56x hEad_55 hq => ?_)
                  obtain ⟨v57, rfl, rfl, hw⟩ := hq
                  refine ⟨(sA_50 shOK_B), ?_⟩
                  obtain ⟨G56, eG56, hw⟩ := hw
                  rw [← eG56]
                  have hFad_55 : (∀ j, j < 145 → ¬ j = 50 → ad_55 j = ad j) := fun j hj hn => (hEad_55 j (ltBB hj)).trans (hFad_52 j hj hn)
                  refine aw_ldc (v := (-1000003)) C dL_runs_415 mK_L_24 ?_
                  refine aw_ic_ne C dL_runs_417 424 (by decide) hw (fun hc417 hw => ?_) (fun hc417 hw => ?_)
                  · exact hw.elim
                  · refine aw_iconst (v := 1) C dL_runs_420 (by decide) ?_
                    refine aw_goto (tgt := 425) C dL_runs_421 (by decide) ?_
                    refine aw_istore C dL_runs_425 (by decide) rfl ?_
                    exact aw_msk [true, true, true, true, false, false, false, false, true, true, true, false, false] (h427 ad_55 _ _ x9 x10 _ hFad_55 (by omega) (by omega) hw)
        · refine aw_aloadn C dL_runs_316 rfl ?_
          refine aw_iload C dL_runs_317 rfl ?_
          refine aw_runF (mc := 1) (ms := 6) (t9 := 50) (m9 := 4) (rest := []) C (sA_50 shOK_B) (run_W (na := 2) C dL_runs_319 (t_L_step_B hlf x6 _ _ hw) mM_L_196 mW_step mT_step mI_L (by decide +kernel) rfl ⟨Nat.le_of_ble_eq_true rfl, Nat.le_of_ble_eq_true rfl, by show _ ≤ 1096; omega, by show _ ≤ 6614; omega⟩ [] rfl (Nat.le_of_ble_eq_true rfl)) ⟨by decide, by decide, by decide, by decide, trivial⟩ trivial (fun r319 ad_72 s319 G73x hEad_72 hq => ?_)
          obtain ⟨v74, rfl, rfl, hw⟩ := hq
          refine ⟨(sA_50 shOK_B), ?_⟩
          obtain ⟨G73, eG73, hw⟩ := hw
          rw [← eG73]
          have hFad_72 : (∀ j, j < 145 → ¬ j = 50 → ad_72 j = ad j) := fun j hj hn => (hEad_72 j (ltBB hj)).trans (hFad_46 j hj hn)
          refine aw_istore C dL_runs_322 (by decide) rfl ?_
          refine aw_iload C dL_runs_324 rfl ?_
          refine aw_iload C dL_runs_326 rfl ?_
          refine aw_iadd C dL_runs_328 ?_
          refine aw_istore C dL_runs_329 (by decide) rfl ?_
          refine aw_iload C dL_runs_331 rfl ?_
          refine aw_if_lt C dL_runs_333 373 (by decide) hw (fun hc333 hw => ?_) (fun hc333 hw => ?_)
          · exact hw.elim
          · refine aw_iload C dL_runs_336 rfl ?_
            refine aw_iload C dL_runs_338 rfl ?_
            refine aw_ic_gt C dL_runs_340 373 (by decide) hw (fun hc340 hw => ?_) (fun hc340 hw => ?_)
            · exact hw.elim
            · refine aw_aloadn C dL_runs_343 rfl ?_
              refine aw_runF (mc := 0) (ms := 0) (t9 := 50) (m9 := 4) (rest := []) C (sA_50 shOK_B) (run_V C dL_runs_344 ((t_X10_active_B _ _ hw).toCV) mM_L_162 bX10_active shB_0 rfl rfl ⟨Nat.le_of_ble_eq_true rfl, Nat.le_of_ble_eq_true rfl, by show _ ≤ 1096; omega, by show _ ≤ 6614; omega⟩ [] rfl (Nat.le_of_ble_eq_true rfl)) ⟨by decide, by decide, by decide, by decide, trivial⟩ trivial (fun r344 ad_75 s344 G76x hEad_75 hq => ?_)
              obtain ⟨rfl, v77, rfl, hw⟩ := hq
              refine ⟨(sA_50 shOK_B), ?_⟩
              obtain ⟨G76, eG76, hw⟩ := hw
              rw [← eG76]
              have hFad_75 : (∀ j, j < 145 → ¬ j = 50 → ad_75 j = ad j) := fun j hj hn => (hEad_75 j (ltBB hj)).trans (hFad_72 j hj hn)
              refine aw_if_lt C dL_runs_347 373 (by decide) hw (fun hc347 hw => ?_) (fun hc347 hw => ?_)
              · exact hw.elim
              · refine aw_aloadn C dL_runs_350 rfl ?_
                refine aw_runF (mc := 0) (ms := 0) (t9 := 50) (m9 := 4) (rest := []) C (sA_50 shOK_B) (run_V C dL_runs_351 ((t_X10_active_B _ _ hw).toCV) mM_L_162 bX10_active shB_0 rfl rfl ⟨Nat.le_of_ble_eq_true rfl, Nat.le_of_ble_eq_true rfl, by show _ ≤ 1096; omega, by show _ ≤ 6614; omega⟩ [] rfl (Nat.le_of_ble_eq_true rfl)) ⟨by decide, by decide, by decide, by decide, trivial⟩ trivial (fun r351 ad_78 s351 G79x hEad_78 hq => ?_)
                obtain ⟨rfl, v80, rfl, hw⟩ := hq
                refine ⟨(sA_50 shOK_B), ?_⟩
                obtain ⟨G79, eG79, hw⟩ := hw
                rw [← eG79]
                have hFad_78 : (∀ j, j < 145 → ¬ j = 50 → ad_78 j = ad j) := fun j hj hn => (hEad_78 j (ltBB hj)).trans (hFad_75 j hj hn)
                refine aw_bipush (v := 13) C dL_runs_354 (by decide) ?_
                refine aw_ic_ge C dL_runs_356 373 (by decide) hw (fun hc356 hw => ?_) (fun hc356 hw => ?_)
                · exact hw.elim
                · refine aw_aloadn C dL_runs_359 rfl ?_
                  refine aw_runF (mc := 0) (ms := 0) (t9 := 50) (m9 := 4) (rest := []) C (sA_50 shOK_B) (run_V C dL_runs_360 ((t_X10_next_B _ _ hw).toCV) mM_L_159 bX10_next shB_0 rfl rfl ⟨Nat.le_of_ble_eq_true rfl, Nat.le_of_ble_eq_true rfl, by show _ ≤ 1096; omega, by show _ ≤ 6614; omega⟩ [] rfl (Nat.le_of_ble_eq_true rfl)) ⟨by decide, by decide, by decide, by decide, trivial⟩ trivial (fun r360 ad_81 s360 G82x hEad_81 hq => ?_)
                  obtain ⟨rfl, v83, rfl, hw⟩ := hq
                  refine ⟨(sA_50 shOK_B), ?_⟩
                  obtain ⟨G82, eG82, hw⟩ := hw
                  rw [← eG82]
                  have hFad_81 : (∀ j, j < 145 → ¬ j = 50 → ad_81 j = ad j) := fun j hj hn => (hEad_81 j (ltBB hj)).trans (hFad_78 j hj hn)
                  refine aw_aloadn C dL_runs_363 rfl ?_
                  refine aw_iconst (v := 0) C dL_runs_364 (by decide) ?_
                  refine aw_iald C dL_runs_365 (set_ne2 (sA_47 shOK_B) (by decide)) hw.1 ?_
                  replace hw := hw.2
                  refine aw_ic_ge C dL_runs_366 373 (by decide) hw (fun hc366 hw => ?_) (fun hc366 hw => ?_)
                  · exact hw.elim
                  · refine aw_iconst (v := 1) C dL_runs_369 (by decide) ?_
                    refine aw_goto (tgt := 374) C dL_runs_370 (by decide) ?_
                    refine aw_istore C dL_runs_374 (by decide) rfl ?_
                    refine aw_goto (tgt := 304) C dL_runs_376 (by decide) ?_
                    exact aw_msk [true, true, true, true, false, false, true, false, true, true, true, true, false] (ih304 ad_81 _ _ x6 x9 x10 (x11 + v74) _ hFad_81 (by omega) (by omega) hw)
  have h74 : ∀ (f74 : Nat) (ad1 : Nat → Nat) (k n : Nat) (x4 : Int32) (x5 : Int32) (x6 : Int32) (x9 : Int32) (x10 : Int32) (x11 : Int32) (G0 : Gt), (∀ j, j < 145 → ¬ j = 50 → ad1 j = ad j) → k + 1 * f74 + 847 ≤ 1096 → n + 6 * f74 + 5122 ≤ 6614 → w_L_runs_B_h74 K f74 x4 x5 x6 x9 x10 x11 G0 → aw p l e { frames := 10, cells := 1096, slots := 6614, locals := 218 } s m args below meth c 13 D tA A (MQ below (QL D tA ad A shB (fun r s' G' => r = some (.int 1) ∧ K s' G')) args s 1096 6614 A) k n ad1 74 [some (.ref 0), some (.ref 47), some (.ref 48), some (.ref 49), some (.int x4), some (.int x5), some (.int x6), some (.ref 50), some (.int 1), some (.int x9), some (.int x10), some (.int x11), none] [] (shB.set 50 (.inl (0, 4))) G0 := by
    intro f74
    induction f74 with
    | zero => intro ad1 k n x4 x5 x6 x9 x10 x11 G0 hF hk hn hw; exact hw.elim
    | succ f74 ih74 =>
      intro ad1 k n x4 x5 x6 x9 x10 x11 G0 hF hk hn hw
      rw [w_L_runs_B_h74] at hw
      refine aw_iload C dL_runs_74 rfl ?_
      refine aw_iconst (v := 4) C dL_runs_76 (by decide) ?_
      refine aw_ic_ge C dL_runs_77 112 (by decide) hw (fun hc77 hw => ?_) (fun hc77 hw => ?_)
      · refine aw_iload C dL_runs_112 rfl ?_
        refine aw_if_eq (X := True) (Y := True) C dL_runs_114 159 (by decide) ⟨fun _ => trivial, fun _ => trivial⟩ (fun hx _ => ?_) (fun hx _ => ?_)
        · exact (show False by revert hx; decide).elim
        · refine aw_iload C dL_runs_117 rfl ?_
          refine aw_callS C dL_runs_119 (t_L_isOutcome  x9 _ _ hw) mM_L_173 bL_isOutcome rfl rfl ⟨Nat.le_of_ble_eq_true rfl, Nat.le_of_ble_eq_true rfl, by show _ ≤ 1096; omega, by show _ ≤ 6614; omega⟩ _ rfl (Nat.le_of_ble_eq_true rfl) (fun r119 G14 hq => ?_)
          obtain ⟨v13, rfl, hw⟩ := hq
          refine aw_if_eq C dL_runs_122 159 (by decide) hw (fun hc122 hw => ?_) (fun hc122 hw => ?_)
          · exact hw.elim
          · refine aw_iload C dL_runs_125 rfl ?_
            refine aw_if_le C dL_runs_127 159 (by decide) hw (fun hc127 hw => ?_) (fun hc127 hw => ?_)
            · exact hw.elim
            · refine aw_iload C dL_runs_130 rfl ?_
              refine aw_aloadn C dL_runs_132 rfl ?_
              refine aw_iconst (v := 1) C dL_runs_133 (by decide) ?_
              refine aw_iald C dL_runs_134 (set_ne2 (sA_47 shOK_B) (by decide)) hw.1 ?_
              replace hw := hw.2
              refine aw_ic_gt C dL_runs_135 159 (by decide) hw (fun hc135 hw => ?_) (fun hc135 hw => ?_)
              · exact hw.elim
              · refine aw_aloadn C dL_runs_138 rfl ?_
                refine aw_aloadn C dL_runs_139 rfl ?_
                refine aw_runF (mc := 30) (ms := 180) (t9 := 50) (m9 := 4) (rest := []) C (sA_50 shOK_B) (run_S C dL_runs_140 (t_L_told_B hlf _ _ hw) mM_L_176 bL_told rfl rfl ⟨Nat.le_of_ble_eq_true rfl, Nat.le_of_ble_eq_true rfl, by show _ ≤ 1096; omega, by show _ ≤ 6614; omega⟩ [] rfl (Nat.le_of_ble_eq_true rfl)) ⟨by decide, by decide, by decide, by decide, by decide, trivial⟩ trivial (fun r140 ad_15 s140 G16x hEad_15 hq => ?_)
                obtain ⟨rfl, rfl, hw⟩ := hq
                refine ⟨(sA_50 shOK_B), ?_⟩
                obtain ⟨G16, eG16, hw⟩ := hw
                rw [← eG16]
                have hFad_15 : (∀ j, j < 145 → ¬ j = 50 → ad_15 j = ad j) := fun j hj hn => (hEad_15 j (ltBB hj)).trans (hF j hj hn)
                refine aw_if_eq (X := True) (Y := True) C dL_runs_143 159 (by decide) ⟨fun _ => trivial, fun _ => trivial⟩ (fun hx _ => ?_) (fun hx _ => ?_)
                · exact (show False by revert hx; decide).elim
                · refine aw_aloadn C dL_runs_146 rfl ?_
                  refine aw_aloadn C dL_runs_147 rfl ?_
                  refine aw_aloadn C dL_runs_148 rfl ?_
                  refine aw_runF (mc := 237) (ms := 1442) (t9 := 50) (m9 := 4) (rest := []) C (sA_50 shOK_B) (run_S C dL_runs_149 (t_L_same_B hlf _ _ hw) mM_L_179 bL_same rfl rfl ⟨Nat.le_of_ble_eq_true rfl, Nat.le_of_ble_eq_true rfl, by show _ ≤ 1096; omega, by show _ ≤ 6614; omega⟩ [] rfl (Nat.le_of_ble_eq_true rfl)) ⟨by decide, by decide, by decide, by decide, by decide, trivial⟩ trivial (fun r149 ad_17 s149 G18x hEad_17 hq => ?_)
                  obtain ⟨rfl, rfl, hw⟩ := hq
                  refine ⟨(sA_50 shOK_B), ?_⟩
                  obtain ⟨G18, eG18, hw⟩ := hw
                  rw [← eG18]
                  have hFad_17 : (∀ j, j < 145 → ¬ j = 50 → ad_17 j = ad j) := fun j hj hn => (hEad_17 j (ltBB hj)).trans (hFad_15 j hj hn)
                  refine aw_if_eq (X := True) (Y := True) C dL_runs_152 159 (by decide) ⟨fun _ => trivial, fun _ => trivial⟩ (fun hx _ => ?_) (fun hx _ => ?_)
                  · exact (show False by revert hx; decide).elim
                  · refine aw_iconst (v := 1) C dL_runs_155 (by decide) ?_
                    refine aw_goto (tgt := 160) C dL_runs_156 (by decide) ?_
                    refine aw_istore C dL_runs_160 (by decide) rfl ?_
                    refine aw_iload C dL_runs_162 rfl ?_
                    refine aw_if_ne C dL_runs_164 193 (by decide) hw (fun hc164 hw => ?_) (fun hc164 hw => ?_)
                    · refine aw_iconst (v := 0) C dL_runs_193 (by decide) ?_
                      refine aw_istore C dL_runs_194 (by decide) rfl ?_
                      refine aw_iload C dL_runs_196 rfl ?_
                      refine aw_if_eq (X := True) (Y := True) C dL_runs_198 301 (by decide) ⟨fun _ => trivial, fun _ => trivial⟩ (fun hx _ => ?_) (fun hx _ => ?_)
                      · exact (show False by revert hx; decide).elim
                      · refine aw_aloadn C dL_runs_201 rfl ?_
                        refine aw_iload C dL_runs_202 rfl ?_
                        refine aw_runF (mc := 1) (ms := 6) (t9 := 50) (m9 := 4) (rest := []) C (sA_50 shOK_B) (run_W (na := 2) C dL_runs_204 (t_L_start_B hlf x4 _ _ hw) mM_L_185 mW_start mT_start mI_L (by decide +kernel) rfl ⟨Nat.le_of_ble_eq_true rfl, Nat.le_of_ble_eq_true rfl, by show _ ≤ 1096; omega, by show _ ≤ 6614; omega⟩ [] rfl (Nat.le_of_ble_eq_true rfl)) ⟨by decide, by decide, by decide, by decide, by decide, trivial⟩ trivial (fun r204 ad_19 s204 G20x hEad_19 hq => ?_)
                        obtain ⟨v21, rfl, rfl, hw⟩ := hq
                        refine ⟨(sA_50 shOK_B), ?_⟩
                        obtain ⟨G20, eG20, hw⟩ := hw
                        rw [← eG20]
                        have hFad_19 : (∀ j, j < 145 → ¬ j = 50 → ad_19 j = ad j) := fun j hj hn => (hEad_19 j (ltBB hj)).trans (hFad_17 j hj hn)
                        refine aw_if_ne C dL_runs_207 301 (by decide) hw (fun hc207 hw => ?_) (fun hc207 hw => ?_)
                        · exact hw.elim
                        · refine aw_aloadn C dL_runs_210 rfl ?_
                          refine aw_runF (mc := 0) (ms := 0) (t9 := 50) (m9 := 4) (rest := []) C (sA_50 shOK_B) (run_V C dL_runs_211 ((t_X10_next_B _ _ hw).toCV) mM_L_159 bX10_next shB_0 rfl rfl ⟨Nat.le_of_ble_eq_true rfl, Nat.le_of_ble_eq_true rfl, by show _ ≤ 1096; omega, by show _ ≤ 6614; omega⟩ [] rfl (Nat.le_of_ble_eq_true rfl)) ⟨by decide, by decide, by decide, by decide, by decide, trivial⟩ trivial (fun r211 ad_22 s211 G23x hEad_22 hq => ?_)
                          obtain ⟨rfl, v24, rfl, hw⟩ := hq
                          refine ⟨(sA_50 shOK_B), ?_⟩
                          obtain ⟨G23, eG23, hw⟩ := hw
                          rw [← eG23]
                          have hFad_22 : (∀ j, j < 145 → ¬ j = 50 → ad_22 j = ad j) := fun j hj hn => (hEad_22 j (ltBB hj)).trans (hFad_19 j hj hn)
                          refine aw_iload C dL_runs_214 rfl ?_
                          refine aw_ic_ne C dL_runs_216 301 (by decide) hw (fun hc216 hw => ?_) (fun hc216 hw => ?_)
                          · exact hw.elim
                          · refine aw_aloadn C dL_runs_219 rfl ?_
                            refine aw_iconst (v := 0) C dL_runs_220 (by decide) ?_
                            refine aw_runF (mc := 1) (ms := 6) (t9 := 50) (m9 := 4) (rest := []) C (sA_50 shOK_B) (run_W (na := 2) C dL_runs_221 (t_L_look_B hlf 0 _ _ hw) mM_L_187 mW_look mT_look mI_L (by decide +kernel) rfl ⟨Nat.le_of_ble_eq_true rfl, Nat.le_of_ble_eq_true rfl, by show _ ≤ 1096; omega, by show _ ≤ 6614; omega⟩ [] rfl (Nat.le_of_ble_eq_true rfl)) ⟨by decide, by decide, by decide, by decide, by decide, trivial⟩ trivial (fun r221 ad_25 s221 G26x hEad_25 hq => ?_)
                            obtain ⟨v27, rfl, rfl, hw⟩ := hq
                            refine ⟨(sA_50 shOK_B), ?_⟩
                            obtain ⟨G26, eG26, hw⟩ := hw
                            rw [← eG26]
                            have hFad_25 : (∀ j, j < 145 → ¬ j = 50 → ad_25 j = ad j) := fun j hj hn => (hEad_25 j (ltBB hj)).trans (hFad_22 j hj hn)
                            refine aw_ldc (v := 49999) C dL_runs_224 mK_L_189 ?_
                            refine aw_ic_ne C dL_runs_226 301 (by decide) hw (fun hc226 hw => ?_) (fun hc226 hw => ?_)
                            · exact hw.elim
                            · refine aw_aloadn C dL_runs_229 rfl ?_
                              refine aw_iload C dL_runs_230 rfl ?_
                              refine aw_runF (mc := 1) (ms := 6) (t9 := 50) (m9 := 4) (rest := []) C (sA_50 shOK_B) (run_W (na := 2) C dL_runs_232 (t_L_start_B hlf x4 _ _ hw) mM_L_185 mW_start mT_start mI_L (by decide +kernel) rfl ⟨Nat.le_of_ble_eq_true rfl, Nat.le_of_ble_eq_true rfl, by show _ ≤ 1096; omega, by show _ ≤ 6614; omega⟩ [] rfl (Nat.le_of_ble_eq_true rfl)) ⟨by decide, by decide, by decide, by decide, by decide, trivial⟩ trivial (fun r232 ad_28 s232 G29x hEad_28 hq => ?_)
                              obtain ⟨v30, rfl, rfl, hw⟩ := hq
                              refine ⟨(sA_50 shOK_B), ?_⟩
                              obtain ⟨G29, eG29, hw⟩ := hw
                              rw [← eG29]
                              have hFad_28 : (∀ j, j < 145 → ¬ j = 50 → ad_28 j = ad j) := fun j hj hn => (hEad_28 j (ltBB hj)).trans (hFad_25 j hj hn)
                              refine aw_ldc (v := (-1000003)) C dL_runs_235 mK_L_24 ?_
                              refine aw_ic_ne C dL_runs_237 301 (by decide) hw (fun hc237 hw => ?_) (fun hc237 hw => ?_)
                              · exact hw.elim
                              · refine aw_aloadn C dL_runs_240 rfl ?_
                                refine aw_iload C dL_runs_241 rfl ?_
                                refine aw_runF (mc := 1) (ms := 6) (t9 := 50) (m9 := 4) (rest := []) C (sA_50 shOK_B) (run_W (na := 2) C dL_runs_243 (t_L_run_B hlf x4 _ _ hw) mM_L_183 mW_run mT_run mI_L (by decide +kernel) rfl ⟨Nat.le_of_ble_eq_true rfl, Nat.le_of_ble_eq_true rfl, by show _ ≤ 1096; omega, by show _ ≤ 6614; omega⟩ [] rfl (Nat.le_of_ble_eq_true rfl)) ⟨by decide, by decide, by decide, by decide, by decide, trivial⟩ trivial (fun r243 ad_31 s243 G32x hEad_31 hq => ?_)
                                obtain ⟨v33, rfl, rfl, hw⟩ := hq
                                refine ⟨(sA_50 shOK_B), ?_⟩
                                obtain ⟨G32, eG32, hw⟩ := hw
                                rw [← eG32]
                                have hFad_31 : (∀ j, j < 145 → ¬ j = 50 → ad_31 j = ad j) := fun j hj hn => (hEad_31 j (ltBB hj)).trans (hFad_28 j hj hn)
                                refine aw_ldc (v := (-1000003)) C dL_runs_246 mK_L_24 ?_
                                refine aw_ic_ne C dL_runs_248 301 (by decide) hw (fun hc248 hw => ?_) (fun hc248 hw => ?_)
                                · exact hw.elim
                                · refine aw_aloadn C dL_runs_251 rfl ?_
                                  refine aw_iload C dL_runs_252 rfl ?_
                                  refine aw_runF (mc := 1) (ms := 6) (t9 := 50) (m9 := 4) (rest := []) C (sA_50 shOK_B) (run_W (na := 2) C dL_runs_254 (t_L_tried_B hlf x4 _ _ hw) mM_L_169 mW_tried mT_tried mI_L (by decide +kernel) rfl ⟨Nat.le_of_ble_eq_true rfl, Nat.le_of_ble_eq_true rfl, by show _ ≤ 1096; omega, by show _ ≤ 6614; omega⟩ [] rfl (Nat.le_of_ble_eq_true rfl)) ⟨by decide, by decide, by decide, by decide, by decide, trivial⟩ trivial (fun r254 ad_34 s254 G35x hEad_34 hq => ?_)
                                  obtain ⟨v36, rfl, rfl, hw⟩ := hq
                                  refine ⟨(sA_50 shOK_B), ?_⟩
                                  obtain ⟨G35, eG35, hw⟩ := hw
                                  rw [← eG35]
                                  have hFad_34 : (∀ j, j < 145 → ¬ j = 50 → ad_34 j = ad j) := fun j hj hn => (hEad_34 j (ltBB hj)).trans (hFad_31 j hj hn)
                                  refine aw_ldc (v := (-1000003)) C dL_runs_257 mK_L_24 ?_
                                  refine aw_ic_ne C dL_runs_259 301 (by decide) hw (fun hc259 hw => ?_) (fun hc259 hw => ?_)
                                  · exact hw.elim
                                  · refine aw_aloadn C dL_runs_262 rfl ?_
                                    refine aw_iconst (v := 0) C dL_runs_263 (by decide) ?_
                                    refine aw_iconst (v := 0) C dL_runs_264 (by decide) ?_
                                    refine aw_runF (mc := 1) (ms := 6) (t9 := 50) (m9 := 4) (rest := []) C (sA_50 shOK_B) (run_W (na := 3) C dL_runs_265 (t_L_setOption_B hlf 0 0 _ _ hw) mM_L_190 mW_setOption mT_setOption mI_L (by decide +kernel) rfl ⟨Nat.le_of_ble_eq_true rfl, Nat.le_of_ble_eq_true rfl, by show _ ≤ 1096; omega, by show _ ≤ 6614; omega⟩ [] rfl (Nat.le_of_ble_eq_true rfl)) ⟨by decide, by decide, by decide, by decide, by decide, trivial⟩ trivial (fun r265 ad_37 s265 G38x hEad_37 hq => ?_)
                                    obtain ⟨v39, rfl, rfl, hw⟩ := hq
                                    refine ⟨(sA_50 shOK_B), ?_⟩
                                    obtain ⟨G38, eG38, hw⟩ := hw
                                    rw [← eG38]
                                    have hFad_37 : (∀ j, j < 145 → ¬ j = 50 → ad_37 j = ad j) := fun j hj hn => (hEad_37 j (ltBB hj)).trans (hFad_34 j hj hn)
                                    refine aw_ldc (v := (-1000003)) C dL_runs_268 mK_L_24 ?_
                                    refine aw_ic_ne C dL_runs_270 301 (by decide) hw (fun hc270 hw => ?_) (fun hc270 hw => ?_)
                                    · exact hw.elim
                                    · refine aw_aloadn C dL_runs_273 rfl ?_
                                      refine aw_iconst (v := 0) C dL_runs_274 (by decide) ?_
                                      refine aw_iconst (v := 0) C dL_runs_275 (by decide) ?_
                                      refine aw_runF (mc := 1) (ms := 6) (t9 := 50) (m9 := 4) (rest := []) C (sA_50 shOK_B) (run_W (na := 3) C dL_runs_276 (t_L_write_B hlf 0 0 _ _ hw) mM_L_192 mW_write mT_write mI_L (by decide +kernel) rfl ⟨Nat.le_of_ble_eq_true rfl, Nat.le_of_ble_eq_true rfl, by show _ ≤ 1096; omega, by show _ ≤ 6614; omega⟩ [] rfl (Nat.le_of_ble_eq_true rfl)) ⟨by decide, by decide, by decide, by decide, by decide, trivial⟩ trivial (fun r276 ad_40 s276 G41x hEad_40 hq => ?_)
                                      obtain ⟨v42, rfl, rfl, hw⟩ := hq
                                      refine ⟨(sA_50 shOK_B), ?_⟩
                                      obtain ⟨G41, eG41, hw⟩ := hw
                                      rw [← eG41]
                                      have hFad_40 : (∀ j, j < 145 → ¬ j = 50 → ad_40 j = ad j) := fun j hj hn => (hEad_40 j (ltBB hj)).trans (hFad_37 j hj hn)
                                      refine aw_ldc (v := (-1000003)) C dL_runs_279 mK_L_24 ?_
                                      refine aw_ic_ne C dL_runs_281 301 (by decide) hw (fun hc281 hw => ?_) (fun hc281 hw => ?_)
                                      · exact hw.elim
                                      · refine aw_aloadn C dL_runs_284 rfl ?_
                                        refine aw_iconst (v := 0) C dL_runs_285 (by decide) ?_
                                        refine aw_iconst (v := 0) C dL_runs_286 (by decide) ?_
                                        refine aw_iconst (v := 0) C dL_runs_287 (by decide) ?_
                                        refine aw_iconst (v := (-1)) C dL_runs_288 (by decide) ?_
                                        refine aw_runF (mc := 1) (ms := 6) (t9 := 50) (m9 := 4) (rest := []) C (sA_50 shOK_B) (run_W (na := 5) C dL_runs_289 (t_L_define_B hlf 0 0 0 (-1) _ _ hw) mM_L_194 mW_define mT_define mI_L (by decide +kernel) rfl ⟨Nat.le_of_ble_eq_true rfl, Nat.le_of_ble_eq_true rfl, by show _ ≤ 1096; omega, by show _ ≤ 6614; omega⟩ [] rfl (Nat.le_of_ble_eq_true rfl)) ⟨by decide, by decide, by decide, by decide, by decide, trivial⟩ trivial (fun r289 ad_43 s289 G44x hEad_43 hq => ?_)
                                        obtain ⟨v45, rfl, rfl, hw⟩ := hq
                                        refine ⟨(sA_50 shOK_B), ?_⟩
                                        obtain ⟨G44, eG44, hw⟩ := hw
                                        rw [← eG44]
                                        have hFad_43 : (∀ j, j < 145 → ¬ j = 50 → ad_43 j = ad j) := fun j hj hn => (hEad_43 j (ltBB hj)).trans (hFad_40 j hj hn)
                                        refine aw_ldc (v := (-1000003)) C dL_runs_292 mK_L_24 ?_
                                        refine aw_ic_ne C dL_runs_294 301 (by decide) hw (fun hc294 hw => ?_) (fun hc294 hw => ?_)
                                        · exact hw.elim
                                        · refine aw_iconst (v := 1) C dL_runs_297 (by decide) ?_
                                          refine aw_goto (tgt := 302) C dL_runs_298 (by decide) ?_
                                          refine aw_istore C dL_runs_302 (by decide) rfl ?_
                                          obtain ⟨f0, hf0, hw⟩ := hw
                                          exact aw_msk [true, true, true, true, false, false, true, false, true, true, true, true, false] (h304 f0 ad_43 _ _ x6 x9 x10 0 _ hFad_43 (by omega) (by omega) hw)
                    · refine aw_iload C dL_runs_167 rfl ?_
                      refine aw_if_eq (X := True) (Y := True) C dL_runs_169 187 (by decide) ⟨fun _ => trivial, fun _ => trivial⟩ (fun hx _ => ?_) (fun hx _ => ?_)
                      · exact (show False by revert hx; decide).elim
                      · refine aw_aloadn C dL_runs_172 rfl ?_
                        refine aw_iload C dL_runs_173 rfl ?_
                        refine aw_runF (mc := 1) (ms := 6) (t9 := 50) (m9 := 4) (rest := []) C (sA_50 shOK_B) (run_W (na := 2) C dL_runs_175 (t_L_run_B hlf x4 _ _ hw) mM_L_183 mW_run mT_run mI_L (by decide +kernel) rfl ⟨Nat.le_of_ble_eq_true rfl, Nat.le_of_ble_eq_true rfl, by show _ ≤ 1096; omega, by show _ ≤ 6614; omega⟩ [] rfl (Nat.le_of_ble_eq_true rfl)) ⟨by decide, by decide, by decide, by decide, by decide, trivial⟩ trivial (fun r175 ad_84 s175 G85x hEad_84 hq => ?_)
                        obtain ⟨v86, rfl, rfl, hw⟩ := hq
                        refine ⟨(sA_50 shOK_B), ?_⟩
                        obtain ⟨G85, eG85, hw⟩ := hw
                        rw [← eG85]
                        have hFad_84 : (∀ j, j < 145 → ¬ j = 50 → ad_84 j = ad j) := fun j hj hn => (hEad_84 j (ltBB hj)).trans (hFad_17 j hj hn)
                        refine aw_iload C dL_runs_178 rfl ?_
                        refine aw_ic_ne C dL_runs_180 187 (by decide) hw (fun hc180 hw => ?_) (fun hc180 hw => ?_)
                        · exact hw.elim
                        · refine aw_iconst (v := 1) C dL_runs_183 (by decide) ?_
                          refine aw_goto (tgt := 188) C dL_runs_184 (by decide) ?_
                          refine aw_istore C dL_runs_188 (by decide) rfl ?_
                          refine aw_goto (tgt := 427) C dL_runs_190 (by decide) ?_
                          exact aw_msk [true, true, true, true, false, false, false, false, true, true, true, false, false] (h427 ad_84 _ _ x9 x10 _ hFad_84 (by omega) (by omega) hw)
      · refine aw_iload C dL_runs_80 rfl ?_
        refine aw_if_eq (X := True) (Y := True) C dL_runs_82 103 (by decide) ⟨fun _ => trivial, fun _ => trivial⟩ (fun hx _ => ?_) (fun hx _ => ?_)
        · exact (show False by revert hx; decide).elim
        · refine aw_aloadn C dL_runs_85 rfl ?_
          refine aw_iload C dL_runs_86 rfl ?_
          refine aw_runF (mc := 1) (ms := 6) (t9 := 50) (m9 := 4) (rest := []) C (sA_50 shOK_B) (run_W (na := 2) C dL_runs_88 (t_L_register_B hlf x11 _ _ hw) mM_L_167 mW_register mT_register mI_L (by decide +kernel) rfl ⟨Nat.le_of_ble_eq_true rfl, Nat.le_of_ble_eq_true rfl, by show _ ≤ 1096; omega, by show _ ≤ 6614; omega⟩ [] rfl (Nat.le_of_ble_eq_true rfl)) ⟨by decide, by decide, by decide, by decide, by decide, trivial⟩ trivial (fun r88 ad_87 s88 G88x hEad_87 hq => ?_)
          obtain ⟨v89, rfl, rfl, hw⟩ := hq
          refine ⟨(sA_50 shOK_B), ?_⟩
          obtain ⟨G88, eG88, hw⟩ := hw
          rw [← eG88]
          have hFad_87 : (∀ j, j < 145 → ¬ j = 50 → ad_87 j = ad j) := fun j hj hn => (hEad_87 j (ltBB hj)).trans (hF j hj hn)
          refine aw_aload C dL_runs_91 rfl ?_
          refine aw_iload C dL_runs_93 rfl ?_
          refine aw_iald C dL_runs_95 (set_eq' (sA_50 shOK_B)) hw.1 ?_
          replace hw := hw.2
          refine aw_ic_ne C dL_runs_96 103 (by decide) hw (fun hc96 hw => ?_) (fun hc96 hw => ?_)
          · exact hw.elim
          · refine aw_iconst (v := 1) C dL_runs_99 (by decide) ?_
            refine aw_goto (tgt := 104) C dL_runs_100 (by decide) ?_
            refine aw_istore C dL_runs_104 (by decide) rfl ?_
            refine aw_iinc (w := (x11 + 1)) C dL_runs_106 rfl rfl (by decide) rfl ?_
            refine aw_goto (tgt := 74) C dL_runs_109 (by decide) ?_
            exact aw_msk [true, true, true, true, true, true, true, true, true, true, true, true, false] (ih74 ad_87 _ _ x4 x5 x6 x9 x10 (x11 + 1) _ hFad_87 (by omega) (by omega) hw)
  have h32 : ∀ (f32 : Nat) (ad1 : Nat → Nat) (k n : Nat) (x4 : Int32) (x5 : Int32) (x6 : Int32) (x9 : Int32) (G0 : Gt), (∀ j, j < 145 → ¬ j = 50 → ad1 j = ad j) → k + 1 * f32 + 854 ≤ 1096 → n + 6 * f32 + 5164 ≤ 6614 → w_L_runs_B_h32 K f32 x4 x5 x6 x9 G0 → aw p l e { frames := 10, cells := 1096, slots := 6614, locals := 218 } s m args below meth c 13 D tA A (MQ below (QL D tA ad A shB (fun r s' G' => r = some (.int 1) ∧ K s' G')) args s 1096 6614 A) k n ad1 32 [some (.ref 0), some (.ref 47), some (.ref 48), some (.ref 49), some (.int x4), some (.int x5), some (.int x6), some (.ref 50), some (.int 1), some (.int x9), none, none, none] [] (shB.set 50 (.inl (0, 4))) G0 := by
    intro f32
    induction f32 with
    | zero => intro ad1 k n x4 x5 x6 x9 G0 hF hk hn hw; exact hw.elim
    | succ f32 ih32 =>
      intro ad1 k n x4 x5 x6 x9 G0 hF hk hn hw
      rw [w_L_runs_B_h32] at hw
      refine aw_iload C dL_runs_32 rfl ?_
      refine aw_iconst (v := 4) C dL_runs_34 (by decide) ?_
      refine aw_ic_ge C dL_runs_35 55 (by decide) hw (fun hc35 hw => ?_) (fun hc35 hw => ?_)
      · refine aw_aloadn C dL_runs_55 rfl ?_
        refine aw_iload C dL_runs_56 rfl ?_
        refine aw_runF (mc := 1) (ms := 6) (t9 := 50) (m9 := 4) (rest := []) C (sA_50 shOK_B) (run_W (na := 2) C dL_runs_58 (t_L_tried_B hlf x4 _ _ hw) mM_L_169 mW_tried mT_tried mI_L (by decide +kernel) rfl ⟨Nat.le_of_ble_eq_true rfl, Nat.le_of_ble_eq_true rfl, by show _ ≤ 1096; omega, by show _ ≤ 6614; omega⟩ [] rfl (Nat.le_of_ble_eq_true rfl)) ⟨by decide, by decide, by decide, by decide, by decide, trivial⟩ trivial (fun r58 ad_7 s58 G8x hEad_7 hq => ?_)
        obtain ⟨v9, rfl, rfl, hw⟩ := hq
        refine ⟨(sA_50 shOK_B), ?_⟩
        obtain ⟨G8, eG8, hw⟩ := hw
        rw [← eG8]
        have hFad_7 : (∀ j, j < 145 → ¬ j = 50 → ad_7 j = ad j) := fun j hj hn => (hEad_7 j (ltBB hj)).trans (hF j hj hn)
        refine aw_istore C dL_runs_61 (by decide) rfl ?_
        refine aw_aloadn C dL_runs_63 rfl ?_
        refine aw_iload C dL_runs_64 rfl ?_
        refine aw_runF (mc := 1) (ms := 6) (t9 := 50) (m9 := 4) (rest := []) C (sA_50 shOK_B) (run_W (na := 2) C dL_runs_66 (t_L_triedSteps_B hlf x4 _ _ hw) mM_L_171 mW_triedSteps mT_triedSteps mI_L (by decide +kernel) rfl ⟨Nat.le_of_ble_eq_true rfl, Nat.le_of_ble_eq_true rfl, by show _ ≤ 1096; omega, by show _ ≤ 6614; omega⟩ [] rfl (Nat.le_of_ble_eq_true rfl)) ⟨by decide, by decide, by decide, by decide, by decide, trivial⟩ trivial (fun r66 ad_10 s66 G11x hEad_10 hq => ?_)
        obtain ⟨v12, rfl, rfl, hw⟩ := hq
        refine ⟨(sA_50 shOK_B), ?_⟩
        obtain ⟨G11, eG11, hw⟩ := hw
        rw [← eG11]
        have hFad_10 : (∀ j, j < 145 → ¬ j = 50 → ad_10 j = ad j) := fun j hj hn => (hEad_10 j (ltBB hj)).trans (hFad_7 j hj hn)
        refine aw_istore C dL_runs_69 (by decide) rfl ?_
        refine aw_iconst (v := 0) C dL_runs_71 (by decide) ?_
        refine aw_istore C dL_runs_72 (by decide) rfl ?_
        obtain ⟨f0, hf0, hw⟩ := hw
        exact aw_msk [true, true, true, true, true, true, true, true, true, true, true, true, false] (h74 f0 ad_10 _ _ x4 x5 x6 v9 v12 0 _ hFad_10 (by omega) (by omega) hw)
      · refine aw_aload C dL_runs_38 rfl ?_
        refine aw_iload C dL_runs_40 rfl ?_
        refine aw_aloadn C dL_runs_42 rfl ?_
        refine aw_iload C dL_runs_43 rfl ?_
        refine aw_runF (mc := 1) (ms := 6) (t9 := 50) (m9 := 4) (rest := [.int x9, .ref 50]) C (sA_50 shOK_B) (run_W (na := 2) C dL_runs_45 (t_L_register_B hlf x9 _ _ hw) mM_L_167 mW_register mT_register mI_L (by decide +kernel) rfl ⟨Nat.le_of_ble_eq_true rfl, Nat.le_of_ble_eq_true rfl, by show _ ≤ 1096; omega, by show _ ≤ 6614; omega⟩ [.int x9, .ref 50] rfl (Nat.le_of_ble_eq_true rfl)) ⟨by decide, by decide, by decide, by decide, by decide, trivial⟩ ⟨by decide, trivial⟩ (fun r45 ad_90 s45 G91x hEad_90 hq => ?_)
        obtain ⟨v92, rfl, rfl, hw⟩ := hq
        refine ⟨(sA_50 shOK_B), ?_⟩
        obtain ⟨G91, eG91, hw⟩ := hw
        rw [← eG91]
        have hFad_90 : (∀ j, j < 145 → ¬ j = 50 → ad_90 j = ad j) := fun j hj hn => (hEad_90 j (ltBB hj)).trans (hF j hj hn)
        refine aw_iast C dL_runs_48 (set_eq' (sA_50 shOK_B)) hw.1 hw.2 (fun G93 hw => ?_)
        refine aw_iinc (w := (x9 + 1)) C dL_runs_49 rfl rfl (by decide) rfl ?_
        refine aw_goto (tgt := 32) C dL_runs_52 (by decide) ?_
        exact aw_msk [true, true, true, true, true, true, true, true, true, true, false, false, false] (ih32 ad_90 _ _ x4 x5 x6 (x9 + 1) _ hFad_90 (by omega) (by omega) hw)
  unfold w_L_runs_B at hw
  show aw p l e { frames := 10, cells := 1096, slots := 6614, locals := 218 } s m args below meth c 13 D tA A (MQ below (QL D tA ad A shB (fun r s' G' => r = some (.int 1) ∧ K s' G')) args s 1096 6614 A) 0 0 ad 0 [some (.ref 0), some (.ref 47), some (.ref 48), some (.ref 49), some (.int p4), some (.int p5), some (.int p6), none, none, none, none, none, none] [] shB G0
  refine aw_iconst (v := 4) C dL_runs_0 (by decide) ?_
  refine aw_newP (t9 := 50) (m9 := 4) C dL_runs_1 mA_int rfl (by decide) (sA_50 shOK_B) (by decide +kernel) (by simp) (by show _ ≤ 1096; omega) (by show _ ≤ 6614; omega) (fun ad_2 hEad_2 => ?_)
  have hFad_2 : (∀ j, j < 145 → ¬ j = 50 → ad_2 j = ad j) := fun j hj hn => hEad_2 j hn
  obtain ⟨G1, eG1, hw⟩ := hw
  rw [← eG1]
  refine aw_astore C dL_runs_3 (by decide) rfl ?_
  refine aw_aloadn C dL_runs_5 rfl ?_
  refine aw_aloadn C dL_runs_6 rfl ?_
  refine aw_runF (mc := 41) (ms := 246) (t9 := 50) (m9 := 4) (rest := []) C (sA_50 shOK_B) (run_S C dL_runs_7 (t_L_notes_B hlf _ _ hw) mM_L_135 bL_notes rfl rfl ⟨Nat.le_of_ble_eq_true rfl, Nat.le_of_ble_eq_true rfl, by show _ ≤ 1096; omega, by show _ ≤ 6614; omega⟩ [] rfl (Nat.le_of_ble_eq_true rfl)) ⟨by decide, by decide, by decide, by decide, by decide, trivial⟩ trivial (fun r7 ad_3 s7 G4x hEad_3 hq => ?_)
  obtain ⟨rfl, rfl, hw⟩ := hq
  refine ⟨(sA_50 shOK_B), ?_⟩
  obtain ⟨G4, eG4, hw⟩ := hw
  rw [← eG4]
  have hFad_3 : (∀ j, j < 145 → ¬ j = 50 → ad_3 j = ad j) := fun j hj hn => (hEad_3 j (ltBB hj)).trans (hFad_2 j hj hn)
  refine aw_if_eq (X := True) (Y := True) C dL_runs_10 26 (by decide) ⟨fun _ => trivial, fun _ => trivial⟩ (fun hx _ => ?_) (fun hx _ => ?_)
  · exact (show False by revert hx; decide).elim
  · refine aw_aloadn C dL_runs_13 rfl ?_
    refine aw_aloadn C dL_runs_14 rfl ?_
    refine aw_iconst (v := 1) C dL_runs_15 (by decide) ?_
    refine aw_runF (mc := 195) (ms := 1170) (t9 := 50) (m9 := 4) (rest := []) C (sA_50 shOK_B) (run_S C dL_runs_16 (t_L_letters_B hlf 1 _ _ hw) mM_L_139 bL_letters rfl rfl ⟨Nat.le_of_ble_eq_true rfl, Nat.le_of_ble_eq_true rfl, by show _ ≤ 1096; omega, by show _ ≤ 6614; omega⟩ [] rfl (Nat.le_of_ble_eq_true rfl)) ⟨by decide, by decide, by decide, by decide, by decide, trivial⟩ trivial (fun r16 ad_5 s16 G6x hEad_5 hq => ?_)
    obtain ⟨rfl, rfl, hw⟩ := hq
    refine ⟨(sA_50 shOK_B), ?_⟩
    obtain ⟨G6, eG6, hw⟩ := hw
    rw [← eG6]
    have hFad_5 : (∀ j, j < 145 → ¬ j = 50 → ad_5 j = ad j) := fun j hj hn => (hEad_5 j (ltBB hj)).trans (hFad_3 j hj hn)
    refine aw_if_eq (X := True) (Y := True) C dL_runs_19 26 (by decide) ⟨fun _ => trivial, fun _ => trivial⟩ (fun hx _ => ?_) (fun hx _ => ?_)
    · exact (show False by revert hx; decide).elim
    · refine aw_iconst (v := 1) C dL_runs_22 (by decide) ?_
      refine aw_goto (tgt := 27) C dL_runs_23 (by decide) ?_
      refine aw_istore C dL_runs_27 (by decide) rfl ?_
      refine aw_iconst (v := 0) C dL_runs_29 (by decide) ?_
      refine aw_istore C dL_runs_30 (by decide) rfl ?_
      obtain ⟨f0, hf0, hw⟩ := hw
      exact aw_msk [true, true, true, true, true, true, true, true, true, true, false, false, false] (h32 f0 ad_5 _ _ p4 p5 p6 0 _ hFad_5 (by omega) (by omega) hw)
