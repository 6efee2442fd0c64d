def w_L_budgets_A_j145 (K : Sh → Gt → Prop) (G0 : Gt) : Prop :=
  w_L_setBudget_B (fun v21 s1 G20 => s1 = shB ∧
    pif (v21 = (-1000002)) (
      w_L_setBudget_B (fun v24 s1 G23 => s1 = shB ∧
        pif (v24 = (-1000002)) (
          K shB G23) (
          False)) 601 G20) (
      False)) 0 G0
def w_L_budgets_A (K : Sh → Gt → Prop) (p2 : Int32) (G0 : Gt) : Prop :=
  w_L_tried_A (fun v3 s1 G2 => s1 = shB ∧
    w_L_triedSteps_B (fun v6 s1 G5 => s1 = shB ∧
      w_L_setBudget_B (fun v9 s1 G8 => s1 = shB ∧
        vp_in 1 7 ∧
        pif (v9 = (G8 47 (1 : Int32).toNatClampNeg)) (
          w_L_tried_B (fun v12 s1 G11 => s1 = shB ∧
            pif (v12 = v3) (
              w_L_triedSteps_B (fun v15 s1 G14 => s1 = shB ∧
                pif (v15 = v6) (
                  pif (v6 ≤ 1) (
                    vp_in 1 7 ∧
                    w_L_setBudget_B (fun v18 s1 G17 => s1 = shB ∧
                      pif (v18 = v6) (
                        w_L_budgets_A_j145 K G17) (
                        False)) (G14 47 (1 : Int32).toNatClampNeg) G14) (
                    w_L_setBudget_B (fun v27 s1 G26 => s1 = shB ∧
                      pif (v27 = v6) (
                        w_L_tried_B (fun v30 s1 G29 => s1 = shB ∧
                          pif (v30 = 49993) (
                            w_L_triedSteps_B (fun v33 s1 G32 => s1 = shB ∧
                              pif (v33 = (v6 - 1)) (
                                vp_in 1 7 ∧
                                w_L_setBudget_B (fun v36 s1 G35 => s1 = shB ∧
                                  pif (v36 = (v6 - 1)) (
                                    w_L_budgets_A_j145 K G35) (
                                    False)) (G32 47 (1 : Int32).toNatClampNeg) G32) (
                                False)) p2 G29) (
                            False)) p2 G26) (
                        False)) (v6 - 1) G14)) (
                  False)) p2 G11) (
              False)) p2 G8) (
          False)) v6 G5) p2 G2) p2 G0
set_option maxHeartbeats 4000000 in
set_option maxRecDepth 100000 in
theorem t_L_budgets_A {l : Launch} (hlf : l.stackTraces = false) (p2 : Int32) (G0 : Gt) (K : Sh → Gt → Prop) (hw : w_L_budgets_A K p2 G0) : CV l yL_budgets cL_budgets 6 (some .boolean) 9 245 71 20765 [.ref 0, .ref 47, .int p2] shA G0 (fun r s' G' => r = some (.int 1) ∧ K s' G') := by
  refine CV_of (by decide) (Nat.le_of_ble_eq_true rfl) rfl ?_
  intro p e s m args below meth c D tA ad A C hr
  have hF0 : ∀ j, j < 84 → ad j = ad j := fun _ _ => rfl
  have h145 : ∀ (ad1 : Nat → Nat) (k n : Nat) (G0 : Gt), (∀ j, j < 84 → ad1 j = ad j) → k + 2 ≤ 71 → n + 12 ≤ 20765 → w_L_budgets_A_j145 K  G0 → aw p l e { frames := 9, cells := 71, slots := 20765, locals := 245 } s m args below meth c 6 D tA A (MQ below (QL D tA ad A shA (fun r s' G' => r = some (.int 1) ∧ K s' G')) args s 71 20765 A) k n ad1 145 [some (.ref 0), none, none, none, none, some (.int 1)] [] shB G0 := by
    intro ad1 k n  G0 hF hk hn hw
    unfold w_L_budgets_A_j145 at hw
    refine aw_iload C dL_budgets_145 rfl ?_
    refine aw_if_eq (X := True) (Y := True) C dL_budgets_147 176 (by decide) ⟨fun _ => trivial, fun _ => trivial⟩ (fun hx _ => ?_) (fun hx _ => ?_)
    · exact (show False by revert hx; decide).elim
    · refine aw_aloadn C dL_budgets_150 rfl ?_
      refine aw_iconst (v := 0) C dL_budgets_151 (by decide) ?_
      refine aw_runQ (mc := 1) (ms := 6) (rest := []) C (run_W (na := 2) C dL_budgets_152 (t_L_setBudget_B hlf 0 _ _ hw) mM_L_202 mW_setBudget mT_setBudget mI_L (by decide +kernel) rfl ⟨Nat.le_of_ble_eq_true rfl, Nat.le_of_ble_eq_true rfl, by show _ ≤ 71; omega, by show _ ≤ 20765; omega⟩ [] rfl (Nat.le_of_ble_eq_true rfl)) ⟨by decide, trivial⟩ trivial (fun r152 ad_19 s152 G20 hEad_19 hq => ?_)
      obtain ⟨v21, rfl, rfl, hw⟩ := hq
      have hFad_19 : (∀ j, j < 84 → ad_19 j = ad j) := fun j hj => (hEad_19 j (ltAB hj)).trans (hF j hj)
      refine aw_ldc (v := (-1000002)) C dL_budgets_155 mK_L_21 ?_
      refine aw_ic_ne C dL_budgets_157 176 (by decide) hw (fun hc157 hw => ?_) (fun hc157 hw => ?_)
      · exact hw.elim
      · refine aw_aloadn C dL_budgets_160 rfl ?_
        refine aw_sipush (v := 601) C dL_budgets_161 (by decide) ?_
        refine aw_runQ (mc := 1) (ms := 6) (rest := []) C (run_W (na := 2) C dL_budgets_164 (t_L_setBudget_B hlf 601 _ _ hw) mM_L_202 mW_setBudget mT_setBudget mI_L (by decide +kernel) rfl ⟨Nat.le_of_ble_eq_true rfl, Nat.le_of_ble_eq_true rfl, by show _ ≤ 71; omega, by show _ ≤ 20765; omega⟩ [] rfl (Nat.le_of_ble_eq_true rfl)) ⟨by decide, trivial⟩ trivial (fun r164 ad_22 s164 G23 hEad_22 hq => ?_)
        obtain ⟨v24, rfl, rfl, hw⟩ := hq
        have hFad_22 : (∀ j, j < 84 → ad_22 j = ad j) := fun j hj => (hEad_22 j (ltAB hj)).trans (hFad_19 j hj)
        refine aw_ldc (v := (-1000002)) C dL_budgets_167 mK_L_21 ?_
        refine aw_ic_ne C dL_budgets_169 176 (by decide) hw (fun hc169 hw => ?_) (fun hc169 hw => ?_)
        · exact hw.elim
        · refine aw_iconst (v := 1) C dL_budgets_172 (by decide) ?_
          refine aw_goto (tgt := 177) C dL_budgets_173 (by decide) ?_
          exact aw_lzreturn C hr dL_budgets_177 rfl (by omega) (by omega) (fun j hj => hFad_22 j (ltA_ hj)) ⟨rfl, hw⟩
  unfold w_L_budgets_A at hw
  show aw p l e { frames := 9, cells := 71, slots := 20765, locals := 245 } s m args below meth c 6 D tA A (MQ below (QL D tA ad A shA (fun r s' G' => r = some (.int 1) ∧ K s' G')) args s 71 20765 A) 0 0 ad 0 [some (.ref 0), some (.ref 47), some (.int p2), none, none, none] [] shA G0
  refine aw_aloadn C dL_budgets_0 rfl ?_
  refine aw_iloadn C dL_budgets_1 rfl ?_
  refine aw_runQ (mc := 61) (ms := 20705) (rest := []) C (run_W (na := 2) C dL_budgets_2 (t_L_tried_A hlf p2 _ _ hw) mM_L_169 mW_tried mT_tried mI_L (by decide +kernel) rfl ⟨Nat.le_of_ble_eq_true rfl, Nat.le_of_ble_eq_true rfl, by show _ ≤ 71; omega, by show _ ≤ 20765; omega⟩ [] rfl (Nat.le_of_ble_eq_true rfl)) ⟨by decide, by decide, trivial⟩ trivial (fun r2 ad_1 s2 G2 hEad_1 hq => ?_)
  obtain ⟨v3, rfl, rfl, hw⟩ := hq
  have hFad_1 : (∀ j, j < 84 → ad_1 j = ad j) := fun j hj => (hEad_1 j (ltAA hj)).trans (hF0 j hj)
  refine aw_istoren C dL_budgets_5 (by decide) rfl ?_
  refine aw_aloadn C dL_budgets_6 rfl ?_
  refine aw_iloadn C dL_budgets_7 rfl ?_
  refine aw_runQ (mc := 1) (ms := 6) (rest := []) C (run_W (na := 2) C dL_budgets_8 (t_L_triedSteps_B hlf p2 _ _ hw) mM_L_171 mW_triedSteps mT_triedSteps mI_L (by decide +kernel) rfl ⟨Nat.le_of_ble_eq_true rfl, Nat.le_of_ble_eq_true rfl, by show _ ≤ 71; omega, by show _ ≤ 20765; omega⟩ [] rfl (Nat.le_of_ble_eq_true rfl)) ⟨by decide, by decide, trivial⟩ trivial (fun r8 ad_4 s8 G5 hEad_4 hq => ?_)
  obtain ⟨v6, rfl, rfl, hw⟩ := hq
  have hFad_4 : (∀ j, j < 84 → ad_4 j = ad j) := fun j hj => (hEad_4 j (ltAB hj)).trans (hFad_1 j hj)
  refine aw_istore C dL_budgets_11 (by decide) rfl ?_
  refine aw_aloadn C dL_budgets_13 rfl ?_
  refine aw_iload C dL_budgets_14 rfl ?_
  refine aw_runQ (mc := 1) (ms := 6) (rest := []) C (run_W (na := 2) C dL_budgets_16 (t_L_setBudget_B hlf v6 _ _ hw) mM_L_202 mW_setBudget mT_setBudget mI_L (by decide +kernel) rfl ⟨Nat.le_of_ble_eq_true rfl, Nat.le_of_ble_eq_true rfl, by show _ ≤ 71; omega, by show _ ≤ 20765; omega⟩ [] rfl (Nat.le_of_ble_eq_true rfl)) ⟨by decide, by decide, trivial⟩ trivial (fun r16 ad_7 s16 G8 hEad_7 hq => ?_)
  obtain ⟨v9, rfl, rfl, hw⟩ := hq
  have hFad_7 : (∀ j, j < 84 → ad_7 j = ad j) := fun j hj => (hEad_7 j (ltAB hj)).trans (hFad_4 j hj)
  refine aw_aloadn C dL_budgets_19 rfl ?_
  refine aw_iconst (v := 1) C dL_budgets_20 (by decide) ?_
  refine aw_iald C dL_budgets_21 (sA_47 shOK_B) hw.1 ?_
  replace hw := hw.2
  refine aw_ic_ne C dL_budgets_22 48 (by decide) hw (fun hc22 hw => ?_) (fun hc22 hw => ?_)
  · exact hw.elim
  · refine aw_aloadn C dL_budgets_25 rfl ?_
    refine aw_iloadn C dL_budgets_26 rfl ?_
    refine aw_runQ (mc := 1) (ms := 6) (rest := []) C (run_W (na := 2) C dL_budgets_27 (t_L_tried_B hlf p2 _ _ hw) mM_L_169 mW_tried mT_tried mI_L (by decide +kernel) rfl ⟨Nat.le_of_ble_eq_true rfl, Nat.le_of_ble_eq_true rfl, by show _ ≤ 71; omega, by show _ ≤ 20765; omega⟩ [] rfl (Nat.le_of_ble_eq_true rfl)) ⟨by decide, by decide, trivial⟩ trivial (fun r27 ad_10 s27 G11 hEad_10 hq => ?_)
    obtain ⟨v12, rfl, rfl, hw⟩ := hq
    have hFad_10 : (∀ j, j < 84 → ad_10 j = ad j) := fun j hj => (hEad_10 j (ltAB hj)).trans (hFad_7 j hj)
    refine aw_iloadn C dL_budgets_30 rfl ?_
    refine aw_ic_ne C dL_budgets_31 48 (by decide) hw (fun hc31 hw => ?_) (fun hc31 hw => ?_)
    · exact hw.elim
    · refine aw_aloadn C dL_budgets_34 rfl ?_
      refine aw_iloadn C dL_budgets_35 rfl ?_
      refine aw_runQ (mc := 1) (ms := 6) (rest := []) C (run_W (na := 2) C dL_budgets_36 (t_L_triedSteps_B hlf p2 _ _ hw) mM_L_171 mW_triedSteps mT_triedSteps mI_L (by decide +kernel) rfl ⟨Nat.le_of_ble_eq_true rfl, Nat.le_of_ble_eq_true rfl, by show _ ≤ 71; omega, by show _ ≤ 20765; omega⟩ [] rfl (Nat.le_of_ble_eq_true rfl)) ⟨by decide, by decide, trivial⟩ trivial (fun r36 ad_13 s36 G14 hEad_13 hq => ?_)
      obtain ⟨v15, rfl, rfl, hw⟩ := hq
      have hFad_13 : (∀ j, j < 84 → ad_13 j = ad j) := fun j hj => (hEad_13 j (ltAB hj)).trans (hFad_10 j hj)
      refine aw_iload C dL_budgets_39 rfl ?_
      refine aw_ic_ne C dL_budgets_41 48 (by decide) hw (fun hc41 hw => ?_) (fun hc41 hw => ?_)
      · exact hw.elim
      · refine aw_iconst (v := 1) C dL_budgets_44 (by decide) ?_
        refine aw_goto (tgt := 49) C dL_budgets_45 (by decide) ?_
        refine aw_istore C dL_budgets_49 (by decide) rfl ?_
        refine aw_iload C dL_budgets_51 rfl ?_
        refine aw_iconst (v := 1) C dL_budgets_53 (by decide) ?_
        refine aw_ic_le C dL_budgets_54 121 (by decide) hw (fun hc54 hw => ?_) (fun hc54 hw => ?_)
        · refine aw_iload C dL_budgets_121 rfl ?_
          refine aw_if_eq (X := True) (Y := True) C dL_budgets_123 142 (by decide) ⟨fun _ => trivial, fun _ => trivial⟩ (fun hx _ => ?_) (fun hx _ => ?_)
          · exact (show False by revert hx; decide).elim
          · refine aw_aloadn C dL_budgets_126 rfl ?_
            refine aw_aloadn C dL_budgets_127 rfl ?_
            refine aw_iconst (v := 1) C dL_budgets_128 (by decide) ?_
            refine aw_iald C dL_budgets_129 (sA_47 shOK_B) hw.1 ?_
            replace hw := hw.2
            refine aw_runQ (mc := 1) (ms := 6) (rest := []) C (run_W (na := 2) C dL_budgets_130 (t_L_setBudget_B hlf (G14 47 (1 : Int32).toNatClampNeg) _ _ hw) mM_L_202 mW_setBudget mT_setBudget mI_L (by decide +kernel) rfl ⟨Nat.le_of_ble_eq_true rfl, Nat.le_of_ble_eq_true rfl, by show _ ≤ 71; omega, by show _ ≤ 20765; omega⟩ [] rfl (Nat.le_of_ble_eq_true rfl)) ⟨by decide, by decide, trivial⟩ trivial (fun r130 ad_16 s130 G17 hEad_16 hq => ?_)
            obtain ⟨v18, rfl, rfl, hw⟩ := hq
            have hFad_16 : (∀ j, j < 84 → ad_16 j = ad j) := fun j hj => (hEad_16 j (ltAB hj)).trans (hFad_13 j hj)
            refine aw_iload C dL_budgets_133 rfl ?_
            refine aw_ic_ne C dL_budgets_135 142 (by decide) hw (fun hc135 hw => ?_) (fun hc135 hw => ?_)
            · exact hw.elim
            · refine aw_iconst (v := 1) C dL_budgets_138 (by decide) ?_
              refine aw_goto (tgt := 143) C dL_budgets_139 (by decide) ?_
              refine aw_istore C dL_budgets_143 (by decide) rfl ?_
              exact aw_msk [true, false, false, false, false, true] (h145 ad_16 _ _ _ hFad_16 (by omega) (by omega) hw)
        · refine aw_iload C dL_budgets_57 rfl ?_
          refine aw_if_eq (X := True) (Y := True) C dL_budgets_59 115 (by decide) ⟨fun _ => trivial, fun _ => trivial⟩ (fun hx _ => ?_) (fun hx _ => ?_)
          · exact (show False by revert hx; decide).elim
          · refine aw_aloadn C dL_budgets_62 rfl ?_
            refine aw_iload C dL_budgets_63 rfl ?_
            refine aw_iconst (v := 1) C dL_budgets_65 (by decide) ?_
            refine aw_isub C dL_budgets_66 ?_
            refine aw_runQ (mc := 1) (ms := 6) (rest := []) C (run_W (na := 2) C dL_budgets_67 (t_L_setBudget_B hlf (v6 - 1) _ _ hw) mM_L_202 mW_setBudget mT_setBudget mI_L (by decide +kernel) rfl ⟨Nat.le_of_ble_eq_true rfl, Nat.le_of_ble_eq_true rfl, by show _ ≤ 71; omega, by show _ ≤ 20765; omega⟩ [] rfl (Nat.le_of_ble_eq_true rfl)) ⟨by decide, by decide, trivial⟩ trivial (fun r67 ad_25 s67 G26 hEad_25 hq => ?_)
            obtain ⟨v27, rfl, rfl, hw⟩ := hq
            have hFad_25 : (∀ j, j < 84 → ad_25 j = ad j) := fun j hj => (hEad_25 j (ltAB hj)).trans (hFad_13 j hj)
            refine aw_iload C dL_budgets_70 rfl ?_
            refine aw_ic_ne C dL_budgets_72 115 (by decide) hw (fun hc72 hw => ?_) (fun hc72 hw => ?_)
            · exact hw.elim
            · refine aw_aloadn C dL_budgets_75 rfl ?_
              refine aw_iloadn C dL_budgets_76 rfl ?_
              refine aw_runQ (mc := 1) (ms := 6) (rest := []) C (run_W (na := 2) C dL_budgets_77 (t_L_tried_B hlf p2 _ _ hw) mM_L_169 mW_tried mT_tried mI_L (by decide +kernel) rfl ⟨Nat.le_of_ble_eq_true rfl, Nat.le_of_ble_eq_true rfl, by show _ ≤ 71; omega, by show _ ≤ 20765; omega⟩ [] rfl (Nat.le_of_ble_eq_true rfl)) ⟨by decide, by decide, trivial⟩ trivial (fun r77 ad_28 s77 G29 hEad_28 hq => ?_)
              obtain ⟨v30, rfl, rfl, hw⟩ := hq
              have hFad_28 : (∀ j, j < 84 → ad_28 j = ad j) := fun j hj => (hEad_28 j (ltAB hj)).trans (hFad_25 j hj)
              refine aw_ldc (v := 49993) C dL_budgets_80 mK_L_204 ?_
              refine aw_ic_ne C dL_budgets_82 115 (by decide) hw (fun hc82 hw => ?_) (fun hc82 hw => ?_)
              · exact hw.elim
              · refine aw_aloadn C dL_budgets_85 rfl ?_
                refine aw_iloadn C dL_budgets_86 rfl ?_
                refine aw_runQ (mc := 1) (ms := 6) (rest := []) C (run_W (na := 2) C dL_budgets_87 (t_L_triedSteps_B hlf p2 _ _ hw) mM_L_171 mW_triedSteps mT_triedSteps mI_L (by decide +kernel) rfl ⟨Nat.le_of_ble_eq_true rfl, Nat.le_of_ble_eq_true rfl, by show _ ≤ 71; omega, by show _ ≤ 20765; omega⟩ [] rfl (Nat.le_of_ble_eq_true rfl)) ⟨by decide, by decide, trivial⟩ trivial (fun r87 ad_31 s87 G32 hEad_31 hq => ?_)
                obtain ⟨v33, rfl, rfl, hw⟩ := hq
                have hFad_31 : (∀ j, j < 84 → ad_31 j = ad j) := fun j hj => (hEad_31 j (ltAB hj)).trans (hFad_28 j hj)
                refine aw_iload C dL_budgets_90 rfl ?_
                refine aw_iconst (v := 1) C dL_budgets_92 (by decide) ?_
                refine aw_isub C dL_budgets_93 ?_
                refine aw_ic_ne C dL_budgets_94 115 (by decide) hw (fun hc94 hw => ?_) (fun hc94 hw => ?_)
                · exact hw.elim
                · refine aw_aloadn C dL_budgets_97 rfl ?_
                  refine aw_aloadn C dL_budgets_98 rfl ?_
                  refine aw_iconst (v := 1) C dL_budgets_99 (by decide) ?_
                  refine aw_iald C dL_budgets_100 (sA_47 shOK_B) hw.1 ?_
                  replace hw := hw.2
                  refine aw_runQ (mc := 1) (ms := 6) (rest := []) C (run_W (na := 2) C dL_budgets_101 (t_L_setBudget_B hlf (G32 47 (1 : Int32).toNatClampNeg) _ _ hw) mM_L_202 mW_setBudget mT_setBudget mI_L (by decide +kernel) rfl ⟨Nat.le_of_ble_eq_true rfl, Nat.le_of_ble_eq_true rfl, by show _ ≤ 71; omega, by show _ ≤ 20765; omega⟩ [] rfl (Nat.le_of_ble_eq_true rfl)) ⟨by decide, by decide, trivial⟩ trivial (fun r101 ad_34 s101 G35 hEad_34 hq => ?_)
                  obtain ⟨v36, rfl, rfl, hw⟩ := hq
                  have hFad_34 : (∀ j, j < 84 → ad_34 j = ad j) := fun j hj => (hEad_34 j (ltAB hj)).trans (hFad_31 j hj)
                  refine aw_iload C dL_budgets_104 rfl ?_
                  refine aw_iconst (v := 1) C dL_budgets_106 (by decide) ?_
                  refine aw_isub C dL_budgets_107 ?_
                  refine aw_ic_ne C dL_budgets_108 115 (by decide) hw (fun hc108 hw => ?_) (fun hc108 hw => ?_)
                  · exact hw.elim
                  · refine aw_iconst (v := 1) C dL_budgets_111 (by decide) ?_
                    refine aw_goto (tgt := 116) C dL_budgets_112 (by decide) ?_
                    refine aw_istore C dL_budgets_116 (by decide) rfl ?_
                    refine aw_goto (tgt := 145) C dL_budgets_118 (by decide) ?_
                    exact aw_msk [true, false, false, false, false, true] (h145 ad_34 _ _ _ hFad_34 (by omega) (by omega) hw)
def w_L_budgets_B_j145 (K : Sh → Gt → Prop) (G0 : Gt) : Prop :=
  w_L_setBudget_B (fun v21 s1 G20 => s1 = shB ∧
    pif (v21 = (-1000002)) (
      w_L_setBudget_B (fun v24 s1 G23 => s1 = shB ∧
        pif (v24 = (-1000002)) (
          K shB G23) (
          False)) 601 G20) (
      False)) 0 G0
def w_L_budgets_B (K : Sh → Gt → Prop) (p2 : Int32) (G0 : Gt) : Prop :=
  w_L_tried_B (fun v3 s1 G2 => s1 = shB ∧
    w_L_triedSteps_B (fun v6 s1 G5 => s1 = shB ∧
      w_L_setBudget_B (fun v9 s1 G8 => s1 = shB ∧
        vp_in 1 7 ∧
        pif (v9 = (G8 47 (1 : Int32).toNatClampNeg)) (
          w_L_tried_B (fun v12 s1 G11 => s1 = shB ∧
            pif (v12 = v3) (
              w_L_triedSteps_B (fun v15 s1 G14 => s1 = shB ∧
                pif (v15 = v6) (
                  pif (v6 ≤ 1) (
                    vp_in 1 7 ∧
                    w_L_setBudget_B (fun v18 s1 G17 => s1 = shB ∧
                      pif (v18 = v6) (
                        w_L_budgets_B_j145 K G17) (
                        False)) (G14 47 (1 : Int32).toNatClampNeg) G14) (
                    w_L_setBudget_B (fun v27 s1 G26 => s1 = shB ∧
                      pif (v27 = v6) (
                        w_L_tried_B (fun v30 s1 G29 => s1 = shB ∧
                          pif (v30 = 49993) (
                            w_L_triedSteps_B (fun v33 s1 G32 => s1 = shB ∧
                              pif (v33 = (v6 - 1)) (
                                vp_in 1 7 ∧
                                w_L_setBudget_B (fun v36 s1 G35 => s1 = shB ∧
                                  pif (v36 = (v6 - 1)) (
                                    w_L_budgets_B_j145 K G35) (
                                    False)) (G32 47 (1 : Int32).toNatClampNeg) G32) (
                                False)) p2 G29) (
                            False)) p2 G26) (
                        False)) (v6 - 1) G14)) (
                  False)) p2 G11) (
              False)) p2 G8) (
          False)) v6 G5) p2 G2) p2 G0
set_option maxHeartbeats 4000000 in
set_option maxRecDepth 100000 in
theorem t_L_budgets_B {l : Launch} (hlf : l.stackTraces = false) (p2 : Int32) (G0 : Gt) (K : Sh → Gt → Prop) (hw : w_L_budgets_B K p2 G0) : CV l yL_budgets cL_budgets 6 (some .boolean) 9 218 11 66 [.ref 0, .ref 47, .int p2] shB G0 (fun r s' G' => r = some (.int 1) ∧ K s' G') := by
  refine CV_of (by decide) (Nat.le_of_ble_eq_true rfl) rfl ?_
  intro p e s m args below meth c D tA ad A C hr
  have hF0 : ∀ j, j < 145 → ad j = ad j := fun _ _ => rfl
  have h145 : ∀ (ad1 : Nat → Nat) (k n : Nat) (G0 : Gt), (∀ j, j < 145 → ad1 j = ad j) → k + 2 ≤ 11 → n + 12 ≤ 66 → w_L_budgets_B_j145 K  G0 → aw p l e { frames := 9, cells := 11, slots := 66, locals := 218 } s m args below meth c 6 D tA A (MQ below (QL D tA ad A shB (fun r s' G' => r = some (.int 1) ∧ K s' G')) args s 11 66 A) k n ad1 145 [some (.ref 0), none, none, none, none, some (.int 1)] [] shB G0 := by
    intro ad1 k n  G0 hF hk hn hw
    unfold w_L_budgets_B_j145 at hw
    refine aw_iload C dL_budgets_145 rfl ?_
    refine aw_if_eq (X := True) (Y := True) C dL_budgets_147 176 (by decide) ⟨fun _ => trivial, fun _ => trivial⟩ (fun hx _ => ?_) (fun hx _ => ?_)
    · exact (show False by revert hx; decide).elim
    · refine aw_aloadn C dL_budgets_150 rfl ?_
      refine aw_iconst (v := 0) C dL_budgets_151 (by decide) ?_
      refine aw_runQ (mc := 1) (ms := 6) (rest := []) C (run_W (na := 2) C dL_budgets_152 (t_L_setBudget_B hlf 0 _ _ hw) mM_L_202 mW_setBudget mT_setBudget mI_L (by decide +kernel) rfl ⟨Nat.le_of_ble_eq_true rfl, Nat.le_of_ble_eq_true rfl, by show _ ≤ 11; omega, by show _ ≤ 66; omega⟩ [] rfl (Nat.le_of_ble_eq_true rfl)) ⟨by decide, trivial⟩ trivial (fun r152 ad_19 s152 G20 hEad_19 hq => ?_)
      obtain ⟨v21, rfl, rfl, hw⟩ := hq
      have hFad_19 : (∀ j, j < 145 → ad_19 j = ad j) := fun j hj => (hEad_19 j (ltBB hj)).trans (hF j hj)
      refine aw_ldc (v := (-1000002)) C dL_budgets_155 mK_L_21 ?_
      refine aw_ic_ne C dL_budgets_157 176 (by decide) hw (fun hc157 hw => ?_) (fun hc157 hw => ?_)
      · exact hw.elim
      · refine aw_aloadn C dL_budgets_160 rfl ?_
        refine aw_sipush (v := 601) C dL_budgets_161 (by decide) ?_
        refine aw_runQ (mc := 1) (ms := 6) (rest := []) C (run_W (na := 2) C dL_budgets_164 (t_L_setBudget_B hlf 601 _ _ hw) mM_L_202 mW_setBudget mT_setBudget mI_L (by decide +kernel) rfl ⟨Nat.le_of_ble_eq_true rfl, Nat.le_of_ble_eq_true rfl, by show _ ≤ 11; omega, by show _ ≤ 66; omega⟩ [] rfl (Nat.le_of_ble_eq_true rfl)) ⟨by decide, trivial⟩ trivial (fun r164 ad_22 s164 G23 hEad_22 hq => ?_)
        obtain ⟨v24, rfl, rfl, hw⟩ := hq
        have hFad_22 : (∀ j, j < 145 → ad_22 j = ad j) := fun j hj => (hEad_22 j (ltBB hj)).trans (hFad_19 j hj)
        refine aw_ldc (v := (-1000002)) C dL_budgets_167 mK_L_21 ?_
        refine aw_ic_ne C dL_budgets_169 176 (by decide) hw (fun hc169 hw => ?_) (fun hc169 hw => ?_)
        · exact hw.elim
        · refine aw_iconst (v := 1) C dL_budgets_172 (by decide) ?_
          refine aw_goto (tgt := 177) C dL_budgets_173 (by decide) ?_
          exact aw_lzreturn C hr dL_budgets_177 rfl (by omega) (by omega) (fun j hj => hFad_22 j (ltB_ hj)) ⟨rfl, hw⟩
  unfold w_L_budgets_B at hw
  show aw p l e { frames := 9, cells := 11, slots := 66, locals := 218 } s m args below meth c 6 D tA A (MQ below (QL D tA ad A shB (fun r s' G' => r = some (.int 1) ∧ K s' G')) args s 11 66 A) 0 0 ad 0 [some (.ref 0), some (.ref 47), some (.int p2), none, none, none] [] shB G0
  refine aw_aloadn C dL_budgets_0 rfl ?_
  refine aw_iloadn C dL_budgets_1 rfl ?_
  refine aw_runQ (mc := 1) (ms := 6) (rest := []) C (run_W (na := 2) C dL_budgets_2 (t_L_tried_B hlf p2 _ _ hw) mM_L_169 mW_tried mT_tried mI_L (by decide +kernel) rfl ⟨Nat.le_of_ble_eq_true rfl, Nat.le_of_ble_eq_true rfl, by show _ ≤ 11; omega, by show _ ≤ 66; omega⟩ [] rfl (Nat.le_of_ble_eq_true rfl)) ⟨by decide, by decide, trivial⟩ trivial (fun r2 ad_1 s2 G2 hEad_1 hq => ?_)
  obtain ⟨v3, rfl, rfl, hw⟩ := hq
  have hFad_1 : (∀ j, j < 145 → ad_1 j = ad j) := fun j hj => (hEad_1 j (ltBB hj)).trans (hF0 j hj)
  refine aw_istoren C dL_budgets_5 (by decide) rfl ?_
  refine aw_aloadn C dL_budgets_6 rfl ?_
  refine aw_iloadn C dL_budgets_7 rfl ?_
  refine aw_runQ (mc := 1) (ms := 6) (rest := []) C (run_W (na := 2) C dL_budgets_8 (t_L_triedSteps_B hlf p2 _ _ hw) mM_L_171 mW_triedSteps mT_triedSteps mI_L (by decide +kernel) rfl ⟨Nat.le_of_ble_eq_true rfl, Nat.le_of_ble_eq_true rfl, by show _ ≤ 11; omega, by show _ ≤ 66; omega⟩ [] rfl (Nat.le_of_ble_eq_true rfl)) ⟨by decide, by decide, trivial⟩ trivial (fun r8 ad_4 s8 G5 hEad_4 hq => ?_)
  obtain ⟨v6, rfl, rfl, hw⟩ := hq
  have hFad_4 : (∀ j, j < 145 → ad_4 j = ad j) := fun j hj => (hEad_4 j (ltBB hj)).trans (hFad_1 j hj)
  refine aw_istore C dL_budgets_11 (by decide) rfl ?_
  refine aw_aloadn C dL_budgets_13 rfl ?_
  refine aw_iload C dL_budgets_14 rfl ?_
  refine aw_runQ (mc := 1) (ms := 6) (rest := []) C (run_W (na := 2) C dL_budgets_16 (t_L_setBudget_B hlf v6 _ _ hw) mM_L_202 mW_setBudget mT_setBudget mI_L (by decide +kernel) rfl ⟨Nat.le_of_ble_eq_true rfl, Nat.le_of_ble_eq_true rfl, by show _ ≤ 11; omega, by show _ ≤ 66; omega⟩ [] rfl (Nat.le_of_ble_eq_true rfl)) ⟨by decide, by decide, trivial⟩ trivial (fun r16 ad_7 s16 G8 hEad_7 hq => ?_)
  obtain ⟨v9, rfl, rfl, hw⟩ := hq
  have hFad_7 : (∀ j, j < 145 → ad_7 j = ad j) := fun j hj => (hEad_7 j (ltBB hj)).trans (hFad_4 j hj)
  refine aw_aloadn C dL_budgets_19 rfl ?_
  refine aw_iconst (v := 1) C dL_budgets_20 (by decide) ?_
  refine aw_iald C dL_budgets_21 (sA_47 shOK_B) hw.1 ?_
  replace hw := hw.2
  refine aw_ic_ne C dL_budgets_22 48 (by decide) hw (fun hc22 hw => ?_) (fun hc22 hw => ?_)
  · exact hw.elim
  · refine aw_aloadn C dL_budgets_25 rfl ?_
    refine aw_iloadn C dL_budgets_26 rfl ?_
    refine aw_runQ (mc := 1) (ms := 6) (rest := []) C (run_W (na := 2) C dL_budgets_27 (t_L_tried_B hlf p2 _ _ hw) mM_L_169 mW_tried mT_tried mI_L (by decide +kernel) rfl ⟨Nat.le_of_ble_eq_true rfl, Nat.le_of_ble_eq_true rfl, by show _ ≤ 11; omega, by show _ ≤ 66; omega⟩ [] rfl (Nat.le_of_ble_eq_true rfl)) ⟨by decide, by decide, trivial⟩ trivial (fun r27 ad_10 s27 G11 hEad_10 hq => ?_)
    obtain ⟨v12, rfl, rfl, hw⟩ := hq
    have hFad_10 : (∀ j, j < 145 → ad_10 j = ad j) := fun j hj => (hEad_10 j (ltBB hj)).trans (hFad_7 j hj)
    refine aw_iloadn C dL_budgets_30 rfl ?_
    refine aw_ic_ne C dL_budgets_31 48 (by decide) hw (fun hc31 hw => ?_) (fun hc31 hw => ?_)
    · exact hw.elim
    · refine aw_aloadn C dL_budgets_34 rfl ?_
      refine aw_iloadn C dL_budgets_35 rfl ?_
      refine aw_runQ (mc := 1) (ms := 6) (rest := []) C (run_W (na := 2) C dL_budgets_36 (t_L_triedSteps_B hlf p2 _ _ hw) mM_L_171 mW_triedSteps mT_triedSteps mI_L (by decide +kernel) rfl ⟨Nat.le_of_ble_eq_true rfl, Nat.le_of_ble_eq_true rfl, by show _ ≤ 11; omega, by show _ ≤ 66; omega⟩ [] rfl (Nat.le_of_ble_eq_true rfl)) ⟨by decide, by decide, trivial⟩ trivial (fun r36 ad_13 s36 G14 hEad_13 hq => ?_)
      obtain ⟨v15, rfl, rfl, hw⟩ := hq
      have hFad_13 : (∀ j, j < 145 → ad_13 j = ad j) := fun j hj => (hEad_13 j (ltBB hj)).trans (hFad_10 j hj)
      refine aw_iload C dL_budgets_39 rfl ?_
      refine aw_ic_ne C dL_budgets_41 48 (by decide) hw (fun hc41 hw => ?_) (fun hc41 hw => ?_)
      · exact hw.elim
      · refine aw_iconst (v := 1) C dL_budgets_44 (by decide) ?_
        refine aw_goto (tgt := 49) C dL_budgets_45 (by decide) ?_
        refine aw_istore C dL_budgets_49 (by decide) rfl ?_
        refine aw_iload C dL_budgets_51 rfl ?_
        refine aw_iconst (v := 1) C dL_budgets_53 (by decide) ?_
        refine aw_ic_le C dL_budgets_54 121 (by decide) hw (fun hc54 hw => ?_) (fun hc54 hw => ?_)
        · refine aw_iload C dL_budgets_121 rfl ?_
          refine aw_if_eq (X := True) (Y := True) C dL_budgets_123 142 (by decide) ⟨fun _ => trivial, fun _ => trivial⟩ (fun hx _ => ?_) (fun hx _ => ?_)
          · exact (show False by revert hx; decide).elim
          · refine aw_aloadn C dL_budgets_126 rfl ?_
            refine aw_aloadn C dL_budgets_127 rfl ?_
            refine aw_iconst (v := 1) C dL_budgets_128 (by decide) ?_
            refine aw_iald C dL_budgets_129 (sA_47 shOK_B) hw.1 ?_
            replace hw := hw.2
            refine aw_runQ (mc := 1) (ms := 6) (rest := []) C (run_W (na := 2) C dL_budgets_130 (t_L_setBudget_B hlf (G14 47 (1 : Int32).toNatClampNeg) _ _ hw) mM_L_202 mW_setBudget mT_setBudget mI_L (by decide +kernel) rfl ⟨Nat.le_of_ble_eq_true rfl, Nat.le_of_ble_eq_true rfl, by show _ ≤ 11; omega, by show _ ≤ 66; omega⟩ [] rfl (Nat.le_of_ble_eq_true rfl)) ⟨by decide, by decide, trivial⟩ trivial (fun r130 ad_16 s130 G17 hEad_16 hq => ?_)
            obtain ⟨v18, rfl, rfl, hw⟩ := hq
            have hFad_16 : (∀ j, j < 145 → ad_16 j = ad j) := fun j hj => (hEad_16 j (ltBB hj)).trans (hFad_13 j hj)
            refine aw_iload C dL_budgets_133 rfl ?_
            refine aw_ic_ne C dL_budgets_135 142 (by decide) hw (fun hc135 hw => ?_) (fun hc135 hw => ?_)
            · exact hw.elim
            · refine aw_iconst (v := 1) C dL_budgets_138 (by decide) ?_
              refine aw_goto (tgt := 143) C dL_budgets_139 (by decide) ?_
              refine aw_istore C dL_budgets_143 (by decide) rfl ?_
              exact aw_msk [true, false, false, false, false, true] (h145 ad_16 _ _ _ hFad_16 (by omega) (by omega) hw)
        · refine aw_iload C dL_budgets_57 rfl ?_
          refine aw_if_eq (X := True) (Y := True) C dL_budgets_59 115 (by decide) ⟨fun _ => trivial, fun _ => trivial⟩ (fun hx _ => ?_) (fun hx _ => ?_)
          · exact (show False by revert hx; decide).elim
          · refine aw_aloadn C dL_budgets_62 rfl ?_
            refine aw_iload C dL_budgets_63 rfl ?_
            refine aw_iconst (v := 1) C dL_budgets_65 (by decide) ?_
            refine aw_isub C dL_budgets_66 ?_
            refine aw_runQ (mc := 1) (ms := 6) (rest := []) C (run_W (na := 2) C dL_budgets_67 (t_L_setBudget_B hlf (v6 - 1) _ _ hw) mM_L_202 mW_setBudget mT_setBudget mI_L (by decide +kernel) rfl ⟨Nat.le_of_ble_eq_true rfl, Nat.le_of_ble_eq_true rfl, by show _ ≤ 11; omega, by show _ ≤ 66; omega⟩ [] rfl (Nat.le_of_ble_eq_true rfl)) ⟨by decide, by decide, trivial⟩ trivial (fun r67 ad_25 s67 G26 hEad_25 hq => ?_)
            obtain ⟨v27, rfl, rfl, hw⟩ := hq
            have hFad_25 : (∀ j, j < 145 → ad_25 j = ad j) := fun j hj => (hEad_25 j (ltBB hj)).trans (hFad_13 j hj)
            refine aw_iload C dL_budgets_70 rfl ?_
            refine aw_ic_ne C dL_budgets_72 115 (by decide) hw (fun hc72 hw => ?_) (fun hc72 hw => ?_)
            · exact hw.elim
            · refine aw_aloadn C dL_budgets_75 rfl ?_
              refine aw_iloadn C dL_budgets_76 rfl ?_
              refine aw_runQ (mc := 1) (ms := 6) (rest := []) C (run_W (na := 2) C dL_budgets_77 (t_L_tried_B hlf p2 _ _ hw) mM_L_169 mW_tried mT_tried mI_L (by decide +kernel) rfl ⟨Nat.le_of_ble_eq_true rfl, Nat.le_of_ble_eq_true rfl, by show _ ≤ 11; omega, by show _ ≤ 66; omega⟩ [] rfl (Nat.le_of_ble_eq_true rfl)) ⟨by decide, by decide, trivial⟩ trivial (fun r77 ad_28 s77 G29 hEad_28 hq => ?_)
              obtain ⟨v30, rfl, rfl, hw⟩ := hq
              have hFad_28 : (∀ j, j < 145 → ad_28 j = ad j) := fun j hj => (hEad_28 j (ltBB hj)).trans (hFad_25 j hj)
              refine aw_ldc (v := 49993) C dL_budgets_80 mK_L_204 ?_
              refine aw_ic_ne C dL_budgets_82 115 (by decide) hw (fun hc82 hw => ?_) (fun hc82 hw => ?_)
              · exact hw.elim
              · refine aw_aloadn C dL_budgets_85 rfl ?_
                refine aw_iloadn C dL_budgets_86 rfl ?_
                refine aw_runQ (mc := 1) (ms := 6) (rest := []) C (run_W (na := 2) C dL_budgets_87 (t_L_triedSteps_B hlf p2 _ _ hw) mM_L_171 mW_triedSteps mT_triedSteps mI_L (by decide +kernel) rfl ⟨Nat.le_of_ble_eq_true rfl, Nat.le_of_ble_eq_true rfl, by show _ ≤ 11; omega, by show _ ≤ 66; omega⟩ [] rfl (Nat.le_of_ble_eq_true rfl)) ⟨by decide, by decide, trivial⟩ trivial (fun r87 ad_31 s87 G32 hEad_31 hq => ?_)
                obtain ⟨v33, rfl, rfl, hw⟩ := hq
                have hFad_31 : (∀ j, j < 145 → ad_31 j = ad j) := fun j hj => (hEad_31 j (ltBB hj)).trans (hFad_28 j hj)
                refine aw_iload C dL_budgets_90 rfl ?_
                refine aw_iconst (v := 1) C dL_budgets_92 (by decide) ?_
                refine aw_isub C dL_budgets_93 ?_
                refine aw_ic_ne C dL_budgets_94 115 (by decide) hw (fun hc94 hw => ?_) (fun hc94 hw => ?_)
                · exact hw.elim
                · refine aw_aloadn C dL_budgets_97 rfl ?_
                  refine aw_aloadn C dL_budgets_98 rfl ?_
                  refine aw_iconst (v := 1) C dL_budgets_99 (by decide) ?_
                  refine aw_iald C dL_budgets_100 (sA_47 shOK_B) hw.1 ?_
                  replace hw := hw.2
                  refine aw_runQ (mc := 1) (ms := 6) (rest := []) C (run_W (na := 2) C dL_budgets_101 (t_L_setBudget_B hlf (G32 47 (1 : Int32).toNatClampNeg) _ _ hw) mM_L_202 mW_setBudget mT_setBudget mI_L (by decide +kernel) rfl ⟨Nat.le_of_ble_eq_true rfl, Nat.le_of_ble_eq_true rfl, by show _ ≤ 11; omega, by show _ ≤ 66; omega⟩ [] rfl (Nat.le_of_ble_eq_true rfl)) ⟨by decide, by decide, trivial⟩ trivial (fun r101 ad_34 s101 G35 hEad_34 hq => ?_)
                  obtain ⟨v36, rfl, rfl, hw⟩ := hq
                  have hFad_34 : (∀ j, j < 145 → ad_34 j = ad j) := fun j hj => (hEad_34 j (ltBB hj)).trans (hFad_31 j hj)
                  refine aw_iload C dL_budgets_104 rfl ?_
                  refine aw_iconst (v := 1) C dL_budgets_106 (by decide) ?_
                  refine aw_isub C dL_budgets_107 ?_
                  refine aw_ic_ne C dL_budgets_108 115 (by decide) hw (fun hc108 hw => ?_) (fun hc108 hw => ?_)
                  · exact hw.elim
                  · refine aw_iconst (v := 1) C dL_budgets_111 (by decide) ?_
                    refine aw_goto (tgt := 116) C dL_budgets_112 (by decide) ?_
                    refine aw_istore C dL_budgets_116 (by decide) rfl ?_
                    refine aw_goto (tgt := 145) C dL_budgets_118 (by decide) ?_
                    exact aw_msk [true, false, false, false, false, true] (h145 ad_34 _ _ _ hFad_34 (by omega) (by omega) hw)
def w_L_gives_A (K : Sh → Gt → Prop) (p4 : Int32) (p5 : Int32) (G0 : Gt) : Prop :=
  w_L_notes_A (fun s1 G2 => s1 = shA ∧
    w_L_letters_A (fun s1 G4 => s1 = shA ∧
      w_L_triedSteps_A (fun v7 s1 G6 => s1 = shB ∧
        w_L_low (fun v8 G9 =>
          w_L_start_B (fun v12 s1 G11 => s1 = shB ∧
            pif (v12 = 0) (
              w_L_breakAt_B (fun v15 s1 G14 => s1 = shB ∧
                pif (v15 = 0) (
                  w_L_step_B (fun v18 s1 G17 => s1 = shB ∧
                    pif (v18 ≤ 0) (
                      False) (
                      pif ((1 + v8) < v18) (
                        False) (
                        w_L_breakAt_B (fun v21 s1 G20 => s1 = shB ∧
                          pif (v21 = 1) (
                            w_X10_next_B (fun v24 G23 =>
                              pif (0 ≤ v24) (
                                pif (v7 < v18) (
                                  False) (
                                  w_L_giveUp_B (fun v27 s1 G26 => s1 = shB ∧
                                    pif (v27 = v18) (
                                      w_L_same_B (fun s1 G29 => s1 = shB ∧
                                        w_L_told_B (fun s1 G31 => s1 = shB ∧
                                          K shB G31) G29) G26) (
                                      False)) G23)) (
                                w_X10_outcome_B (fun v34 G33 =>
                                  vp_in 2 7 ∧
                                  pt (gu G33 47 (2 : Int32).toNatClampNeg v34) fun G35 =>
                                  w_X10_steps_B (fun v38 G37 =>
                                    vp_in 3 7 ∧
                                    pt (gu G37 47 (3 : Int32).toNatClampNeg v38) fun G39 =>
                                    w_X10_cause_B (fun v42 G41 =>
                                      vp_in 4 7 ∧
                                      pt (gu G41 47 (4 : Int32).toNatClampNeg v42) fun G43 =>
                                      w_X10_traced_B (fun v46 G45 =>
                                        vp_in 5 7 ∧
                                        pt (gu G45 47 (5 : Int32).toNatClampNeg v46) fun G47 =>
                                        pif (v18 = v7) (
                                          w_L_told_B (fun s1 G49 => s1 = shB ∧
                                            K shB G49) G47) (
                                          False)) G43) G39) G35) G23)) G20) (
                            False)) p4 0 G17))) (1 + v8) G14) (
                  False)) p4 1 G11) (
              False)) p4 G9) p5 12 G6) p4 G4) 1 G2) G0
set_option maxHeartbeats 4000000 in
set_option maxRecDepth 100000 in
theorem t_L_gives_A {l : Launch} (hlf : l.stackTraces = false) (p4 : Int32) (p5 : Int32) (G0 : Gt) (K : Sh → Gt → Prop) (hw : w_L_gives_A K p4 p5 G0) : CV l yL_gives cL_gives 10 (some .boolean) 10 245 569 23773 [.ref 0, .ref 47, .ref 48, .ref 49, .int p4, .int p5] shA G0 (fun r s' G' => r = some (.int 1) ∧ K s' G') := by
  refine CV_of (by decide) (Nat.le_of_ble_eq_true rfl) rfl ?_
  intro p e s m args below meth c D tA ad A C hr
  have hF0 : ∀ j, j < 84 → ad j = ad j := fun _ _ => rfl
  unfold w_L_gives_A at hw
  show aw p l e { frames := 10, cells := 569, slots := 23773, locals := 245 } s m args below meth c 10 D tA A (MQ below (QL D tA ad A shA (fun r s' G' => r = some (.int 1) ∧ K s' G')) args s 569 23773 A) 0 0 ad 0 [some (.ref 0), some (.ref 47), some (.ref 48), some (.ref 49), some (.int p4), some (.int p5), none, none, none, none] [] shA G0
  refine aw_aloadn C dL_gives_0 rfl ?_
  refine aw_aloadn C dL_gives_1 rfl ?_
  refine aw_runQ (mc := 41) (ms := 246) (rest := []) C (run_S C dL_gives_2 (t_L_notes_A hlf _ _ hw) mM_L_135 bL_notes rfl rfl ⟨Nat.le_of_ble_eq_true rfl, Nat.le_of_ble_eq_true rfl, by show _ ≤ 569; omega, by show _ ≤ 23773; omega⟩ [] rfl (Nat.le_of_ble_eq_true rfl)) ⟨by decide, by decide, by decide, by decide, trivial⟩ trivial (fun r2 ad_1 s2 G2 hEad_1 hq => ?_)
  obtain ⟨rfl, rfl, hw⟩ := hq
  have hFad_1 : (∀ j, j < 84 → ad_1 j = ad j) := fun j hj => (hEad_1 j (ltAA hj)).trans (hF0 j hj)
  refine aw_if_eq (X := True) (Y := True) C dL_gives_5 21 (by decide) ⟨fun _ => trivial, fun _ => trivial⟩ (fun hx _ => ?_) (fun hx _ => ?_)
  · exact (show False by revert hx; decide).elim
  · refine aw_aloadn C dL_gives_8 rfl ?_
    refine aw_aloadn C dL_gives_9 rfl ?_
    refine aw_iconst (v := 1) C dL_gives_10 (by decide) ?_
    refine aw_runQ (mc := 195) (ms := 1170) (rest := []) C (run_S C dL_gives_11 (t_L_letters_A hlf 1 _ _ hw) mM_L_139 bL_letters rfl rfl ⟨Nat.le_of_ble_eq_true rfl, Nat.le_of_ble_eq_true rfl, by show _ ≤ 569; omega, by show _ ≤ 23773; omega⟩ [] rfl (Nat.le_of_ble_eq_true rfl)) ⟨by decide, by decide, by decide, by decide, trivial⟩ trivial (fun r11 ad_3 s11 G4 hEad_3 hq => ?_)
    obtain ⟨rfl, rfl, hw⟩ := hq
    have hFad_3 : (∀ j, j < 84 → ad_3 j = ad j) := fun j hj => (hEad_3 j (ltAA hj)).trans (hFad_1 j hj)
    refine aw_if_eq (X := True) (Y := True) C dL_gives_14 21 (by decide) ⟨fun _ => trivial, fun _ => trivial⟩ (fun hx _ => ?_) (fun hx _ => ?_)
    · exact (show False by revert hx; decide).elim
    · refine aw_iconst (v := 1) C dL_gives_17 (by decide) ?_
      refine aw_goto (tgt := 22) C dL_gives_18 (by decide) ?_
      refine aw_istore C dL_gives_22 (by decide) rfl ?_
      refine aw_aloadn C dL_gives_24 rfl ?_
      refine aw_iload C dL_gives_25 rfl ?_
      refine aw_runQ (mc := 61) (ms := 20705) (rest := []) C (run_W (na := 2) C dL_gives_27 (t_L_triedSteps_A hlf p4 _ _ hw) mM_L_171 mW_triedSteps mT_triedSteps mI_L (by decide +kernel) rfl ⟨Nat.le_of_ble_eq_true rfl, Nat.le_of_ble_eq_true rfl, by show _ ≤ 569; omega, by show _ ≤ 23773; omega⟩ [] rfl (Nat.le_of_ble_eq_true rfl)) ⟨by decide, by decide, by decide, by decide, trivial⟩ trivial (fun r27 ad_5 s27 G6 hEad_5 hq => ?_)
      obtain ⟨v7, rfl, rfl, hw⟩ := hq
      have hFad_5 : (∀ j, j < 84 → ad_5 j = ad j) := fun j hj => (hEad_5 j (ltAA hj)).trans (hFad_3 j hj)
      refine aw_istore C dL_gives_30 (by decide) rfl ?_
      refine aw_iconst (v := 1) C dL_gives_32 (by decide) ?_
      refine aw_iload C dL_gives_33 rfl ?_
      refine aw_bipush (v := 12) C dL_gives_35 (by decide) ?_
      refine aw_callS C dL_gives_37 (t_L_low  p5 12 _ _ hw) mM_L_93 bL_low rfl rfl ⟨Nat.le_of_ble_eq_true rfl, Nat.le_of_ble_eq_true rfl, by show _ ≤ 569; omega, by show _ ≤ 23773; omega⟩ _ rfl (Nat.le_of_ble_eq_true rfl) (fun r37 G9 hq => ?_)
      obtain ⟨v8, rfl, hw⟩ := hq
      refine aw_iadd C dL_gives_40 ?_
      refine aw_istore C dL_gives_41 (by decide) rfl ?_
      refine aw_iload C dL_gives_43 rfl ?_
      refine aw_if_eq (X := True) (Y := True) C dL_gives_45 71 (by decide) ⟨fun _ => trivial, fun _ => trivial⟩ (fun hx _ => ?_) (fun hx _ => ?_)
      · exact (show False by revert hx; decide).elim
      · refine aw_aloadn C dL_gives_48 rfl ?_
        refine aw_iload C dL_gives_49 rfl ?_
        refine aw_runQ (mc := 1) (ms := 6) (rest := []) C (run_W (na := 2) C dL_gives_51 (t_L_start_B hlf p4 _ _ hw) mM_L_185 mW_start mT_start mI_L (by decide +kernel) rfl ⟨Nat.le_of_ble_eq_true rfl, Nat.le_of_ble_eq_true rfl, by show _ ≤ 569; omega, by show _ ≤ 23773; omega⟩ [] rfl (Nat.le_of_ble_eq_true rfl)) ⟨by decide, by decide, by decide, by decide, trivial⟩ trivial (fun r51 ad_10 s51 G11 hEad_10 hq => ?_)
        obtain ⟨v12, rfl, rfl, hw⟩ := hq
        have hFad_10 : (∀ j, j < 84 → ad_10 j = ad j) := fun j hj => (hEad_10 j (ltAB hj)).trans (hFad_5 j hj)
        refine aw_if_ne C dL_gives_54 71 (by decide) hw (fun hc54 hw => ?_) (fun hc54 hw => ?_)
        · exact hw.elim
        · refine aw_aloadn C dL_gives_57 rfl ?_
          refine aw_iload C dL_gives_58 rfl ?_
          refine aw_iconst (v := 1) C dL_gives_60 (by decide) ?_
          refine aw_runQ (mc := 1) (ms := 6) (rest := []) C (run_W (na := 3) C dL_gives_61 (t_L_breakAt_B hlf p4 1 _ _ hw) mM_L_205 mW_breakAt mT_breakAt mI_L (by decide +kernel) rfl ⟨Nat.le_of_ble_eq_true rfl, Nat.le_of_ble_eq_true rfl, by show _ ≤ 569; omega, by show _ ≤ 23773; omega⟩ [] rfl (Nat.le_of_ble_eq_true rfl)) ⟨by decide, by decide, by decide, by decide, trivial⟩ trivial (fun r61 ad_13 s61 G14 hEad_13 hq => ?_)
          obtain ⟨v15, rfl, rfl, hw⟩ := hq
          have hFad_13 : (∀ j, j < 84 → ad_13 j = ad j) := fun j hj => (hEad_13 j (ltAB hj)).trans (hFad_10 j hj)
          refine aw_if_ne C dL_gives_64 71 (by decide) hw (fun hc64 hw => ?_) (fun hc64 hw => ?_)
          · exact hw.elim
          · refine aw_iconst (v := 1) C dL_gives_67 (by decide) ?_
            refine aw_goto (tgt := 72) C dL_gives_68 (by decide) ?_
            refine aw_istore C dL_gives_72 (by decide) rfl ?_
            refine aw_aloadn C dL_gives_74 rfl ?_
            refine aw_iload C dL_gives_75 rfl ?_
            refine aw_runQ (mc := 1) (ms := 6) (rest := []) C (run_W (na := 2) C dL_gives_77 (t_L_step_B hlf (1 + v8) _ _ hw) mM_L_196 mW_step mT_step mI_L (by decide +kernel) rfl ⟨Nat.le_of_ble_eq_true rfl, Nat.le_of_ble_eq_true rfl, by show _ ≤ 569; omega, by show _ ≤ 23773; omega⟩ [] rfl (Nat.le_of_ble_eq_true rfl)) ⟨by decide, by decide, by decide, by decide, trivial⟩ trivial (fun r77 ad_16 s77 G17 hEad_16 hq => ?_)
            obtain ⟨v18, rfl, rfl, hw⟩ := hq
            have hFad_16 : (∀ j, j < 84 → ad_16 j = ad j) := fun j hj => (hEad_16 j (ltAB hj)).trans (hFad_13 j hj)
            refine aw_istore C dL_gives_80 (by decide) rfl ?_
            refine aw_iload C dL_gives_82 rfl ?_
            refine aw_if_eq (X := True) (Y := True) C dL_gives_84 114 (by decide) ⟨fun _ => trivial, fun _ => trivial⟩ (fun hx _ => ?_) (fun hx _ => ?_)
            · exact (show False by revert hx; decide).elim
            · refine aw_iload C dL_gives_87 rfl ?_
              refine aw_if_le C dL_gives_89 114 (by decide) hw (fun hc89 hw => ?_) (fun hc89 hw => ?_)
              · exact hw.elim
              · refine aw_iload C dL_gives_92 rfl ?_
                refine aw_iload C dL_gives_94 rfl ?_
                refine aw_ic_gt C dL_gives_96 114 (by decide) hw (fun hc96 hw => ?_) (fun hc96 hw => ?_)
                · exact hw.elim
                · refine aw_aloadn C dL_gives_99 rfl ?_
                  refine aw_iload C dL_gives_100 rfl ?_
                  refine aw_iconst (v := 0) C dL_gives_102 (by decide) ?_
                  refine aw_runQ (mc := 1) (ms := 6) (rest := []) C (run_W (na := 3) C dL_gives_103 (t_L_breakAt_B hlf p4 0 _ _ hw) mM_L_205 mW_breakAt mT_breakAt mI_L (by decide +kernel) rfl ⟨Nat.le_of_ble_eq_true rfl, Nat.le_of_ble_eq_true rfl, by show _ ≤ 569; omega, by show _ ≤ 23773; omega⟩ [] rfl (Nat.le_of_ble_eq_true rfl)) ⟨by decide, by decide, by decide, by decide, trivial⟩ trivial (fun r103 ad_19 s103 G20 hEad_19 hq => ?_)
                  obtain ⟨v21, rfl, rfl, hw⟩ := hq
                  have hFad_19 : (∀ j, j < 84 → ad_19 j = ad j) := fun j hj => (hEad_19 j (ltAB hj)).trans (hFad_16 j hj)
                  refine aw_iconst (v := 1) C dL_gives_106 (by decide) ?_
                  refine aw_ic_ne C dL_gives_107 114 (by decide) hw (fun hc107 hw => ?_) (fun hc107 hw => ?_)
                  · exact hw.elim
                  · refine aw_iconst (v := 1) C dL_gives_110 (by decide) ?_
                    refine aw_goto (tgt := 115) C dL_gives_111 (by decide) ?_
                    refine aw_istore C dL_gives_115 (by decide) rfl ?_
                    refine aw_aloadn C dL_gives_117 rfl ?_
                    refine aw_runQ (mc := 0) (ms := 0) (rest := []) C (run_V C dL_gives_118 ((t_X10_next_B _ _ hw).toCV) mM_L_159 bX10_next shB_0 rfl rfl ⟨Nat.le_of_ble_eq_true rfl, Nat.le_of_ble_eq_true rfl, by show _ ≤ 569; omega, by show _ ≤ 23773; omega⟩ [] rfl (Nat.le_of_ble_eq_true rfl)) ⟨by decide, by decide, by decide, by decide, trivial⟩ trivial (fun r118 ad_22 s118 G23 hEad_22 hq => ?_)
                    obtain ⟨rfl, v24, rfl, hw⟩ := hq
                    have hFad_22 : (∀ j, j < 84 → ad_22 j = ad j) := fun j hj => (hEad_22 j (ltAB hj)).trans (hFad_19 j hj)
                    refine aw_if_ge C dL_gives_121 178 (by decide) hw (fun hc121 hw => ?_) (fun hc121 hw => ?_)
                    · refine aw_iload C dL_gives_178 rfl ?_
                      refine aw_if_eq (X := True) (Y := True) C dL_gives_180 220 (by decide) ⟨fun _ => trivial, fun _ => trivial⟩ (fun hx _ => ?_) (fun hx _ => ?_)
                      · exact (show False by revert hx; decide).elim
                      · refine aw_iload C dL_gives_183 rfl ?_
                        refine aw_iload C dL_gives_185 rfl ?_
                        refine aw_ic_gt C dL_gives_187 220 (by decide) hw (fun hc187 hw => ?_) (fun hc187 hw => ?_)
                        · exact hw.elim
                        · refine aw_aloadn C dL_gives_190 rfl ?_
                          refine aw_runQ (mc := 1) (ms := 6) (rest := []) C (run_W (na := 1) C dL_gives_191 (t_L_giveUp_B hlf _ _ hw) mM_L_198 mW_giveUp mT_giveUp mI_L (by decide +kernel) rfl ⟨Nat.le_of_ble_eq_true rfl, Nat.le_of_ble_eq_true rfl, by show _ ≤ 569; omega, by show _ ≤ 23773; omega⟩ [] rfl (Nat.le_of_ble_eq_true rfl)) ⟨by decide, by decide, by decide, by decide, trivial⟩ trivial (fun r191 ad_25 s191 G26 hEad_25 hq => ?_)
                          obtain ⟨v27, rfl, rfl, hw⟩ := hq
                          have hFad_25 : (∀ j, j < 84 → ad_25 j = ad j) := fun j hj => (hEad_25 j (ltAB hj)).trans (hFad_22 j hj)
                          refine aw_iload C dL_gives_194 rfl ?_
                          refine aw_ic_ne C dL_gives_196 220 (by decide) hw (fun hc196 hw => ?_) (fun hc196 hw => ?_)
                          · exact hw.elim
                          · refine aw_aloadn C dL_gives_199 rfl ?_
                            refine aw_aloadn C dL_gives_200 rfl ?_
                            refine aw_aloadn C dL_gives_201 rfl ?_
                            refine aw_runQ (mc := 237) (ms := 1442) (rest := []) C (run_S C dL_gives_202 (t_L_same_B hlf _ _ hw) mM_L_179 bL_same rfl rfl ⟨Nat.le_of_ble_eq_true rfl, Nat.le_of_ble_eq_true rfl, by show _ ≤ 569; omega, by show _ ≤ 23773; omega⟩ [] rfl (Nat.le_of_ble_eq_true rfl)) ⟨by decide, by decide, by decide, by decide, trivial⟩ trivial (fun r202 ad_28 s202 G29 hEad_28 hq => ?_)
                            obtain ⟨rfl, rfl, hw⟩ := hq
                            have hFad_28 : (∀ j, j < 84 → ad_28 j = ad j) := fun j hj => (hEad_28 j (ltAB hj)).trans (hFad_25 j hj)
                            refine aw_if_eq (X := True) (Y := True) C dL_gives_205 220 (by decide) ⟨fun _ => trivial, fun _ => trivial⟩ (fun hx _ => ?_) (fun hx _ => ?_)
                            · exact (show False by revert hx; decide).elim
                            · refine aw_aloadn C dL_gives_208 rfl ?_
                              refine aw_aloadn C dL_gives_209 rfl ?_
                              refine aw_runQ (mc := 30) (ms := 180) (rest := []) C (run_S C dL_gives_210 (t_L_told_B hlf _ _ hw) mM_L_176 bL_told rfl rfl ⟨Nat.le_of_ble_eq_true rfl, Nat.le_of_ble_eq_true rfl, by show _ ≤ 569; omega, by show _ ≤ 23773; omega⟩ [] rfl (Nat.le_of_ble_eq_true rfl)) ⟨by decide, by decide, by decide, by decide, trivial⟩ trivial (fun r210 ad_30 s210 G31 hEad_30 hq => ?_)
                              obtain ⟨rfl, rfl, hw⟩ := hq
                              have hFad_30 : (∀ j, j < 84 → ad_30 j = ad j) := fun j hj => (hEad_30 j (ltAB hj)).trans (hFad_28 j hj)
                              refine aw_if_eq (X := True) (Y := True) C dL_gives_213 220 (by decide) ⟨fun _ => trivial, fun _ => trivial⟩ (fun hx _ => ?_) (fun hx _ => ?_)
                              · exact (show False by revert hx; decide).elim
                              · refine aw_iconst (v := 1) C dL_gives_216 (by decide) ?_
                                refine aw_goto (tgt := 221) C dL_gives_217 (by decide) ?_
                                exact aw_lzreturn C hr dL_gives_221 rfl (by omega) (by omega) (fun j hj => hFad_30 j (ltA_ hj)) ⟨rfl, hw⟩
                    · refine aw_aloadn C dL_gives_124 rfl ?_
                      refine aw_iconst (v := 2) C dL_gives_125 (by decide) ?_
                      refine aw_aloadn C dL_gives_126 rfl ?_
                      refine aw_runQ (mc := 0) (ms := 0) (rest := [.int 2, .ref 47]) C (run_V C dL_gives_127 ((t_X10_outcome_B _ _ hw).toCV) mM_L_146 bX10_outcome shB_0 rfl rfl ⟨Nat.le_of_ble_eq_true rfl, Nat.le_of_ble_eq_true rfl, by show _ ≤ 569; omega, by show _ ≤ 23773; omega⟩ [.int 2, .ref 47] rfl (Nat.le_of_ble_eq_true rfl)) ⟨by decide, by decide, by decide, by decide, trivial⟩ ⟨by decide, trivial⟩ (fun r127 ad_32 s127 G33 hEad_32 hq => ?_)
                      obtain ⟨rfl, v34, rfl, hw⟩ := hq
                      have hFad_32 : (∀ j, j < 84 → ad_32 j = ad j) := fun j hj => (hEad_32 j (ltAB hj)).trans (hFad_22 j hj)
                      refine aw_iast C dL_gives_130 (sA_47 shOK_B) hw.1 hw.2 (fun G35 hw => ?_)
                      refine aw_aloadn C dL_gives_131 rfl ?_
                      refine aw_iconst (v := 3) C dL_gives_132 (by decide) ?_
                      refine aw_aloadn C dL_gives_133 rfl ?_
                      refine aw_runQ (mc := 0) (ms := 0) (rest := [.int 3, .ref 47]) C (run_V C dL_gives_134 ((t_X10_steps_B _ _ hw).toCV) mM_L_149 bX10_steps shB_0 rfl rfl ⟨Nat.le_of_ble_eq_true rfl, Nat.le_of_ble_eq_true rfl, by show _ ≤ 569; omega, by show _ ≤ 23773; omega⟩ [.int 3, .ref 47] rfl (Nat.le_of_ble_eq_true rfl)) ⟨by decide, by decide, by decide, by decide, trivial⟩ ⟨by decide, trivial⟩ (fun r134 ad_36 s134 G37 hEad_36 hq => ?_)
                      obtain ⟨rfl, v38, rfl, hw⟩ := hq
                      have hFad_36 : (∀ j, j < 84 → ad_36 j = ad j) := fun j hj => (hEad_36 j (ltAB hj)).trans (hFad_32 j hj)
                      refine aw_iast C dL_gives_137 (sA_47 shOK_B) hw.1 hw.2 (fun G39 hw => ?_)
                      refine aw_aloadn C dL_gives_138 rfl ?_
                      refine aw_iconst (v := 4) C dL_gives_139 (by decide) ?_
                      refine aw_aloadn C dL_gives_140 rfl ?_
                      refine aw_runQ (mc := 0) (ms := 0) (rest := [.int 4, .ref 47]) C (run_V C dL_gives_141 ((t_X10_cause_B _ _ hw).toCV) mM_L_152 bX10_cause shB_0 rfl rfl ⟨Nat.le_of_ble_eq_true rfl, Nat.le_of_ble_eq_true rfl, by show _ ≤ 569; omega, by show _ ≤ 23773; omega⟩ [.int 4, .ref 47] rfl (Nat.le_of_ble_eq_true rfl)) ⟨by decide, by decide, by decide, by decide, trivial⟩ ⟨by decide, trivial⟩ (fun r141 ad_40 s141 G41 hEad_40 hq => ?_)
                      obtain ⟨rfl, v42, rfl, hw⟩ := hq
                      have hFad_40 : (∀ j, j < 84 → ad_40 j = ad j) := fun j hj => (hEad_40 j (ltAB hj)).trans (hFad_36 j hj)
                      refine aw_iast C dL_gives_144 (sA_47 shOK_B) hw.1 hw.2 (fun G43 hw => ?_)
                      refine aw_aloadn C dL_gives_145 rfl ?_
                      refine aw_iconst (v := 5) C dL_gives_146 (by decide) ?_
                      refine aw_aloadn C dL_gives_147 rfl ?_
                      refine aw_runQ (mc := 0) (ms := 0) (rest := [.int 5, .ref 47]) C (run_V C dL_gives_148 ((t_X10_traced_B _ _ hw).toCV) mM_L_155 bX10_traced shB_0 rfl rfl ⟨Nat.le_of_ble_eq_true rfl, Nat.le_of_ble_eq_true rfl, by show _ ≤ 569; omega, by show _ ≤ 23773; omega⟩ [.int 5, .ref 47] rfl (Nat.le_of_ble_eq_true rfl)) ⟨by decide, by decide, by decide, by decide, trivial⟩ ⟨by decide, trivial⟩ (fun r148 ad_44 s148 G45 hEad_44 hq => ?_)
                      obtain ⟨rfl, v46, rfl, hw⟩ := hq
                      have hFad_44 : (∀ j, j < 84 → ad_44 j = ad j) := fun j hj => (hEad_44 j (ltAB hj)).trans (hFad_40 j hj)
                      refine aw_iast C dL_gives_151 (sA_47 shOK_B) hw.1 hw.2 (fun G47 hw => ?_)
                      refine aw_iload C dL_gives_152 rfl ?_
                      refine aw_if_eq (X := True) (Y := True) C dL_gives_154 176 (by decide) ⟨fun _ => trivial, fun _ => trivial⟩ (fun hx _ => ?_) (fun hx _ => ?_)
                      · exact (show False by revert hx; decide).elim
                      · refine aw_iload C dL_gives_157 rfl ?_
                        refine aw_iload C dL_gives_159 rfl ?_
                        refine aw_ic_ne C dL_gives_161 176 (by decide) hw (fun hc161 hw => ?_) (fun hc161 hw => ?_)
                        · exact hw.elim
                        · refine aw_aloadn C dL_gives_164 rfl ?_
                          refine aw_aloadn C dL_gives_165 rfl ?_
                          refine aw_runQ (mc := 30) (ms := 180) (rest := []) C (run_S C dL_gives_166 (t_L_told_B hlf _ _ hw) mM_L_176 bL_told rfl rfl ⟨Nat.le_of_ble_eq_true rfl, Nat.le_of_ble_eq_true rfl, by show _ ≤ 569; omega, by show _ ≤ 23773; omega⟩ [] rfl (Nat.le_of_ble_eq_true rfl)) ⟨by decide, by decide, by decide, by decide, trivial⟩ trivial (fun r166 ad_48 s166 G49 hEad_48 hq => ?_)
                          obtain ⟨rfl, rfl, hw⟩ := hq
                          have hFad_48 : (∀ j, j < 84 → ad_48 j = ad j) := fun j hj => (hEad_48 j (ltAB hj)).trans (hFad_44 j hj)
                          refine aw_if_eq (X := True) (Y := True) C dL_gives_169 176 (by decide) ⟨fun _ => trivial, fun _ => trivial⟩ (fun hx _ => ?_) (fun hx _ => ?_)
                          · exact (show False by revert hx; decide).elim
                          · refine aw_iconst (v := 1) C dL_gives_172 (by decide) ?_
                            refine aw_goto (tgt := 177) C dL_gives_173 (by decide) ?_
                            exact aw_lzreturn C hr dL_gives_177 rfl (by omega) (by omega) (fun j hj => hFad_48 j (ltA_ hj)) ⟨rfl, hw⟩
def w_L_gives_B (K : Sh → Gt → Prop) (p4 : Int32) (p5 : Int32) (G0 : Gt) : Prop :=
  w_L_notes_B (fun s1 G2 => s1 = shB ∧
    w_L_letters_B (fun s1 G4 => s1 = shB ∧
      w_L_triedSteps_B (fun v7 s1 G6 => s1 = shB ∧
        w_L_low (fun v8 G9 =>
          w_L_start_B (fun v12 s1 G11 => s1 = shB ∧
            pif (v12 = 0) (
              w_L_breakAt_B (fun v15 s1 G14 => s1 = shB ∧
                pif (v15 = 0) (
                  w_L_step_B (fun v18 s1 G17 => s1 = shB ∧
                    pif (v18 ≤ 0) (
                      False) (
                      pif ((1 + v8) < v18) (
                        False) (
                        w_L_breakAt_B (fun v21 s1 G20 => s1 = shB ∧
                          pif (v21 = 1) (
                            w_X10_next_B (fun v24 G23 =>
                              pif (0 ≤ v24) (
                                pif (v7 < v18) (
                                  False) (
                                  w_L_giveUp_B (fun v27 s1 G26 => s1 = shB ∧
                                    pif (v27 = v18) (
                                      w_L_same_B (fun s1 G29 => s1 = shB ∧
                                        w_L_told_B (fun s1 G31 => s1 = shB ∧
                                          K shB G31) G29) G26) (
                                      False)) G23)) (
                                w_X10_outcome_B (fun v34 G33 =>
                                  vp_in 2 7 ∧
                                  pt (gu G33 47 (2 : Int32).toNatClampNeg v34) fun G35 =>
                                  w_X10_steps_B (fun v38 G37 =>
                                    vp_in 3 7 ∧
                                    pt (gu G37 47 (3 : Int32).toNatClampNeg v38) fun G39 =>
                                    w_X10_cause_B (fun v42 G41 =>
                                      vp_in 4 7 ∧
                                      pt (gu G41 47 (4 : Int32).toNatClampNeg v42) fun G43 =>
                                      w_X10_traced_B (fun v46 G45 =>
                                        vp_in 5 7 ∧
                                        pt (gu G45 47 (5 : Int32).toNatClampNeg v46) fun G47 =>
                                        pif (v18 = v7) (
                                          w_L_told_B (fun s1 G49 => s1 = shB ∧
                                            K shB G49) G47) (
                                          False)) G43) G39) G35) G23)) G20) (
                            False)) p4 0 G17))) (1 + v8) G14) (
                  False)) p4 1 G11) (
              False)) p4 G9) p5 12 G6) p4 G4) 1 G2) G0
set_option maxHeartbeats 4000000 in
set_option maxRecDepth 100000 in
theorem t_L_gives_B {l : Launch} (hlf : l.stackTraces = false) (p4 : Int32) (p5 : Int32) (G0 : Gt) (K : Sh → Gt → Prop) (hw : w_L_gives_B K p4 p5 G0) : CV l yL_gives cL_gives 10 (some .boolean) 10 218 509 3074 [.ref 0, .ref 47, .ref 48, .ref 49, .int p4, .int p5] shB G0 (fun r s' G' => r = some (.int 1) ∧ K s' G') := by
  refine CV_of (by decide) (Nat.le_of_ble_eq_true rfl) rfl ?_
  intro p e s m args below meth c D tA ad A C hr
  have hF0 : ∀ j, j < 145 → ad j = ad j := fun _ _ => rfl
  unfold w_L_gives_B at hw
  show aw p l e { frames := 10, cells := 509, slots := 3074, locals := 218 } s m args below meth c 10 D tA A (MQ below (QL D tA ad A shB (fun r s' G' => r = some (.int 1) ∧ K s' G')) args s 509 3074 A) 0 0 ad 0 [some (.ref 0), some (.ref 47), some (.ref 48), some (.ref 49), some (.int p4), some (.int p5), none, none, none, none] [] shB G0
  refine aw_aloadn C dL_gives_0 rfl ?_
  refine aw_aloadn C dL_gives_1 rfl ?_
  refine aw_runQ (mc := 41) (ms := 246) (rest := []) C (run_S C dL_gives_2 (t_L_notes_B hlf _ _ hw) mM_L_135 bL_notes rfl rfl ⟨Nat.le_of_ble_eq_true rfl, Nat.le_of_ble_eq_true rfl, by show _ ≤ 509; omega, by show _ ≤ 3074; omega⟩ [] rfl (Nat.le_of_ble_eq_true rfl)) ⟨by decide, by decide, by decide, by decide, trivial⟩ trivial (fun r2 ad_1 s2 G2 hEad_1 hq => ?_)
  obtain ⟨rfl, rfl, hw⟩ := hq
  have hFad_1 : (∀ j, j < 145 → ad_1 j = ad j) := fun j hj => (hEad_1 j (ltBB hj)).trans (hF0 j hj)
  refine aw_if_eq (X := True) (Y := True) C dL_gives_5 21 (by decide) ⟨fun _ => trivial, fun _ => trivial⟩ (fun hx _ => ?_) (fun hx _ => ?_)
  · exact (show False by revert hx; decide).elim
  · refine aw_aloadn C dL_gives_8 rfl ?_
    refine aw_aloadn C dL_gives_9 rfl ?_
    refine aw_iconst (v := 1) C dL_gives_10 (by decide) ?_
    refine aw_runQ (mc := 195) (ms := 1170) (rest := []) C (run_S C dL_gives_11 (t_L_letters_B hlf 1 _ _ hw) mM_L_139 bL_letters rfl rfl ⟨Nat.le_of_ble_eq_true rfl, Nat.le_of_ble_eq_true rfl, by show _ ≤ 509; omega, by show _ ≤ 3074; omega⟩ [] rfl (Nat.le_of_ble_eq_true rfl)) ⟨by decide, by decide, by decide, by decide, trivial⟩ trivial (fun r11 ad_3 s11 G4 hEad_3 hq => ?_)
    obtain ⟨rfl, rfl, hw⟩ := hq
    have hFad_3 : (∀ j, j < 145 → ad_3 j = ad j) := fun j hj => (hEad_3 j (ltBB hj)).trans (hFad_1 j hj)
    refine aw_if_eq (X := True) (Y := True) C dL_gives_14 21 (by decide) ⟨fun _ => trivial, fun _ => trivial⟩ (fun hx _ => ?_) (fun hx _ => ?_)
    · exact (show False by revert hx; decide).elim
    · refine aw_iconst (v := 1) C dL_gives_17 (by decide) ?_
      refine aw_goto (tgt := 22) C dL_gives_18 (by decide) ?_
      refine aw_istore C dL_gives_22 (by decide) rfl ?_
      refine aw_aloadn C dL_gives_24 rfl ?_
      refine aw_iload C dL_gives_25 rfl ?_
      refine aw_runQ (mc := 1) (ms := 6) (rest := []) C (run_W (na := 2) C dL_gives_27 (t_L_triedSteps_B hlf p4 _ _ hw) mM_L_171 mW_triedSteps mT_triedSteps mI_L (by decide +kernel) rfl ⟨Nat.le_of_ble_eq_true rfl, Nat.le_of_ble_eq_true rfl, by show _ ≤ 509; omega, by show _ ≤ 3074; omega⟩ [] rfl (Nat.le_of_ble_eq_true rfl)) ⟨by decide, by decide, by decide, by decide, trivial⟩ trivial (fun r27 ad_5 s27 G6 hEad_5 hq => ?_)
      obtain ⟨v7, rfl, rfl, hw⟩ := hq
      have hFad_5 : (∀ j, j < 145 → ad_5 j = ad j) := fun j hj => (hEad_5 j (ltBB hj)).trans (hFad_3 j hj)
      refine aw_istore C dL_gives_30 (by decide) rfl ?_
      refine aw_iconst (v := 1) C dL_gives_32 (by decide) ?_
      refine aw_iload C dL_gives_33 rfl ?_
      refine aw_bipush (v := 12) C dL_gives_35 (by decide) ?_
      refine aw_callS C dL_gives_37 (t_L_low  p5 12 _ _ hw) mM_L_93 bL_low rfl rfl ⟨Nat.le_of_ble_eq_true rfl, Nat.le_of_ble_eq_true rfl, by show _ ≤ 509; omega, by show _ ≤ 3074; omega⟩ _ rfl (Nat.le_of_ble_eq_true rfl) (fun r37 G9 hq => ?_)
      obtain ⟨v8, rfl, hw⟩ := hq
      refine aw_iadd C dL_gives_40 ?_
      refine aw_istore C dL_gives_41 (by decide) rfl ?_
      refine aw_iload C dL_gives_43 rfl ?_
      refine aw_if_eq (X := True) (Y := True) C dL_gives_45 71 (by decide) ⟨fun _ => trivial, fun _ => trivial⟩ (fun hx _ => ?_) (fun hx _ => ?_)
      · exact (show False by revert hx; decide).elim
      · refine aw_aloadn C dL_gives_48 rfl ?_
        refine aw_iload C dL_gives_49 rfl ?_
        refine aw_runQ (mc := 1) (ms := 6) (rest := []) C (run_W (na := 2) C dL_gives_51 (t_L_start_B hlf p4 _ _ hw) mM_L_185 mW_start mT_start mI_L (by decide +kernel) rfl ⟨Nat.le_of_ble_eq_true rfl, Nat.le_of_ble_eq_true rfl, by show _ ≤ 509; omega, by show _ ≤ 3074; omega⟩ [] rfl (Nat.le_of_ble_eq_true rfl)) ⟨by decide, by decide, by decide, by decide, trivial⟩ trivial (fun r51 ad_10 s51 G11 hEad_10 hq => ?_)
        obtain ⟨v12, rfl, rfl, hw⟩ := hq
        have hFad_10 : (∀ j, j < 145 → ad_10 j = ad j) := fun j hj => (hEad_10 j (ltBB hj)).trans (hFad_5 j hj)
        refine aw_if_ne C dL_gives_54 71 (by decide) hw (fun hc54 hw => ?_) (fun hc54 hw => ?_)
        · exact hw.elim
        · refine aw_aloadn C dL_gives_57 rfl ?_
          refine aw_iload C dL_gives_58 rfl ?_
          refine aw_iconst (v := 1) C dL_gives_60 (by decide) ?_
          refine aw_runQ (mc := 1) (ms := 6) (rest := []) C (run_W (na := 3) C dL_gives_61 (t_L_breakAt_B hlf p4 1 _ _ hw) mM_L_205 mW_breakAt mT_breakAt mI_L (by decide +kernel) rfl ⟨Nat.le_of_ble_eq_true rfl, Nat.le_of_ble_eq_true rfl, by show _ ≤ 509; omega, by show _ ≤ 3074; omega⟩ [] rfl (Nat.le_of_ble_eq_true rfl)) ⟨by decide, by decide, by decide, by decide, trivial⟩ trivial (fun r61 ad_13 s61 G14 hEad_13 hq => ?_)
          obtain ⟨v15, rfl, rfl, hw⟩ := hq
          have hFad_13 : (∀ j, j < 145 → ad_13 j = ad j) := fun j hj => (hEad_13 j (ltBB hj)).trans (hFad_10 j hj)
          refine aw_if_ne C dL_gives_64 71 (by decide) hw (fun hc64 hw => ?_) (fun hc64 hw => ?_)
          · exact hw.elim
          · refine aw_iconst (v := 1) C dL_gives_67 (by decide) ?_
            refine aw_goto (tgt := 72) C dL_gives_68 (by decide) ?_
            refine aw_istore C dL_gives_72 (by decide) rfl ?_
            refine aw_aloadn C dL_gives_74 rfl ?_
            refine aw_iload C dL_gives_75 rfl ?_
            refine aw_runQ (mc := 1) (ms := 6) (rest := []) C (run_W (na := 2) C dL_gives_77 (t_L_step_B hlf (1 + v8) _ _ hw) mM_L_196 mW_step mT_step mI_L (by decide +kernel) rfl ⟨Nat.le_of_ble_eq_true rfl, Nat.le_of_ble_eq_true rfl, by show _ ≤ 509; omega, by show _ ≤ 3074; omega⟩ [] rfl (Nat.le_of_ble_eq_true rfl)) ⟨by decide, by decide, by decide, by decide, trivial⟩ trivial (fun r77 ad_16 s77 G17 hEad_16 hq => ?_)
            obtain ⟨v18, rfl, rfl, hw⟩ := hq
            have hFad_16 : (∀ j, j < 145 → ad_16 j = ad j) := fun j hj => (hEad_16 j (ltBB hj)).trans (hFad_13 j hj)
            refine aw_istore C dL_gives_80 (by decide) rfl ?_
            refine aw_iload C dL_gives_82 rfl ?_
            refine aw_if_eq (X := True) (Y := True) C dL_gives_84 114 (by decide) ⟨fun _ => trivial, fun _ => trivial⟩ (fun hx _ => ?_) (fun hx _ => ?_)
            · exact (show False by revert hx; decide).elim
            · refine aw_iload C dL_gives_87 rfl ?_
              refine aw_if_le C dL_gives_89 114 (by decide) hw (fun hc89 hw => ?_) (fun hc89 hw => ?_)
              · exact hw.elim
              · refine aw_iload C dL_gives_92 rfl ?_
                refine aw_iload C dL_gives_94 rfl ?_
                refine aw_ic_gt C dL_gives_96 114 (by decide) hw (fun hc96 hw => ?_) (fun hc96 hw => ?_)
                · exact hw.elim
                · refine aw_aloadn C dL_gives_99 rfl ?_
                  refine aw_iload C dL_gives_100 rfl ?_
                  refine aw_iconst (v := 0) C dL_gives_102 (by decide) ?_
                  refine aw_runQ (mc := 1) (ms := 6) (rest := []) C (run_W (na := 3) C dL_gives_103 (t_L_breakAt_B hlf p4 0 _ _ hw) mM_L_205 mW_breakAt mT_breakAt mI_L (by decide +kernel) rfl ⟨Nat.le_of_ble_eq_true rfl, Nat.le_of_ble_eq_true rfl, by show _ ≤ 509; omega, by show _ ≤ 3074; omega⟩ [] rfl (Nat.le_of_ble_eq_true rfl)) ⟨by decide, by decide, by decide, by decide, trivial⟩ trivial (fun r103 ad_19 s103 G20 hEad_19 hq => ?_)
                  obtain ⟨v21, rfl, rfl, hw⟩ := hq
                  have hFad_19 : (∀ j, j < 145 → ad_19 j = ad j) := fun j hj => (hEad_19 j (ltBB hj)).trans (hFad_16 j hj)
                  refine aw_iconst (v := 1) C dL_gives_106 (by decide) ?_
                  refine aw_ic_ne C dL_gives_107 114 (by decide) hw (fun hc107 hw => ?_) (fun hc107 hw => ?_)
                  · exact hw.elim
                  · refine aw_iconst (v := 1) C dL_gives_110 (by decide) ?_
                    refine aw_goto (tgt := 115) C dL_gives_111 (by decide) ?_
                    refine aw_istore C dL_gives_115 (by decide) rfl ?_
                    refine aw_aloadn C dL_gives_117 rfl ?_
                    refine aw_runQ (mc := 0) (ms := 0) (rest := []) C (run_V C dL_gives_118 ((t_X10_next_B _ _ hw).toCV) mM_L_159 bX10_next shB_0 rfl rfl ⟨Nat.le_of_ble_eq_true rfl, Nat.le_of_ble_eq_true rfl, by show _ ≤ 509; omega, by show _ ≤ 3074; omega⟩ [] rfl (Nat.le_of_ble_eq_true rfl)) ⟨by decide, by decide, by decide, by decide, trivial⟩ trivial (fun r118 ad_22 s118 G23 hEad_22 hq => ?_)
                    obtain ⟨rfl, v24, rfl, hw⟩ := hq
                    have hFad_22 : (∀ j, j < 145 → ad_22 j = ad j) := fun j hj => (hEad_22 j (ltBB hj)).trans (hFad_19 j hj)
                    refine aw_if_ge C dL_gives_121 178 (by decide) hw (fun hc121 hw => ?_) (fun hc121 hw => ?_)
                    · refine aw_iload C dL_gives_178 rfl ?_
                      refine aw_if_eq (X := True) (Y := True) C dL_gives_180 220 (by decide) ⟨fun _ => trivial, fun _ => trivial⟩ (fun hx _ => ?_) (fun hx _ => ?_)
                      · exact (show False by revert hx; decide).elim
                      · refine aw_iload C dL_gives_183 rfl ?_
                        refine aw_iload C dL_gives_185 rfl ?_
                        refine aw_ic_gt C dL_gives_187 220 (by decide) hw (fun hc187 hw => ?_) (fun hc187 hw => ?_)
                        · exact hw.elim
                        · refine aw_aloadn C dL_gives_190 rfl ?_
                          refine aw_runQ (mc := 1) (ms := 6) (rest := []) C (run_W (na := 1) C dL_gives_191 (t_L_giveUp_B hlf _ _ hw) mM_L_198 mW_giveUp mT_giveUp mI_L (by decide +kernel) rfl ⟨Nat.le_of_ble_eq_true rfl, Nat.le_of_ble_eq_true rfl, by show _ ≤ 509; omega, by show _ ≤ 3074; omega⟩ [] rfl (Nat.le_of_ble_eq_true rfl)) ⟨by decide, by decide, by decide, by decide, trivial⟩ trivial (fun r191 ad_25 s191 G26 hEad_25 hq => ?_)
                          obtain ⟨v27, rfl, rfl, hw⟩ := hq
                          have hFad_25 : (∀ j, j < 145 → ad_25 j = ad j) := fun j hj => (hEad_25 j (ltBB hj)).trans (hFad_22 j hj)
                          refine aw_iload C dL_gives_194 rfl ?_
                          refine aw_ic_ne C dL_gives_196 220 (by decide) hw (fun hc196 hw => ?_) (fun hc196 hw => ?_)
                          · exact hw.elim
                          · refine aw_aloadn C dL_gives_199 rfl ?_
                            refine aw_aloadn C dL_gives_200 rfl ?_
                            refine aw_aloadn C dL_gives_201 rfl ?_
                            refine aw_runQ (mc := 237) (ms := 1442) (rest := []) C (run_S C dL_gives_202 (t_L_same_B hlf _ _ hw) mM_L_179 bL_same rfl rfl ⟨Nat.le_of_ble_eq_true rfl, Nat.le_of_ble_eq_true rfl, by show _ ≤ 509; omega, by show _ ≤ 3074; omega⟩ [] rfl (Nat.le_of_ble_eq_true rfl)) ⟨by decide, by decide, by decide, by decide, trivial⟩ trivial (fun r202 ad_28 s202 G29 hEad_28 hq => ?_)
                            obtain ⟨rfl, rfl, hw⟩ := hq
                            have hFad_28 : (∀ j, j < 145 → ad_28 j = ad j) := fun j hj => (hEad_28 j (ltBB hj)).trans (hFad_25 j hj)
                            refine aw_if_eq (X := True) (Y := True) C dL_gives_205 220 (by decide) ⟨fun _ => trivial, fun _ => trivial⟩ (fun hx _ => ?_) (fun hx _ => ?_)
                            · exact (show False by revert hx; decide).elim
                            · refine aw_aloadn C dL_gives_208 rfl ?_
                              refine aw_aloadn C dL_gives_209 rfl ?_
                              refine aw_runQ (mc := 30) (ms := 180) (rest := []) C (run_S C dL_gives_210 (t_L_told_B hlf _ _ hw) mM_L_176 bL_told rfl rfl ⟨Nat.le_of_ble_eq_true rfl, Nat.le_of_ble_eq_true rfl, by show _ ≤ 509; omega, by show _ ≤ 3074; omega⟩ [] rfl (Nat.le_of_ble_eq_true rfl)) ⟨by decide, by decide, by decide, by decide, trivial⟩ trivial (fun r210 ad_30 s210 G31 hEad_30 hq => ?_)
                              obtain ⟨rfl, rfl, hw⟩ := hq
                              have hFad_30 : (∀ j, j < 145 → ad_30 j = ad j) := fun j hj => (hEad_30 j (ltBB hj)).trans (hFad_28 j hj)
                              refine aw_if_eq (X := True) (Y := True) C dL_gives_213 220 (by decide) ⟨fun _ => trivial, fun _ => trivial⟩ (fun hx _ => ?_) (fun hx _ => ?_)
                              · exact (show False by revert hx; decide).elim
                              · refine aw_iconst (v := 1) C dL_gives_216 (by decide) ?_
                                refine aw_goto (tgt := 221) C dL_gives_217 (by decide) ?_
                                exact aw_lzreturn C hr dL_gives_221 rfl (by omega) (by omega) (fun j hj => hFad_30 j (ltB_ hj)) ⟨rfl, hw⟩
                    · refine aw_aloadn C dL_gives_124 rfl ?_
                      refine aw_iconst (v := 2) C dL_gives_125 (by decide) ?_
                      refine aw_aloadn C dL_gives_126 rfl ?_
                      refine aw_runQ (mc := 0) (ms := 0) (rest := [.int 2, .ref 47]) C (run_V C dL_gives_127 ((t_X10_outcome_B _ _ hw).toCV) mM_L_146 bX10_outcome shB_0 rfl rfl ⟨Nat.le_of_ble_eq_true rfl, Nat.le_of_ble_eq_true rfl, by show _ ≤ 509; omega, by show _ ≤ 3074; omega⟩ [.int 2, .ref 47] rfl (Nat.le_of_ble_eq_true rfl)) ⟨by decide, by decide, by decide, by decide, trivial⟩ ⟨by decide, trivial⟩ (fun r127 ad_32 s127 G33 hEad_32 hq => ?_)
                      obtain ⟨rfl, v34, rfl, hw⟩ := hq
                      have hFad_32 : (∀ j, j < 145 → ad_32 j = ad j) := fun j hj => (hEad_32 j (ltBB hj)).trans (hFad_22 j hj)
                      refine aw_iast C dL_gives_130 (sA_47 shOK_B) hw.1 hw.2 (fun G35 hw => ?_)
                      refine aw_aloadn C dL_gives_131 rfl ?_
                      refine aw_iconst (v := 3) C dL_gives_132 (by decide) ?_
                      refine aw_aloadn C dL_gives_133 rfl ?_
                      refine aw_runQ (mc := 0) (ms := 0) (rest := [.int 3, .ref 47]) C (run_V C dL_gives_134 ((t_X10_steps_B _ _ hw).toCV) mM_L_149 bX10_steps shB_0 rfl rfl ⟨Nat.le_of_ble_eq_true rfl, Nat.le_of_ble_eq_true rfl, by show _ ≤ 509; omega, by show _ ≤ 3074; omega⟩ [.int 3, .ref 47] rfl (Nat.le_of_ble_eq_true rfl)) ⟨by decide, by decide, by decide, by decide, trivial⟩ ⟨by decide, trivial⟩ (fun r134 ad_36 s134 G37 hEad_36 hq => ?_)
                      obtain ⟨rfl, v38, rfl, hw⟩ := hq
                      have hFad_36 : (∀ j, j < 145 → ad_36 j = ad j) := fun j hj => (hEad_36 j (ltBB hj)).trans (hFad_32 j hj)
                      refine aw_iast C dL_gives_137 (sA_47 shOK_B) hw.1 hw.2 (fun G39 hw => ?_)
                      refine aw_aloadn C dL_gives_138 rfl ?_
                      refine aw_iconst (v := 4) C dL_gives_139 (by decide) ?_
                      refine aw_aloadn C dL_gives_140 rfl ?_
                      refine aw_runQ (mc := 0) (ms := 0) (rest := [.int 4, .ref 47]) C (run_V C dL_gives_141 ((t_X10_cause_B _ _ hw).toCV) mM_L_152 bX10_cause shB_0 rfl rfl ⟨Nat.le_of_ble_eq_true rfl, Nat.le_of_ble_eq_true rfl, by show _ ≤ 509; omega, by show _ ≤ 3074; omega⟩ [.int 4, .ref 47] rfl (Nat.le_of_ble_eq_true rfl)) ⟨by decide, by decide, by decide, by decide, trivial⟩ ⟨by decide, trivial⟩ (fun r141 ad_40 s141 G41 hEad_40 hq => ?_)
                      obtain ⟨rfl, v42, rfl, hw⟩ := hq
                      have hFad_40 : (∀ j, j < 145 → ad_40 j = ad j) := fun j hj => (hEad_40 j (ltBB hj)).trans (hFad_36 j hj)
                      refine aw_iast C dL_gives_144 (sA_47 shOK_B) hw.1 hw.2 (fun G43 hw => ?_)
                      refine aw_aloadn C dL_gives_145 rfl ?_
                      refine aw_iconst (v := 5) C dL_gives_146 (by decide) ?_
                      refine aw_aloadn C dL_gives_147 rfl ?_
                      refine aw_runQ (mc := 0) (ms := 0) (rest := [.int 5, .ref 47]) C (run_V C dL_gives_148 ((t_X10_traced_B _ _ hw).toCV) mM_L_155 bX10_traced shB_0 rfl rfl ⟨Nat.le_of_ble_eq_true rfl, Nat.le_of_ble_eq_true rfl, by show _ ≤ 509; omega, by show _ ≤ 3074; omega⟩ [.int 5, .ref 47] rfl (Nat.le_of_ble_eq_true rfl)) ⟨by decide, by decide, by decide, by decide, trivial⟩ ⟨by decide, trivial⟩ (fun r148 ad_44 s148 G45 hEad_44 hq => ?_)
                      obtain ⟨rfl, v46, rfl, hw⟩ := hq
                      have hFad_44 : (∀ j, j < 145 → ad_44 j = ad j) := fun j hj => (hEad_44 j (ltBB hj)).trans (hFad_40 j hj)
                      refine aw_iast C dL_gives_151 (sA_47 shOK_B) hw.1 hw.2 (fun G47 hw => ?_)
                      refine aw_iload C dL_gives_152 rfl ?_
                      refine aw_if_eq (X := True) (Y := True) C dL_gives_154 176 (by decide) ⟨fun _ => trivial, fun _ => trivial⟩ (fun hx _ => ?_) (fun hx _ => ?_)
                      · exact (show False by revert hx; decide).elim
                      · refine aw_iload C dL_gives_157 rfl ?_
                        refine aw_iload C dL_gives_159 rfl ?_
                        refine aw_ic_ne C dL_gives_161 176 (by decide) hw (fun hc161 hw => ?_) (fun hc161 hw => ?_)
                        · exact hw.elim
                        · refine aw_aloadn C dL_gives_164 rfl ?_
                          refine aw_aloadn C dL_gives_165 rfl ?_
                          refine aw_runQ (mc := 30) (ms := 180) (rest := []) C (run_S C dL_gives_166 (t_L_told_B hlf _ _ hw) mM_L_176 bL_told rfl rfl ⟨Nat.le_of_ble_eq_true rfl, Nat.le_of_ble_eq_true rfl, by show _ ≤ 509; omega, by show _ ≤ 3074; omega⟩ [] rfl (Nat.le_of_ble_eq_true rfl)) ⟨by decide, by decide, by decide, by decide, trivial⟩ trivial (fun r166 ad_48 s166 G49 hEad_48 hq => ?_)
                          obtain ⟨rfl, rfl, hw⟩ := hq
                          have hFad_48 : (∀ j, j < 145 → ad_48 j = ad j) := fun j hj => (hEad_48 j (ltBB hj)).trans (hFad_44 j hj)
                          refine aw_if_eq (X := True) (Y := True) C dL_gives_169 176 (by decide) ⟨fun _ => trivial, fun _ => trivial⟩ (fun hx _ => ?_) (fun hx _ => ?_)
                          · exact (show False by revert hx; decide).elim
                          · refine aw_iconst (v := 1) C dL_gives_172 (by decide) ?_
                            refine aw_goto (tgt := 177) C dL_gives_173 (by decide) ?_
                            exact aw_lzreturn C hr dL_gives_177 rfl (by omega) (by omega) (fun j hj => hFad_48 j (ltB_ hj)) ⟨rfl, hw⟩
