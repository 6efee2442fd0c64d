def w_L_same_B_h15 (K : Sh → Gt → Prop) : Nat → Int32 → Gt → Prop
  | 0, _, _ => False
  | n + 1, x5, G0 =>
    pif (26 ≤ x5) (
      w_L_letters_B (fun s1 G6x => s1 = shB ∧ pt (frm 51 G0 G6x) fun G6 =>
        K shB G6) 0 G0) (
      vp_in x5 26 ∧
      vp_in x5 26 ∧
      pif ((G0 51 (x5 : Int32).toNatClampNeg) = (G0 48 (x5 : Int32).toNatClampNeg)) (
        w_L_same_B_h15 K n (x5 + 1) G0) (
        False))
def w_L_same_B (K : Sh → Gt → Prop) (G0 : Gt) : Prop :=
  pt (gz G0 51 0) fun G1 =>
  w_L_notes_N (fun s1 G4 => s1 = (shB.set 51 (.inl (0, 26))) ∧
    ∃ i, i ≤ 27 ∧ w_L_same_B_h15 K i 0 G4) G1
set_option maxHeartbeats 4000000 in
set_option maxRecDepth 100000 in
theorem t_L_same_B {l : Launch} (hlf : l.stackTraces = false) (G0 : Gt) (K : Sh → Gt → Prop) (hw : w_L_same_B K G0) : CV l yL_same cL_same 6 (some .boolean) 9 161 237 1442 [.ref 0, .ref 48, .ref 49] shB G0 (fun r s' G' => r = some (.int 1) ∧ K s' G') := by
  refine CV_of (by decide) (Nat.le_of_ble_eq_true rfl) rfl ?_
  intro p e s m args below meth c D tA ad A C hr
  have hF0 : ∀ j, j < 145 → ad j = ad j := fun _ _ => rfl
  have h15 : ∀ (f15 : Nat) (ad1 : Nat → Nat) (k n : Nat) (x5 : Int32) (G0 : Gt), (∀ j, j < 145 → ¬ j = 51 → ad1 j = ad j) → k + 0 * f15 + 195 ≤ 237 → n + 0 * f15 + 1170 ≤ 1442 → w_L_same_B_h15 K f15 x5 G0 → aw p l e { frames := 9, cells := 237, slots := 1442, locals := 161 } s m args below meth c 6 D tA A (MQ below (QL D tA ad A shB (fun r s' G' => r = some (.int 1) ∧ K s' G')) args s 237 1442 A) k n ad1 15 [some (.ref 0), some (.ref 48), some (.ref 49), some (.ref 51), some (.int 1), some (.int x5)] [] (shB.set 51 (.inl (0, 26))) G0 := by
    intro f15
    induction f15 with
    | zero => intro ad1 k n x5 G0 hF hk hn hw; exact hw.elim
    | succ f15 ih15 =>
      intro ad1 k n x5 G0 hF hk hn hw
      rw [w_L_same_B_h15] at hw
      refine aw_iload C dL_same_15 rfl ?_
      refine aw_bipush (v := 26) C dL_same_17 (by decide) ?_
      refine aw_ic_ge C dL_same_19 51 (by decide) hw (fun hc19 hw => ?_) (fun hc19 hw => ?_)
      · refine aw_iload C dL_same_51 rfl ?_
        refine aw_if_eq (X := True) (Y := True) C dL_same_53 69 (by decide) ⟨fun _ => trivial, fun _ => trivial⟩ (fun hx _ => ?_) (fun hx _ => ?_)
        · exact (show False by revert hx; decide).elim
        · refine aw_aloadn C dL_same_56 rfl ?_
          refine aw_aloadn C dL_same_57 rfl ?_
          refine aw_iconst (v := 0) C dL_same_58 (by decide) ?_
          refine aw_runF (mc := 195) (ms := 1170) (t9 := 51) (m9 := 26) (rest := []) C (sA_51 shOK_B) (run_S C dL_same_59 (t_L_letters_B hlf 0 _ _ hw) mM_L_139 bL_letters rfl rfl ⟨Nat.le_of_ble_eq_true rfl, Nat.le_of_ble_eq_true rfl, by show _ ≤ 237; omega, by show _ ≤ 1442; omega⟩ [] rfl (Nat.le_of_ble_eq_true rfl)) ⟨by decide, by decide, by decide, by decide, trivial⟩ trivial (fun r59 ad_5 s59 G6x hEad_5 hq => ?_)
          obtain ⟨rfl, rfl, hw⟩ := hq
          refine ⟨(sA_51 shOK_B), ?_⟩
          obtain ⟨G6, eG6, hw⟩ := hw
          rw [← eG6]
          have hFad_5 : (∀ j, j < 145 → ¬ j = 51 → ad_5 j = ad j) := fun j hj hn => (hEad_5 j (ltBB hj)).trans (hF j hj hn)
          refine aw_if_eq (X := True) (Y := True) C dL_same_62 69 (by decide) ⟨fun _ => trivial, fun _ => trivial⟩ (fun hx _ => ?_) (fun hx _ => ?_)
          · exact (show False by revert hx; decide).elim
          · refine aw_iconst (v := 1) C dL_same_65 (by decide) ?_
            refine aw_goto (tgt := 70) C dL_same_66 (by decide) ?_
            refine aw_msk [] ?_
            refine aw_drop (t9 := 51) (m9 := 26) (ad := adr 51 ad ad_5) (sA_51 shOK_B) (by decide +kernel) adr_ne (by simp [msk]) (by simp) ?_
            exact aw_lzreturn C hr dL_same_70 rfl (by omega) (by omega) (adr_eq (fun j hj hn => hFad_5 j (ltB_ hj) hn)) ⟨rfl, hw⟩
      · refine aw_iload C dL_same_22 rfl ?_
        refine aw_if_eq (X := True) (Y := True) C dL_same_24 42 (by decide) ⟨fun _ => trivial, fun _ => trivial⟩ (fun hx _ => ?_) (fun hx _ => ?_)
        · exact (show False by revert hx; decide).elim
        · refine aw_aloadn C dL_same_27 rfl ?_
          refine aw_iload C dL_same_28 rfl ?_
          refine aw_iald C dL_same_30 (set_eq' (sA_51 shOK_B)) hw.1 ?_
          replace hw := hw.2
          refine aw_aloadn C dL_same_31 rfl ?_
          refine aw_iload C dL_same_32 rfl ?_
          refine aw_iald C dL_same_34 (set_ne2 (sA_48 shOK_B) (by decide)) hw.1 ?_
          replace hw := hw.2
          refine aw_ic_ne C dL_same_35 42 (by decide) hw (fun hc35 hw => ?_) (fun hc35 hw => ?_)
          · exact hw.elim
          · refine aw_iconst (v := 1) C dL_same_38 (by decide) ?_
            refine aw_goto (tgt := 43) C dL_same_39 (by decide) ?_
            refine aw_istore C dL_same_43 (by decide) rfl ?_
            refine aw_iinc (w := (x5 + 1)) C dL_same_45 rfl rfl (by decide) rfl ?_
            refine aw_goto (tgt := 15) C dL_same_48 (by decide) ?_
            exact aw_msk [true, true, true, true, true, true] (ih15 ad1 _ _ (x5 + 1) _ hF (by omega) (by omega) hw)
  unfold w_L_same_B at hw
  show aw p l e { frames := 9, cells := 237, slots := 1442, locals := 161 } s m args below meth c 6 D tA A (MQ below (QL D tA ad A shB (fun r s' G' => r = some (.int 1) ∧ K s' G')) args s 237 1442 A) 0 0 ad 0 [some (.ref 0), some (.ref 48), some (.ref 49), none, none, none] [] shB G0
  refine aw_bipush (v := 26) C dL_same_0 (by decide) ?_
  refine aw_newP (t9 := 51) (m9 := 26) C dL_same_2 mA_int rfl (by decide) (sA_51 shOK_B) (by decide +kernel) (by simp) (by show _ ≤ 237; omega) (by show _ ≤ 1442; omega) (fun ad_2 hEad_2 => ?_)
  have hFad_2 : (∀ j, j < 145 → ¬ j = 51 → ad_2 j = ad j) := fun j hj hn => hEad_2 j hn
  obtain ⟨G1, eG1, hw⟩ := hw
  rw [← eG1]
  refine aw_astoren C dL_same_4 (by decide) rfl ?_
  refine aw_aloadn C dL_same_5 rfl ?_
  refine aw_aloadn C dL_same_6 rfl ?_
  refine aw_runQ (mc := 41) (ms := 246) (rest := []) C (run_S C dL_same_7 (t_L_notes_N hlf _ _ hw) mM_L_135 bL_notes rfl rfl ⟨Nat.le_of_ble_eq_true rfl, Nat.le_of_ble_eq_true rfl, by show _ ≤ 237; omega, by show _ ≤ 1442; omega⟩ [] rfl (Nat.le_of_ble_eq_true rfl)) ⟨by decide, by decide, by decide, by decide, trivial⟩ trivial (fun r7 ad_3 s7 G4 hEad_3 hq => ?_)
  obtain ⟨rfl, rfl, hw⟩ := hq
  have hFad_3 : (∀ j, j < 145 → ¬ j = 51 → ad_3 j = ad j) := fun j hj hn => (hEad_3 j (ltBN hj)).trans (hFad_2 j hj hn)
  refine aw_istore C dL_same_10 (by decide) rfl ?_
  refine aw_iconst (v := 0) C dL_same_12 (by decide) ?_
  refine aw_istore C dL_same_13 (by decide) rfl ?_
  obtain ⟨f0, hf0, hw⟩ := hw
  exact aw_msk [true, true, true, true, true, true] (h15 f0 ad_3 _ _ 0 _ hFad_3 (by omega) (by omega) hw)
def w_L_told_A_h135 (K : Sh → Gt → Prop) : Nat → Int32 → Gt → Prop
  | 0, _, _ => False
  | n + 1, x4, G0 =>
    vp_in 5 7 ∧
    pif ((G0 47 (5 : Int32).toNatClampNeg) ≤ x4) (
      K shA G0) (
      w_L_traceAt_A (fun v27 s1 G26 => s1 = shA ∧
        pif (v27 < 0) (
          False) (
          w_L_traceAt_A (fun v30 s1 G29 => s1 = shA ∧
            vp_in 0 7 ∧
            pif ((G29 47 (0 : Int32).toNatClampNeg) ≤ v30) (
              False) (
              w_L_told_A_h135 K n (x4 + 1) G29)) x4 G26)) x4 G0)
def w_L_told_A_j89 (K : Sh → Gt → Prop) (G0 : Gt) : Prop :=
  w_X10_next_A (fun v15 G14 =>
    pif (v15 = (-1)) (
      w_X10_active_A (fun v18 G17 =>
        pif (v18 = 0) (
          vp_in 5 7 ∧
          w_L_traceAt_A (fun v21 s1 G20 => s1 = shA ∧
            pif (v21 = (-1000001)) (
              w_L_traceAt_A (fun v24 s1 G23 => s1 = shA ∧
                pif (v24 = (-1000001)) (
                  ∃ i, i ≤ 14 ∧ w_L_told_A_h135 K i 0 G23) (
                  False)) (-1) G20) (
              False)) (G17 47 (5 : Int32).toNatClampNeg) G17) (
          False)) G14) (
      False)) G0
def w_L_told_A_j13 (K : Sh → Gt → Prop) (y0 : Int32) (G0 : Gt) : Prop :=
  w_X10_outcome_A (fun v3 G2 =>
    vp_in 2 7 ∧
    pif (v3 = (G2 47 (2 : Int32).toNatClampNeg)) (
      w_X10_steps_A (fun v6 G5 =>
        vp_in 3 7 ∧
        pif (v6 = (G5 47 (3 : Int32).toNatClampNeg)) (
          w_X10_cause_A (fun v9 G8 =>
            vp_in 4 7 ∧
            pif (v9 = (G8 47 (4 : Int32).toNatClampNeg)) (
              w_X10_traced_A (fun v12 G11 =>
                vp_in 5 7 ∧
                pif (v12 = (G11 47 (5 : Int32).toNatClampNeg)) (
                  pif (y0 = 0) (
                    vp_in 5 7 ∧
                    pif ((G11 47 (5 : Int32).toNatClampNeg) = 0) (
                      vp_in 4 7 ∧
                      pif ((G11 47 (4 : Int32).toNatClampNeg) = 50000) (
                        w_L_told_A_j89 K G11) (
                        False)) (
                      False)) (
                    vp_in 5 7 ∧
                    pif ((G11 47 (5 : Int32).toNatClampNeg) ≤ 0) (
                      False) (
                      vp_in 5 7 ∧
                      pif (14 ≤ (G11 47 (5 : Int32).toNatClampNeg)) (
                        False) (
                        w_L_told_A_j89 K G11)))) (
                  False)) G8) (
              False)) G5) (
          False)) G2) (
      False)) G0
def w_L_told_A (K : Sh → Gt → Prop) (G0 : Gt) : Prop :=
  vp_in 2 7 ∧
  pif ((G0 47 (2 : Int32).toNatClampNeg) ≤ 39999) (
    w_L_told_A_j13 K 0 G0) (
    w_L_told_A_j13 K 1 G0)
set_option maxHeartbeats 4000000 in
set_option maxRecDepth 100000 in
theorem t_L_told_A {l : Launch} (hlf : l.stackTraces = false) (G0 : Gt) (K : Sh → Gt → Prop) (hw : w_L_told_A K G0) : CV l yL_told cL_told 5 (some .boolean) 8 133 30 180 [.ref 0, .ref 47] shA G0 (fun r s' G' => r = some (.int 1) ∧ K s' G') := by
  refine CV_of (by decide) (Nat.le_of_ble_eq_true rfl) rfl ?_
  intro p e s m args below meth c D tA ad A C hr
  have hF0 : ∀ j, j < 84 → ad j = ad j := fun _ _ => rfl
  have h135 : ∀ (f135 : Nat) (ad1 : Nat → Nat) (k n : Nat) (x4 : Int32) (G0 : Gt), (∀ j, j < 84 → ad1 j = ad j) → k + 2 * f135 + 0 ≤ 30 → n + 12 * f135 + 0 ≤ 180 → w_L_told_A_h135 K f135 x4 G0 → aw p l e { frames := 8, cells := 30, slots := 180, locals := 133 } s m args below meth c 5 D tA A (MQ below (QL D tA ad A shA (fun r s' G' => r = some (.int 1) ∧ K s' G')) args s 30 180 A) k n ad1 135 [some (.ref 0), some (.ref 47), none, some (.int 1), some (.int x4)] [] shA G0 := by
    intro f135
    induction f135 with
    | zero => intro ad1 k n x4 G0 hF hk hn hw; exact hw.elim
    | succ f135 ih135 =>
      intro ad1 k n x4 G0 hF hk hn hw
      rw [w_L_told_A_h135] at hw
      refine aw_iload C dL_told_135 rfl ?_
      refine aw_aloadn C dL_told_137 rfl ?_
      refine aw_iconst (v := 5) C dL_told_138 (by decide) ?_
      refine aw_iald C dL_told_139 (sA_47 shOK_A) hw.1 ?_
      replace hw := hw.2
      refine aw_ic_ge C dL_told_140 180 (by decide) hw (fun hc140 hw => ?_) (fun hc140 hw => ?_)
      · refine aw_iloadn C dL_told_180 rfl ?_
        exact aw_lzreturn C hr dL_told_181 rfl (by omega) (by omega) (fun j hj => hF j (ltA_ hj)) ⟨rfl, hw⟩
      · refine aw_iloadn C dL_told_143 rfl ?_
        refine aw_if_eq (X := True) (Y := True) C dL_told_144 172 (by decide) ⟨fun _ => trivial, fun _ => trivial⟩ (fun hx _ => ?_) (fun hx _ => ?_)
        · exact (show False by revert hx; decide).elim
        · refine aw_aloadn C dL_told_147 rfl ?_
          refine aw_iload C dL_told_148 rfl ?_
          refine aw_runQ (mc := 1) (ms := 6) (rest := []) C (run_W (na := 2) C dL_told_150 (t_L_traceAt_A hlf x4 _ _ hw) mM_L_165 mW_traceAt mT_traceAt mI_L (by decide +kernel) rfl ⟨Nat.le_of_ble_eq_true rfl, Nat.le_of_ble_eq_true rfl, by show _ ≤ 30; omega, by show _ ≤ 180; omega⟩ [] rfl (Nat.le_of_ble_eq_true rfl)) ⟨by decide, by decide, trivial⟩ trivial (fun r150 ad_25 s150 G26 hEad_25 hq => ?_)
          obtain ⟨v27, rfl, rfl, hw⟩ := hq
          have hFad_25 : (∀ j, j < 84 → ad_25 j = ad j) := fun j hj => (hEad_25 j (ltAA hj)).trans (hF j hj)
          refine aw_if_lt C dL_told_153 172 (by decide) hw (fun hc153 hw => ?_) (fun hc153 hw => ?_)
          · exact hw.elim
          · refine aw_aloadn C dL_told_156 rfl ?_
            refine aw_iload C dL_told_157 rfl ?_
            refine aw_runQ (mc := 1) (ms := 6) (rest := []) C (run_W (na := 2) C dL_told_159 (t_L_traceAt_A hlf x4 _ _ hw) mM_L_165 mW_traceAt mT_traceAt mI_L (by decide +kernel) rfl ⟨Nat.le_of_ble_eq_true rfl, Nat.le_of_ble_eq_true rfl, by show _ ≤ 30; omega, by show _ ≤ 180; omega⟩ [] rfl (Nat.le_of_ble_eq_true rfl)) ⟨by decide, by decide, trivial⟩ trivial (fun r159 ad_28 s159 G29 hEad_28 hq => ?_)
            obtain ⟨v30, rfl, rfl, hw⟩ := hq
            have hFad_28 : (∀ j, j < 84 → ad_28 j = ad j) := fun j hj => (hEad_28 j (ltAA hj)).trans (hFad_25 j hj)
            refine aw_aloadn C dL_told_162 rfl ?_
            refine aw_iconst (v := 0) C dL_told_163 (by decide) ?_
            refine aw_iald C dL_told_164 (sA_47 shOK_A) hw.1 ?_
            replace hw := hw.2
            refine aw_ic_ge C dL_told_165 172 (by decide) hw (fun hc165 hw => ?_) (fun hc165 hw => ?_)
            · exact hw.elim
            · refine aw_iconst (v := 1) C dL_told_168 (by decide) ?_
              refine aw_goto (tgt := 173) C dL_told_169 (by decide) ?_
              refine aw_istoren C dL_told_173 (by decide) rfl ?_
              refine aw_iinc (w := (x4 + 1)) C dL_told_174 rfl rfl (by decide) rfl ?_
              refine aw_goto (tgt := 135) C dL_told_177 (by decide) ?_
              exact aw_msk [true, true, false, true, true] (ih135 ad_28 _ _ (x4 + 1) _ hFad_28 (by omega) (by omega) hw)
  have h89 : ∀ (ad1 : Nat → Nat) (k n : Nat) (G0 : Gt), (∀ j, j < 84 → ad1 j = ad j) → k + 30 ≤ 30 → n + 180 ≤ 180 → w_L_told_A_j89 K  G0 → aw p l e { frames := 8, cells := 30, slots := 180, locals := 133 } s m args below meth c 5 D tA A (MQ below (QL D tA ad A shA (fun r s' G' => r = some (.int 1) ∧ K s' G')) args s 30 180 A) k n ad1 89 [some (.ref 0), some (.ref 47), none, none, none] [] shA G0 := by
    intro ad1 k n  G0 hF hk hn hw
    unfold w_L_told_A_j89 at hw
    refine aw_aloadn C dL_told_89 rfl ?_
    refine aw_runQ (mc := 0) (ms := 0) (rest := []) C (run_V C dL_told_90 ((t_X10_next_A _ _ hw).toCV) mM_L_159 bX10_next shA_0 rfl rfl ⟨Nat.le_of_ble_eq_true rfl, Nat.le_of_ble_eq_true rfl, by show _ ≤ 30; omega, by show _ ≤ 180; omega⟩ [] rfl (Nat.le_of_ble_eq_true rfl)) ⟨by decide, by decide, trivial⟩ trivial (fun r90 ad_13 s90 G14 hEad_13 hq => ?_)
    obtain ⟨rfl, v15, rfl, hw⟩ := hq
    have hFad_13 : (∀ j, j < 84 → ad_13 j = ad j) := fun j hj => (hEad_13 j (ltAA hj)).trans (hF j hj)
    refine aw_iconst (v := (-1)) C dL_told_93 (by decide) ?_
    refine aw_ic_ne C dL_told_94 130 (by decide) hw (fun hc94 hw => ?_) (fun hc94 hw => ?_)
    · exact hw.elim
    · refine aw_aloadn C dL_told_97 rfl ?_
      refine aw_runQ (mc := 0) (ms := 0) (rest := []) C (run_V C dL_told_98 ((t_X10_active_A _ _ hw).toCV) mM_L_162 bX10_active shA_0 rfl rfl ⟨Nat.le_of_ble_eq_true rfl, Nat.le_of_ble_eq_true rfl, by show _ ≤ 30; omega, by show _ ≤ 180; omega⟩ [] rfl (Nat.le_of_ble_eq_true rfl)) ⟨by decide, by decide, trivial⟩ trivial (fun r98 ad_16 s98 G17 hEad_16 hq => ?_)
      obtain ⟨rfl, v18, rfl, hw⟩ := hq
      have hFad_16 : (∀ j, j < 84 → ad_16 j = ad j) := fun j hj => (hEad_16 j (ltAA hj)).trans (hFad_13 j hj)
      refine aw_if_ne C dL_told_101 130 (by decide) hw (fun hc101 hw => ?_) (fun hc101 hw => ?_)
      · exact hw.elim
      · refine aw_aloadn C dL_told_104 rfl ?_
        refine aw_aloadn C dL_told_105 rfl ?_
        refine aw_iconst (v := 5) C dL_told_106 (by decide) ?_
        refine aw_iald C dL_told_107 (sA_47 shOK_A) hw.1 ?_
        replace hw := hw.2
        refine aw_runQ (mc := 1) (ms := 6) (rest := []) C (run_W (na := 2) C dL_told_108 (t_L_traceAt_A hlf (G17 47 (5 : Int32).toNatClampNeg) _ _ hw) mM_L_165 mW_traceAt mT_traceAt mI_L (by decide +kernel) rfl ⟨Nat.le_of_ble_eq_true rfl, Nat.le_of_ble_eq_true rfl, by show _ ≤ 30; omega, by show _ ≤ 180; omega⟩ [] rfl (Nat.le_of_ble_eq_true rfl)) ⟨by decide, by decide, trivial⟩ trivial (fun r108 ad_19 s108 G20 hEad_19 hq => ?_)
        obtain ⟨v21, rfl, rfl, hw⟩ := hq
        have hFad_19 : (∀ j, j < 84 → ad_19 j = ad j) := fun j hj => (hEad_19 j (ltAA hj)).trans (hFad_16 j hj)
        refine aw_ldc (v := (-1000001)) C dL_told_111 mK_L_18 ?_
        refine aw_ic_ne C dL_told_113 130 (by decide) hw (fun hc113 hw => ?_) (fun hc113 hw => ?_)
        · exact hw.elim
        · refine aw_aloadn C dL_told_116 rfl ?_
          refine aw_iconst (v := (-1)) C dL_told_117 (by decide) ?_
          refine aw_runQ (mc := 1) (ms := 6) (rest := []) C (run_W (na := 2) C dL_told_118 (t_L_traceAt_A hlf (-1) _ _ hw) mM_L_165 mW_traceAt mT_traceAt mI_L (by decide +kernel) rfl ⟨Nat.le_of_ble_eq_true rfl, Nat.le_of_ble_eq_true rfl, by show _ ≤ 30; omega, by show _ ≤ 180; omega⟩ [] rfl (Nat.le_of_ble_eq_true rfl)) ⟨by decide, by decide, trivial⟩ trivial (fun r118 ad_22 s118 G23 hEad_22 hq => ?_)
          obtain ⟨v24, rfl, rfl, hw⟩ := hq
          have hFad_22 : (∀ j, j < 84 → ad_22 j = ad j) := fun j hj => (hEad_22 j (ltAA hj)).trans (hFad_19 j hj)
          refine aw_ldc (v := (-1000001)) C dL_told_121 mK_L_18 ?_
          refine aw_ic_ne C dL_told_123 130 (by decide) hw (fun hc123 hw => ?_) (fun hc123 hw => ?_)
          · exact hw.elim
          · refine aw_iconst (v := 1) C dL_told_126 (by decide) ?_
            refine aw_goto (tgt := 131) C dL_told_127 (by decide) ?_
            refine aw_istoren C dL_told_131 (by decide) rfl ?_
            refine aw_iconst (v := 0) C dL_told_132 (by decide) ?_
            refine aw_istore C dL_told_133 (by decide) rfl ?_
            obtain ⟨f0, hf0, hw⟩ := hw
            exact aw_msk [true, true, false, true, true] (h135 f0 ad_22 _ _ 0 _ hFad_22 (by omega) (by omega) hw)
  have h13 : ∀ (ad1 : Nat → Nat) (k n : Nat) (y0 : Int32) (G0 : Gt), (∀ j, j < 84 → ad1 j = ad j) → k + 30 ≤ 30 → n + 180 ≤ 180 → w_L_told_A_j13 K y0 G0 → aw p l e { frames := 8, cells := 30, slots := 180, locals := 133 } s m args below meth c 5 D tA A (MQ below (QL D tA ad A shA (fun r s' G' => r = some (.int 1) ∧ K s' G')) args s 30 180 A) k n ad1 13 [some (.ref 0), some (.ref 47), none, none, none] [.int y0] shA G0 := by
    intro ad1 k n y0 G0 hF hk hn hw
    unfold w_L_told_A_j13 at hw
    refine aw_istoren C dL_told_13 (by decide) rfl ?_
    refine aw_aloadn C dL_told_14 rfl ?_
    refine aw_runQ (mc := 0) (ms := 0) (rest := []) C (run_V C dL_told_15 ((t_X10_outcome_A _ _ hw).toCV) mM_L_146 bX10_outcome shA_0 rfl rfl ⟨Nat.le_of_ble_eq_true rfl, Nat.le_of_ble_eq_true rfl, by show _ ≤ 30; omega, by show _ ≤ 180; omega⟩ [] rfl (Nat.le_of_ble_eq_true rfl)) ⟨by decide, by decide, trivial⟩ trivial (fun r15 ad_1 s15 G2 hEad_1 hq => ?_)
    obtain ⟨rfl, v3, rfl, hw⟩ := hq
    have hFad_1 : (∀ j, j < 84 → ad_1 j = ad j) := fun j hj => (hEad_1 j (ltAA hj)).trans (hF j hj)
    refine aw_aloadn C dL_told_18 rfl ?_
    refine aw_iconst (v := 2) C dL_told_19 (by decide) ?_
    refine aw_iald C dL_told_20 (sA_47 shOK_A) hw.1 ?_
    replace hw := hw.2
    refine aw_ic_ne C dL_told_21 130 (by decide) hw (fun hc21 hw => ?_) (fun hc21 hw => ?_)
    · exact hw.elim
    · refine aw_aloadn C dL_told_24 rfl ?_
      refine aw_runQ (mc := 0) (ms := 0) (rest := []) C (run_V C dL_told_25 ((t_X10_steps_A _ _ hw).toCV) mM_L_149 bX10_steps shA_0 rfl rfl ⟨Nat.le_of_ble_eq_true rfl, Nat.le_of_ble_eq_true rfl, by show _ ≤ 30; omega, by show _ ≤ 180; omega⟩ [] rfl (Nat.le_of_ble_eq_true rfl)) ⟨by decide, by decide, trivial⟩ trivial (fun r25 ad_4 s25 G5 hEad_4 hq => ?_)
      obtain ⟨rfl, v6, rfl, hw⟩ := hq
      have hFad_4 : (∀ j, j < 84 → ad_4 j = ad j) := fun j hj => (hEad_4 j (ltAA hj)).trans (hFad_1 j hj)
      refine aw_aloadn C dL_told_28 rfl ?_
      refine aw_iconst (v := 3) C dL_told_29 (by decide) ?_
      refine aw_iald C dL_told_30 (sA_47 shOK_A) hw.1 ?_
      replace hw := hw.2
      refine aw_ic_ne C dL_told_31 130 (by decide) hw (fun hc31 hw => ?_) (fun hc31 hw => ?_)
      · exact hw.elim
      · refine aw_aloadn C dL_told_34 rfl ?_
        refine aw_runQ (mc := 0) (ms := 0) (rest := []) C (run_V C dL_told_35 ((t_X10_cause_A _ _ hw).toCV) mM_L_152 bX10_cause shA_0 rfl rfl ⟨Nat.le_of_ble_eq_true rfl, Nat.le_of_ble_eq_true rfl, by show _ ≤ 30; omega, by show _ ≤ 180; omega⟩ [] rfl (Nat.le_of_ble_eq_true rfl)) ⟨by decide, by decide, trivial⟩ trivial (fun r35 ad_7 s35 G8 hEad_7 hq => ?_)
        obtain ⟨rfl, v9, rfl, hw⟩ := hq
        have hFad_7 : (∀ j, j < 84 → ad_7 j = ad j) := fun j hj => (hEad_7 j (ltAA hj)).trans (hFad_4 j hj)
        refine aw_aloadn C dL_told_38 rfl ?_
        refine aw_iconst (v := 4) C dL_told_39 (by decide) ?_
        refine aw_iald C dL_told_40 (sA_47 shOK_A) hw.1 ?_
        replace hw := hw.2
        refine aw_ic_ne C dL_told_41 130 (by decide) hw (fun hc41 hw => ?_) (fun hc41 hw => ?_)
        · exact hw.elim
        · refine aw_aloadn C dL_told_44 rfl ?_
          refine aw_runQ (mc := 0) (ms := 0) (rest := []) C (run_V C dL_told_45 ((t_X10_traced_A _ _ hw).toCV) mM_L_155 bX10_traced shA_0 rfl rfl ⟨Nat.le_of_ble_eq_true rfl, Nat.le_of_ble_eq_true rfl, by show _ ≤ 30; omega, by show _ ≤ 180; omega⟩ [] rfl (Nat.le_of_ble_eq_true rfl)) ⟨by decide, by decide, trivial⟩ trivial (fun r45 ad_10 s45 G11 hEad_10 hq => ?_)
          obtain ⟨rfl, v12, rfl, hw⟩ := hq
          have hFad_10 : (∀ j, j < 84 → ad_10 j = ad j) := fun j hj => (hEad_10 j (ltAA hj)).trans (hFad_7 j hj)
          refine aw_aloadn C dL_told_48 rfl ?_
          refine aw_iconst (v := 5) C dL_told_49 (by decide) ?_
          refine aw_iald C dL_told_50 (sA_47 shOK_A) hw.1 ?_
          replace hw := hw.2
          refine aw_ic_ne C dL_told_51 130 (by decide) hw (fun hc51 hw => ?_) (fun hc51 hw => ?_)
          · exact hw.elim
          · refine aw_iloadn C dL_told_54 rfl ?_
            refine aw_if_eq C dL_told_55 75 (by decide) hw (fun hc55 hw => ?_) (fun hc55 hw => ?_)
            · refine aw_aloadn C dL_told_75 rfl ?_
              refine aw_iconst (v := 5) C dL_told_76 (by decide) ?_
              refine aw_iald C dL_told_77 (sA_47 shOK_A) hw.1 ?_
              replace hw := hw.2
              refine aw_if_ne C dL_told_78 130 (by decide) hw (fun hc78 hw => ?_) (fun hc78 hw => ?_)
              · exact hw.elim
              · refine aw_aloadn C dL_told_81 rfl ?_
                refine aw_iconst (v := 4) C dL_told_82 (by decide) ?_
                refine aw_iald C dL_told_83 (sA_47 shOK_A) hw.1 ?_
                replace hw := hw.2
                refine aw_ldc (v := 50000) C dL_told_84 mK_L_158 ?_
                refine aw_ic_ne C dL_told_86 130 (by decide) hw (fun hc86 hw => ?_) (fun hc86 hw => ?_)
                · exact hw.elim
                · exact aw_msk [true, true, false, false, false] (h89 ad_10 _ _ _ hFad_10 (by omega) (by omega) hw)
            · refine aw_aloadn C dL_told_58 rfl ?_
              refine aw_iconst (v := 5) C dL_told_59 (by decide) ?_
              refine aw_iald C dL_told_60 (sA_47 shOK_A) hw.1 ?_
              replace hw := hw.2
              refine aw_if_le C dL_told_61 130 (by decide) hw (fun hc61 hw => ?_) (fun hc61 hw => ?_)
              · exact hw.elim
              · refine aw_aloadn C dL_told_64 rfl ?_
                refine aw_iconst (v := 5) C dL_told_65 (by decide) ?_
                refine aw_iald C dL_told_66 (sA_47 shOK_A) hw.1 ?_
                replace hw := hw.2
                refine aw_bipush (v := 14) C dL_told_67 (by decide) ?_
                refine aw_ic_ge C dL_told_69 130 (by decide) hw (fun hc69 hw => ?_) (fun hc69 hw => ?_)
                · exact hw.elim
                · refine aw_goto (tgt := 89) C dL_told_72 (by decide) ?_
                  exact aw_msk [true, true, false, false, false] (h89 ad_10 _ _ _ hFad_10 (by omega) (by omega) hw)
  unfold w_L_told_A at hw
  show aw p l e { frames := 8, cells := 30, slots := 180, locals := 133 } s m args below meth c 5 D tA A (MQ below (QL D tA ad A shA (fun r s' G' => r = some (.int 1) ∧ K s' G')) args s 30 180 A) 0 0 ad 0 [some (.ref 0), some (.ref 47), none, none, none] [] shA G0
  refine aw_aloadn C dL_told_0 rfl ?_
  refine aw_iconst (v := 2) C dL_told_1 (by decide) ?_
  refine aw_iald C dL_told_2 (sA_47 shOK_A) hw.1 ?_
  replace hw := hw.2
  refine aw_ldc (v := 39999) C dL_told_3 mK_L_145 ?_
  refine aw_ic_le C dL_told_5 12 (by decide) hw (fun hc5 hw => ?_) (fun hc5 hw => ?_)
  · refine aw_iconst (v := 0) C dL_told_12 (by decide) ?_
    exact aw_msk [true, true, false, false, false] (h13 ad _ _ 0 _ hF0 (by omega) (by omega) hw)
  · refine aw_iconst (v := 1) C dL_told_8 (by decide) ?_
    refine aw_goto (tgt := 13) C dL_told_9 (by decide) ?_
    exact aw_msk [true, true, false, false, false] (h13 ad _ _ 1 _ hF0 (by omega) (by omega) hw)
def w_L_told_B_h135 (K : Sh → Gt → Prop) : Nat → Int32 → Gt → Prop
  | 0, _, _ => False
  | n + 1, x4, G0 =>
    vp_in 5 7 ∧
    pif ((G0 47 (5 : Int32).toNatClampNeg) ≤ x4) (
      K shB G0) (
      w_L_traceAt_B (fun v27 s1 G26 => s1 = shB ∧
        pif (v27 < 0) (
          False) (
          w_L_traceAt_B (fun v30 s1 G29 => s1 = shB ∧
            vp_in 0 7 ∧
            pif ((G29 47 (0 : Int32).toNatClampNeg) ≤ v30) (
              False) (
              w_L_told_B_h135 K n (x4 + 1) G29)) x4 G26)) x4 G0)
def w_L_told_B_j89 (K : Sh → Gt → Prop) (G0 : Gt) : Prop :=
  w_X10_next_B (fun v15 G14 =>
    pif (v15 = (-1)) (
      w_X10_active_B (fun v18 G17 =>
        pif (v18 = 0) (
          vp_in 5 7 ∧
          w_L_traceAt_B (fun v21 s1 G20 => s1 = shB ∧
            pif (v21 = (-1000001)) (
              w_L_traceAt_B (fun v24 s1 G23 => s1 = shB ∧
                pif (v24 = (-1000001)) (
                  ∃ i, i ≤ 14 ∧ w_L_told_B_h135 K i 0 G23) (
                  False)) (-1) G20) (
              False)) (G17 47 (5 : Int32).toNatClampNeg) G17) (
          False)) G14) (
      False)) G0
def w_L_told_B_j13 (K : Sh → Gt → Prop) (y0 : Int32) (G0 : Gt) : Prop :=
  w_X10_outcome_B (fun v3 G2 =>
    vp_in 2 7 ∧
    pif (v3 = (G2 47 (2 : Int32).toNatClampNeg)) (
      w_X10_steps_B (fun v6 G5 =>
        vp_in 3 7 ∧
        pif (v6 = (G5 47 (3 : Int32).toNatClampNeg)) (
          w_X10_cause_B (fun v9 G8 =>
            vp_in 4 7 ∧
            pif (v9 = (G8 47 (4 : Int32).toNatClampNeg)) (
              w_X10_traced_B (fun v12 G11 =>
                vp_in 5 7 ∧
                pif (v12 = (G11 47 (5 : Int32).toNatClampNeg)) (
                  pif (y0 = 0) (
                    vp_in 5 7 ∧
                    pif ((G11 47 (5 : Int32).toNatClampNeg) = 0) (
                      vp_in 4 7 ∧
                      pif ((G11 47 (4 : Int32).toNatClampNeg) = 50000) (
                        w_L_told_B_j89 K G11) (
                        False)) (
                      False)) (
                    vp_in 5 7 ∧
                    pif ((G11 47 (5 : Int32).toNatClampNeg) ≤ 0) (
                      False) (
                      vp_in 5 7 ∧
                      pif (14 ≤ (G11 47 (5 : Int32).toNatClampNeg)) (
                        False) (
                        w_L_told_B_j89 K G11)))) (
                  False)) G8) (
              False)) G5) (
          False)) G2) (
      False)) G0
def w_L_told_B (K : Sh → Gt → Prop) (G0 : Gt) : Prop :=
  vp_in 2 7 ∧
  pif ((G0 47 (2 : Int32).toNatClampNeg) ≤ 39999) (
    w_L_told_B_j13 K 0 G0) (
    w_L_told_B_j13 K 1 G0)
set_option maxHeartbeats 4000000 in
set_option maxRecDepth 100000 in
theorem t_L_told_B {l : Launch} (hlf : l.stackTraces = false) (G0 : Gt) (K : Sh → Gt → Prop) (hw : w_L_told_B K G0) : CV l yL_told cL_told 5 (some .boolean) 8 133 30 180 [.ref 0, .ref 47] shB G0 (fun r s' G' => r = some (.int 1) ∧ K s' G') := by
  refine CV_of (by decide) (Nat.le_of_ble_eq_true rfl) rfl ?_
  intro p e s m args below meth c D tA ad A C hr
  have hF0 : ∀ j, j < 145 → ad j = ad j := fun _ _ => rfl
  have h135 : ∀ (f135 : Nat) (ad1 : Nat → Nat) (k n : Nat) (x4 : Int32) (G0 : Gt), (∀ j, j < 145 → ad1 j = ad j) → k + 2 * f135 + 0 ≤ 30 → n + 12 * f135 + 0 ≤ 180 → w_L_told_B_h135 K f135 x4 G0 → aw p l e { frames := 8, cells := 30, slots := 180, locals := 133 } s m args below meth c 5 D tA A (MQ below (QL D tA ad A shB (fun r s' G' => r = some (.int 1) ∧ K s' G')) args s 30 180 A) k n ad1 135 [some (.ref 0), some (.ref 47), none, some (.int 1), some (.int x4)] [] shB G0 := by
    intro f135
    induction f135 with
    | zero => intro ad1 k n x4 G0 hF hk hn hw; exact hw.elim
    | succ f135 ih135 =>
      intro ad1 k n x4 G0 hF hk hn hw
      rw [w_L_told_B_h135] at hw
      refine aw_iload C dL_told_135 rfl ?_
      refine aw_aloadn C dL_told_137 rfl ?_
      refine aw_iconst (v := 5) C dL_told_138 (by decide) ?_
      refine aw_iald C dL_told_139 (sA_47 shOK_B) hw.1 ?_
      replace hw := hw.2
      refine aw_ic_ge C dL_told_140 180 (by decide) hw (fun hc140 hw => ?_) (fun hc140 hw => ?_)
      · refine aw_iloadn C dL_told_180 rfl ?_
        exact aw_lzreturn C hr dL_told_181 rfl (by omega) (by omega) (fun j hj => hF j (ltB_ hj)) ⟨rfl, hw⟩
      · refine aw_iloadn C dL_told_143 rfl ?_
        refine aw_if_eq (X := True) (Y := True) C dL_told_144 172 (by decide) ⟨fun _ => trivial, fun _ => trivial⟩ (fun hx _ => ?_) (fun hx _ => ?_)
        · exact (show False by revert hx; decide).elim
        · refine aw_aloadn C dL_told_147 rfl ?_
          refine aw_iload C dL_told_148 rfl ?_
          refine aw_runQ (mc := 1) (ms := 6) (rest := []) C (run_W (na := 2) C dL_told_150 (t_L_traceAt_B hlf x4 _ _ hw) mM_L_165 mW_traceAt mT_traceAt mI_L (by decide +kernel) rfl ⟨Nat.le_of_ble_eq_true rfl, Nat.le_of_ble_eq_true rfl, by show _ ≤ 30; omega, by show _ ≤ 180; omega⟩ [] rfl (Nat.le_of_ble_eq_true rfl)) ⟨by decide, by decide, trivial⟩ trivial (fun r150 ad_25 s150 G26 hEad_25 hq => ?_)
          obtain ⟨v27, rfl, rfl, hw⟩ := hq
          have hFad_25 : (∀ j, j < 145 → ad_25 j = ad j) := fun j hj => (hEad_25 j (ltBB hj)).trans (hF j hj)
          refine aw_if_lt C dL_told_153 172 (by decide) hw (fun hc153 hw => ?_) (fun hc153 hw => ?_)
          · exact hw.elim
          · refine aw_aloadn C dL_told_156 rfl ?_
            refine aw_iload C dL_told_157 rfl ?_
            refine aw_runQ (mc := 1) (ms := 6) (rest := []) C (run_W (na := 2) C dL_told_159 (t_L_traceAt_B hlf x4 _ _ hw) mM_L_165 mW_traceAt mT_traceAt mI_L (by decide +kernel) rfl ⟨Nat.le_of_ble_eq_true rfl, Nat.le_of_ble_eq_true rfl, by show _ ≤ 30; omega, by show _ ≤ 180; omega⟩ [] rfl (Nat.le_of_ble_eq_true rfl)) ⟨by decide, by decide, trivial⟩ trivial (fun r159 ad_28 s159 G29 hEad_28 hq => ?_)
            obtain ⟨v30, rfl, rfl, hw⟩ := hq
            have hFad_28 : (∀ j, j < 145 → ad_28 j = ad j) := fun j hj => (hEad_28 j (ltBB hj)).trans (hFad_25 j hj)
            refine aw_aloadn C dL_told_162 rfl ?_
            refine aw_iconst (v := 0) C dL_told_163 (by decide) ?_
            refine aw_iald C dL_told_164 (sA_47 shOK_B) hw.1 ?_
            replace hw := hw.2
            refine aw_ic_ge C dL_told_165 172 (by decide) hw (fun hc165 hw => ?_) (fun hc165 hw => ?_)
            · exact hw.elim
            · refine aw_iconst (v := 1) C dL_told_168 (by decide) ?_
              refine aw_goto (tgt := 173) C dL_told_169 (by decide) ?_
              refine aw_istoren C dL_told_173 (by decide) rfl ?_
              refine aw_iinc (w := (x4 + 1)) C dL_told_174 rfl rfl (by decide) rfl ?_
              refine aw_goto (tgt := 135) C dL_told_177 (by decide) ?_
              exact aw_msk [true, true, false, true, true] (ih135 ad_28 _ _ (x4 + 1) _ hFad_28 (by omega) (by omega) hw)
  have h89 : ∀ (ad1 : Nat → Nat) (k n : Nat) (G0 : Gt), (∀ j, j < 145 → ad1 j = ad j) → k + 30 ≤ 30 → n + 180 ≤ 180 → w_L_told_B_j89 K  G0 → aw p l e { frames := 8, cells := 30, slots := 180, locals := 133 } s m args below meth c 5 D tA A (MQ below (QL D tA ad A shB (fun r s' G' => r = some (.int 1) ∧ K s' G')) args s 30 180 A) k n ad1 89 [some (.ref 0), some (.ref 47), none, none, none] [] shB G0 := by
    intro ad1 k n  G0 hF hk hn hw
    unfold w_L_told_B_j89 at hw
    refine aw_aloadn C dL_told_89 rfl ?_
    refine aw_runQ (mc := 0) (ms := 0) (rest := []) C (run_V C dL_told_90 ((t_X10_next_B _ _ hw).toCV) mM_L_159 bX10_next shB_0 rfl rfl ⟨Nat.le_of_ble_eq_true rfl, Nat.le_of_ble_eq_true rfl, by show _ ≤ 30; omega, by show _ ≤ 180; omega⟩ [] rfl (Nat.le_of_ble_eq_true rfl)) ⟨by decide, by decide, trivial⟩ trivial (fun r90 ad_13 s90 G14 hEad_13 hq => ?_)
    obtain ⟨rfl, v15, rfl, hw⟩ := hq
    have hFad_13 : (∀ j, j < 145 → ad_13 j = ad j) := fun j hj => (hEad_13 j (ltBB hj)).trans (hF j hj)
    refine aw_iconst (v := (-1)) C dL_told_93 (by decide) ?_
    refine aw_ic_ne C dL_told_94 130 (by decide) hw (fun hc94 hw => ?_) (fun hc94 hw => ?_)
    · exact hw.elim
    · refine aw_aloadn C dL_told_97 rfl ?_
      refine aw_runQ (mc := 0) (ms := 0) (rest := []) C (run_V C dL_told_98 ((t_X10_active_B _ _ hw).toCV) mM_L_162 bX10_active shB_0 rfl rfl ⟨Nat.le_of_ble_eq_true rfl, Nat.le_of_ble_eq_true rfl, by show _ ≤ 30; omega, by show _ ≤ 180; omega⟩ [] rfl (Nat.le_of_ble_eq_true rfl)) ⟨by decide, by decide, trivial⟩ trivial (fun r98 ad_16 s98 G17 hEad_16 hq => ?_)
      obtain ⟨rfl, v18, rfl, hw⟩ := hq
      have hFad_16 : (∀ j, j < 145 → ad_16 j = ad j) := fun j hj => (hEad_16 j (ltBB hj)).trans (hFad_13 j hj)
      refine aw_if_ne C dL_told_101 130 (by decide) hw (fun hc101 hw => ?_) (fun hc101 hw => ?_)
      · exact hw.elim
      · refine aw_aloadn C dL_told_104 rfl ?_
        refine aw_aloadn C dL_told_105 rfl ?_
        refine aw_iconst (v := 5) C dL_told_106 (by decide) ?_
        refine aw_iald C dL_told_107 (sA_47 shOK_B) hw.1 ?_
        replace hw := hw.2
        refine aw_runQ (mc := 1) (ms := 6) (rest := []) C (run_W (na := 2) C dL_told_108 (t_L_traceAt_B hlf (G17 47 (5 : Int32).toNatClampNeg) _ _ hw) mM_L_165 mW_traceAt mT_traceAt mI_L (by decide +kernel) rfl ⟨Nat.le_of_ble_eq_true rfl, Nat.le_of_ble_eq_true rfl, by show _ ≤ 30; omega, by show _ ≤ 180; omega⟩ [] rfl (Nat.le_of_ble_eq_true rfl)) ⟨by decide, by decide, trivial⟩ trivial (fun r108 ad_19 s108 G20 hEad_19 hq => ?_)
        obtain ⟨v21, rfl, rfl, hw⟩ := hq
        have hFad_19 : (∀ j, j < 145 → ad_19 j = ad j) := fun j hj => (hEad_19 j (ltBB hj)).trans (hFad_16 j hj)
        refine aw_ldc (v := (-1000001)) C dL_told_111 mK_L_18 ?_
        refine aw_ic_ne C dL_told_113 130 (by decide) hw (fun hc113 hw => ?_) (fun hc113 hw => ?_)
        · exact hw.elim
        · refine aw_aloadn C dL_told_116 rfl ?_
          refine aw_iconst (v := (-1)) C dL_told_117 (by decide) ?_
          refine aw_runQ (mc := 1) (ms := 6) (rest := []) C (run_W (na := 2) C dL_told_118 (t_L_traceAt_B hlf (-1) _ _ hw) mM_L_165 mW_traceAt mT_traceAt mI_L (by decide +kernel) rfl ⟨Nat.le_of_ble_eq_true rfl, Nat.le_of_ble_eq_true rfl, by show _ ≤ 30; omega, by show _ ≤ 180; omega⟩ [] rfl (Nat.le_of_ble_eq_true rfl)) ⟨by decide, by decide, trivial⟩ trivial (fun r118 ad_22 s118 G23 hEad_22 hq => ?_)
          obtain ⟨v24, rfl, rfl, hw⟩ := hq
          have hFad_22 : (∀ j, j < 145 → ad_22 j = ad j) := fun j hj => (hEad_22 j (ltBB hj)).trans (hFad_19 j hj)
          refine aw_ldc (v := (-1000001)) C dL_told_121 mK_L_18 ?_
          refine aw_ic_ne C dL_told_123 130 (by decide) hw (fun hc123 hw => ?_) (fun hc123 hw => ?_)
          · exact hw.elim
          · refine aw_iconst (v := 1) C dL_told_126 (by decide) ?_
            refine aw_goto (tgt := 131) C dL_told_127 (by decide) ?_
            refine aw_istoren C dL_told_131 (by decide) rfl ?_
            refine aw_iconst (v := 0) C dL_told_132 (by decide) ?_
            refine aw_istore C dL_told_133 (by decide) rfl ?_
            obtain ⟨f0, hf0, hw⟩ := hw
            exact aw_msk [true, true, false, true, true] (h135 f0 ad_22 _ _ 0 _ hFad_22 (by omega) (by omega) hw)
  have h13 : ∀ (ad1 : Nat → Nat) (k n : Nat) (y0 : Int32) (G0 : Gt), (∀ j, j < 145 → ad1 j = ad j) → k + 30 ≤ 30 → n + 180 ≤ 180 → w_L_told_B_j13 K y0 G0 → aw p l e { frames := 8, cells := 30, slots := 180, locals := 133 } s m args below meth c 5 D tA A (MQ below (QL D tA ad A shB (fun r s' G' => r = some (.int 1) ∧ K s' G')) args s 30 180 A) k n ad1 13 [some (.ref 0), some (.ref 47), none, none, none] [.int y0] shB G0 := by
    intro ad1 k n y0 G0 hF hk hn hw
    unfold w_L_told_B_j13 at hw
    refine aw_istoren C dL_told_13 (by decide) rfl ?_
    refine aw_aloadn C dL_told_14 rfl ?_
    refine aw_runQ (mc := 0) (ms := 0) (rest := []) C (run_V C dL_told_15 ((t_X10_outcome_B _ _ hw).toCV) mM_L_146 bX10_outcome shB_0 rfl rfl ⟨Nat.le_of_ble_eq_true rfl, Nat.le_of_ble_eq_true rfl, by show _ ≤ 30; omega, by show _ ≤ 180; omega⟩ [] rfl (Nat.le_of_ble_eq_true rfl)) ⟨by decide, by decide, trivial⟩ trivial (fun r15 ad_1 s15 G2 hEad_1 hq => ?_)
    obtain ⟨rfl, v3, rfl, hw⟩ := hq
    have hFad_1 : (∀ j, j < 145 → ad_1 j = ad j) := fun j hj => (hEad_1 j (ltBB hj)).trans (hF j hj)
    refine aw_aloadn C dL_told_18 rfl ?_
    refine aw_iconst (v := 2) C dL_told_19 (by decide) ?_
    refine aw_iald C dL_told_20 (sA_47 shOK_B) hw.1 ?_
    replace hw := hw.2
    refine aw_ic_ne C dL_told_21 130 (by decide) hw (fun hc21 hw => ?_) (fun hc21 hw => ?_)
    · exact hw.elim
    · refine aw_aloadn C dL_told_24 rfl ?_
      refine aw_runQ (mc := 0) (ms := 0) (rest := []) C (run_V C dL_told_25 ((t_X10_steps_B _ _ hw).toCV) mM_L_149 bX10_steps shB_0 rfl rfl ⟨Nat.le_of_ble_eq_true rfl, Nat.le_of_ble_eq_true rfl, by show _ ≤ 30; omega, by show _ ≤ 180; omega⟩ [] rfl (Nat.le_of_ble_eq_true rfl)) ⟨by decide, by decide, trivial⟩ trivial (fun r25 ad_4 s25 G5 hEad_4 hq => ?_)
      obtain ⟨rfl, v6, rfl, hw⟩ := hq
      have hFad_4 : (∀ j, j < 145 → ad_4 j = ad j) := fun j hj => (hEad_4 j (ltBB hj)).trans (hFad_1 j hj)
      refine aw_aloadn C dL_told_28 rfl ?_
      refine aw_iconst (v := 3) C dL_told_29 (by decide) ?_
      refine aw_iald C dL_told_30 (sA_47 shOK_B) hw.1 ?_
      replace hw := hw.2
      refine aw_ic_ne C dL_told_31 130 (by decide) hw (fun hc31 hw => ?_) (fun hc31 hw => ?_)
      · exact hw.elim
      · refine aw_aloadn C dL_told_34 rfl ?_
        refine aw_runQ (mc := 0) (ms := 0) (rest := []) C (run_V C dL_told_35 ((t_X10_cause_B _ _ hw).toCV) mM_L_152 bX10_cause shB_0 rfl rfl ⟨Nat.le_of_ble_eq_true rfl, Nat.le_of_ble_eq_true rfl, by show _ ≤ 30; omega, by show _ ≤ 180; omega⟩ [] rfl (Nat.le_of_ble_eq_true rfl)) ⟨by decide, by decide, trivial⟩ trivial (fun r35 ad_7 s35 G8 hEad_7 hq => ?_)
        obtain ⟨rfl, v9, rfl, hw⟩ := hq
        have hFad_7 : (∀ j, j < 145 → ad_7 j = ad j) := fun j hj => (hEad_7 j (ltBB hj)).trans (hFad_4 j hj)
        refine aw_aloadn C dL_told_38 rfl ?_
        refine aw_iconst (v := 4) C dL_told_39 (by decide) ?_
        refine aw_iald C dL_told_40 (sA_47 shOK_B) hw.1 ?_
        replace hw := hw.2
        refine aw_ic_ne C dL_told_41 130 (by decide) hw (fun hc41 hw => ?_) (fun hc41 hw => ?_)
        · exact hw.elim
        · refine aw_aloadn C dL_told_44 rfl ?_
          refine aw_runQ (mc := 0) (ms := 0) (rest := []) C (run_V C dL_told_45 ((t_X10_traced_B _ _ hw).toCV) mM_L_155 bX10_traced shB_0 rfl rfl ⟨Nat.le_of_ble_eq_true rfl, Nat.le_of_ble_eq_true rfl, by show _ ≤ 30; omega, by show _ ≤ 180; omega⟩ [] rfl (Nat.le_of_ble_eq_true rfl)) ⟨by decide, by decide, trivial⟩ trivial (fun r45 ad_10 s45 G11 hEad_10 hq => ?_)
          obtain ⟨rfl, v12, rfl, hw⟩ := hq
          have hFad_10 : (∀ j, j < 145 → ad_10 j = ad j) := fun j hj => (hEad_10 j (ltBB hj)).trans (hFad_7 j hj)
          refine aw_aloadn C dL_told_48 rfl ?_
          refine aw_iconst (v := 5) C dL_told_49 (by decide) ?_
          refine aw_iald C dL_told_50 (sA_47 shOK_B) hw.1 ?_
          replace hw := hw.2
          refine aw_ic_ne C dL_told_51 130 (by decide) hw (fun hc51 hw => ?_) (fun hc51 hw => ?_)
          · exact hw.elim
          · refine aw_iloadn C dL_told_54 rfl ?_
            refine aw_if_eq C dL_told_55 75 (by decide) hw (fun hc55 hw => ?_) (fun hc55 hw => ?_)
            · refine aw_aloadn C dL_told_75 rfl ?_
              refine aw_iconst (v := 5) C dL_told_76 (by decide) ?_
              refine aw_iald C dL_told_77 (sA_47 shOK_B) hw.1 ?_
              replace hw := hw.2
              refine aw_if_ne C dL_told_78 130 (by decide) hw (fun hc78 hw => ?_) (fun hc78 hw => ?_)
              · exact hw.elim
              · refine aw_aloadn C dL_told_81 rfl ?_
                refine aw_iconst (v := 4) C dL_told_82 (by decide) ?_
                refine aw_iald C dL_told_83 (sA_47 shOK_B) hw.1 ?_
                replace hw := hw.2
                refine aw_ldc (v := 50000) C dL_told_84 mK_L_158 ?_
                refine aw_ic_ne C dL_told_86 130 (by decide) hw (fun hc86 hw => ?_) (fun hc86 hw => ?_)
                · exact hw.elim
                · exact aw_msk [true, true, false, false, false] (h89 ad_10 _ _ _ hFad_10 (by omega) (by omega) hw)
            · refine aw_aloadn C dL_told_58 rfl ?_
              refine aw_iconst (v := 5) C dL_told_59 (by decide) ?_
              refine aw_iald C dL_told_60 (sA_47 shOK_B) hw.1 ?_
              replace hw := hw.2
              refine aw_if_le C dL_told_61 130 (by decide) hw (fun hc61 hw => ?_) (fun hc61 hw => ?_)
              · exact hw.elim
              · refine aw_aloadn C dL_told_64 rfl ?_
                refine aw_iconst (v := 5) C dL_told_65 (by decide) ?_
                refine aw_iald C dL_told_66 (sA_47 shOK_B) hw.1 ?_
                replace hw := hw.2
                refine aw_bipush (v := 14) C dL_told_67 (by decide) ?_
                refine aw_ic_ge C dL_told_69 130 (by decide) hw (fun hc69 hw => ?_) (fun hc69 hw => ?_)
                · exact hw.elim
                · refine aw_goto (tgt := 89) C dL_told_72 (by decide) ?_
                  exact aw_msk [true, true, false, false, false] (h89 ad_10 _ _ _ hFad_10 (by omega) (by omega) hw)
  unfold w_L_told_B at hw
  show aw p l e { frames := 8, cells := 30, slots := 180, locals := 133 } s m args below meth c 5 D tA A (MQ below (QL D tA ad A shB (fun r s' G' => r = some (.int 1) ∧ K s' G')) args s 30 180 A) 0 0 ad 0 [some (.ref 0), some (.ref 47), none, none, none] [] shB G0
  refine aw_aloadn C dL_told_0 rfl ?_
  refine aw_iconst (v := 2) C dL_told_1 (by decide) ?_
  refine aw_iald C dL_told_2 (sA_47 shOK_B) hw.1 ?_
  replace hw := hw.2
  refine aw_ldc (v := 39999) C dL_told_3 mK_L_145 ?_
  refine aw_ic_le C dL_told_5 12 (by decide) hw (fun hc5 hw => ?_) (fun hc5 hw => ?_)
  · refine aw_iconst (v := 0) C dL_told_12 (by decide) ?_
    exact aw_msk [true, true, false, false, false] (h13 ad _ _ 0 _ hF0 (by omega) (by omega) hw)
  · refine aw_iconst (v := 1) C dL_told_8 (by decide) ?_
    refine aw_goto (tgt := 13) C dL_told_9 (by decide) ?_
    exact aw_msk [true, true, false, false, false] (h13 ad _ _ 1 _ hF0 (by omega) (by omega) hw)
