/-! the law's own methods -/
theorem len_shB : shB.length = 145 := by decide +kernel
theorem ltAA {j : Nat} (h : j < 84) : j < shA.length := by rw [len_shA]; exact h
theorem ltAB {j : Nat} (h : j < 84) : j < shB.length := by rw [len_shB]; omega
theorem ltBB {j : Nat} (h : j < 145) : j < shB.length := by rw [len_shB]; exact h
theorem ltBN {j : Nat} {x : shE} (h : j < 145) : j < (shB.set 51 x).length := by rw [List.length_set, len_shB]; exact h
theorem ltA_ {j : Nat} (h : j < shA.length) : j < 84 := by rw [len_shA] at h; exact h
theorem ltB_ {j : Nat} (h : j < shB.length) : j < 145 := by rw [len_shB] at h; exact h
theorem ltN_ {j : Nat} {x : shE} (h : j < (shB.set 51 x).length) : j < 145 := by rw [List.length_set, len_shB] at h; exact h
def adr (c : Nat) (a b : Nat → Nat) : Nat → Nat := fun j => if j = c then a j else b j
theorem adr_ne {c : Nat} {a b : Nat → Nat} : ∀ j, ¬ j = c → b j = adr c a b j := fun j h => (if_neg h).symm
theorem adr_eq {c n : Nat} {a b : Nat → Nat} (h : ∀ j, j < n → ¬ j = c → b j = a j) : ∀ j, j < n → adr c a b j = a j := by
  intro j hj
  unfold adr
  split
  · rfl
  · exact h j hj (by assumption)
def w_L_notes_A_h166 (K : Sh → Gt → Prop) : Nat → Int32 → Gt → Prop
  | 0, _, _ => False
  | n + 1, x3, G0 =>
    pif (6 ≤ x3) (
      w_X10_hook_A (fun v3 G2 =>
        vp_in 24 26 ∧
        pt (gu G2 48 (24 : Int32).toNatClampNeg v3) fun G4 =>
        w_X10_buffer_A (fun v7 G6 =>
          vp_in 25 26 ∧
          pt (gu G6 48 (25 : Int32).toNatClampNeg v7) fun G8 =>
          vp_in 25 26 ∧
          pif ((G8 48 (25 : Int32).toNatClampNeg) = 0) (
            K shA G8) (
            vp_in 25 26 ∧
            pif ((G8 48 (25 : Int32).toNatClampNeg) = 1) (
              K shA G8) (
              False))) G4) G0) (
      pif (4 ≤ x3) (
        vp_in (12 + x3) 26 ∧
        pt (gu G0 48 ((12 + x3) : Int32).toNatClampNeg 0) fun G9 =>
        w_L_body_A (fun v12 s1 G11 => s1 = shA ∧
          vp_in (18 + x3) 26 ∧
          pt (gu G11 48 ((18 + x3) : Int32).toNatClampNeg v12) fun G13 =>
          w_L_notes_A_h166 K n (x3 + 1) G13) x3 G9) (
        w_L_option_A (fun v16 s1 G15 => s1 = shA ∧
          vp_in (12 + x3) 26 ∧
          pt (gu G15 48 ((12 + x3) : Int32).toNatClampNeg v16) fun G17 =>
          w_L_body_A (fun v20 s1 G19 => s1 = shA ∧
            vp_in (18 + x3) 26 ∧
            pt (gu G19 48 ((18 + x3) : Int32).toNatClampNeg v20) fun G21 =>
            w_L_notes_A_h166 K n (x3 + 1) G21) x3 G17) x3 G0))
def w_L_notes_A_h24 (K : Sh → Gt → Prop) (rec4 : Int32 → Gt → Prop) : Nat → Int32 → Int32 → Int32 → Gt → Prop
  | 0, _, _, _, _ => False
  | n + 1, x3, x4, x5, G0 =>
    pif (4 ≤ x5) (
      w_L_activeCursor_A (fun v28 s1 G27 => s1 = shA ∧
        vp_in (10 + x3) 26 ∧
        pt (gu G27 48 ((10 + x3) : Int32).toNatClampNeg v28) fun G29 =>
        pif (x4 < 0) (
          False) (
          pif (41 ≤ x4) (
            False) (
            vp_in (10 + x3) 26 ∧
            pif ((G29 48 ((10 + x3) : Int32).toNatClampNeg) < 0) (
              False) (
              vp_in (10 + x3) 26 ∧
              pif (4 ≤ (G29 48 ((10 + x3) : Int32).toNatClampNeg)) (
                False) (
                vp_in (10 + x3) 26 ∧
                w_L_cursor_A (fun v32 s1 G31 => s1 = shA ∧
                  pif (v32 < 0) (
                    False) (
                    w_L_letter_A (fun v35 s1 G34 => s1 = shA ∧
                      pif (v35 = (-1000001)) (
                        rec4 (x3 + 1) G34) (
                        False)) x3 x4 G31)) x3 (G29 48 ((10 + x3) : Int32).toNatClampNeg) G29))))) x3 G0) (
      w_L_cursor_A (fun v38 s1 G37 => s1 = shA ∧
        vp_in ((2 + (4 * x3)) + x5) 26 ∧
        pt (gu G37 48 (((2 + (4 * x3)) + x5) : Int32).toNatClampNeg v38) fun G39 =>
        pif (v38 < (-1)) (
          False) (
          pif (x4 < v38) (
            False) (
            w_L_notes_A_h24 K rec4 n x3 x4 (x5 + 1) G39))) x3 x5 G0)
def w_L_notes_A_h4 (K : Sh → Gt → Prop) : Nat → Int32 → Gt → Prop
  | 0, _, _ => False
  | n + 1, x3, G0 =>
    pif (2 ≤ x3) (
      ∃ i, i ≤ 7 ∧ w_L_notes_A_h166 K i 0 G0) (
      w_L_length_A (fun v24 s1 G23 => s1 = shA ∧
        vp_in x3 26 ∧
        pt (gu G23 48 (x3 : Int32).toNatClampNeg v24) fun G25 =>
        ∃ i, i ≤ 5 ∧ w_L_notes_A_h24 K (fun z0 z1 => w_L_notes_A_h4 K n z0 z1) i x3 v24 0 G25) x3 G0)
def w_L_notes_A (K : Sh → Gt → Prop) (G0 : Gt) : Prop :=
  ∃ i, i ≤ 3 ∧ w_L_notes_A_h4 K i 0 G0
set_option maxHeartbeats 4000000 in
set_option maxRecDepth 100000 in
theorem t_L_notes_A {l : Launch} (hlf : l.stackTraces = false) (G0 : Gt) (K : Sh → Gt → Prop) (hw : w_L_notes_A K G0) : CV l yL_notes cL_notes 7 (some .boolean) 8 135 41 246 [.ref 0, .ref 48] shA G0 (fun r s' G' => r = some (.int 1) ∧ K s' G') := by
  refine CV_of (by decide) (Nat.le_of_ble_eq_true rfl) rfl ?_
  intro p e s m args below meth c D tA ad A C hr
  have hF0 : ∀ j, j < 84 → ad j = ad j := fun _ _ => rfl
  have h166 : ∀ (f166 : Nat) (ad1 : Nat → Nat) (k n : Nat) (x3 : Int32) (G0 : Gt), (∀ j, j < 84 → ad1 j = ad j) → k + 2 * f166 + 0 ≤ 41 → n + 12 * f166 + 0 ≤ 246 → w_L_notes_A_h166 K f166 x3 G0 → aw p l e { frames := 8, cells := 41, slots := 246, locals := 135 } s m args below meth c 7 D tA A (MQ below (QL D tA ad A shA (fun r s' G' => r = some (.int 1) ∧ K s' G')) args s 41 246 A) k n ad1 166 [some (.ref 0), some (.ref 48), some (.int 1), some (.int x3), none, none, none] [] shA G0 := by
    intro f166
    induction f166 with
    | zero => intro ad1 k n x3 G0 hF hk hn hw; exact hw.elim
    | succ f166 ih166 =>
      intro ad1 k n x3 G0 hF hk hn hw
      rw [w_L_notes_A_h166] at hw
      refine aw_iloadn C dL_notes_166 rfl ?_
      refine aw_bipush (v := 6) C dL_notes_167 (by decide) ?_
      refine aw_ic_ge C dL_notes_169 209 (by decide) hw (fun hc169 hw => ?_) (fun hc169 hw => ?_)
      · refine aw_aloadn C dL_notes_209 rfl ?_
        refine aw_bipush (v := 24) C dL_notes_210 (by decide) ?_
        refine aw_aloadn C dL_notes_212 rfl ?_
        refine aw_runQ (mc := 0) (ms := 0) (rest := [.int 24, .ref 48]) C (run_V C dL_notes_213 ((t_X10_hook_A _ _ hw).toCV) mM_L_129 bX10_hook shA_0 rfl rfl ⟨Nat.le_of_ble_eq_true rfl, Nat.le_of_ble_eq_true rfl, by show _ ≤ 41; omega, by show _ ≤ 246; omega⟩ [.int 24, .ref 48] rfl (Nat.le_of_ble_eq_true rfl)) ⟨by decide, by decide, trivial⟩ ⟨by decide, trivial⟩ (fun r213 ad_1 s213 G2 hEad_1 hq => ?_)
        obtain ⟨rfl, v3, rfl, hw⟩ := hq
        have hFad_1 : (∀ j, j < 84 → ad_1 j = ad j) := fun j hj => (hEad_1 j (ltAA hj)).trans (hF j hj)
        refine aw_iast C dL_notes_216 (sA_48 shOK_A) hw.1 hw.2 (fun G4 hw => ?_)
        refine aw_aloadn C dL_notes_217 rfl ?_
        refine aw_bipush (v := 25) C dL_notes_218 (by decide) ?_
        refine aw_aloadn C dL_notes_220 rfl ?_
        refine aw_runQ (mc := 0) (ms := 0) (rest := [.int 25, .ref 48]) C (run_V C dL_notes_221 ((t_X10_buffer_A _ _ hw).toCV) mM_L_132 bX10_buffer shA_0 rfl rfl ⟨Nat.le_of_ble_eq_true rfl, Nat.le_of_ble_eq_true rfl, by show _ ≤ 41; omega, by show _ ≤ 246; omega⟩ [.int 25, .ref 48] rfl (Nat.le_of_ble_eq_true rfl)) ⟨by decide, by decide, trivial⟩ ⟨by decide, trivial⟩ (fun r221 ad_5 s221 G6 hEad_5 hq => ?_)
        obtain ⟨rfl, v7, rfl, hw⟩ := hq
        have hFad_5 : (∀ j, j < 84 → ad_5 j = ad j) := fun j hj => (hEad_5 j (ltAA hj)).trans (hFad_1 j hj)
        refine aw_iast C dL_notes_224 (sA_48 shOK_A) hw.1 hw.2 (fun G8 hw => ?_)
        refine aw_iloadn C dL_notes_225 rfl ?_
        refine aw_if_eq (X := True) (Y := True) C dL_notes_226 248 (by decide) ⟨fun _ => trivial, fun _ => trivial⟩ (fun hx _ => ?_) (fun hx _ => ?_)
        · exact (show False by revert hx; decide).elim
        · refine aw_aloadn C dL_notes_229 rfl ?_
          refine aw_bipush (v := 25) C dL_notes_230 (by decide) ?_
          refine aw_iald C dL_notes_232 (sA_48 shOK_A) hw.1 ?_
          replace hw := hw.2
          refine aw_if_eq C dL_notes_233 244 (by decide) hw (fun hc233 hw => ?_) (fun hc233 hw => ?_)
          · refine aw_iconst (v := 1) C dL_notes_244 (by decide) ?_
            refine aw_goto (tgt := 249) C dL_notes_245 (by decide) ?_
            exact aw_lzreturn C hr dL_notes_249 rfl (by omega) (by omega) (fun j hj => hFad_5 j (ltA_ hj)) ⟨rfl, hw⟩
          · refine aw_aloadn C dL_notes_236 rfl ?_
            refine aw_bipush (v := 25) C dL_notes_237 (by decide) ?_
            refine aw_iald C dL_notes_239 (sA_48 shOK_A) hw.1 ?_
            replace hw := hw.2
            refine aw_iconst (v := 1) C dL_notes_240 (by decide) ?_
            refine aw_ic_ne C dL_notes_241 248 (by decide) hw (fun hc241 hw => ?_) (fun hc241 hw => ?_)
            · exact hw.elim
            · refine aw_iconst (v := 1) C dL_notes_244 (by decide) ?_
              refine aw_goto (tgt := 249) C dL_notes_245 (by decide) ?_
              exact aw_lzreturn C hr dL_notes_249 rfl (by omega) (by omega) (fun j hj => hFad_5 j (ltA_ hj)) ⟨rfl, hw⟩
      · refine aw_aloadn C dL_notes_172 rfl ?_
        refine aw_bipush (v := 12) C dL_notes_173 (by decide) ?_
        refine aw_iloadn C dL_notes_175 rfl ?_
        refine aw_iadd C dL_notes_176 ?_
        refine aw_iloadn C dL_notes_177 rfl ?_
        refine aw_iconst (v := 4) C dL_notes_178 (by decide) ?_
        refine aw_ic_ge C dL_notes_179 190 (by decide) hw (fun hc179 hw => ?_) (fun hc179 hw => ?_)
        · refine aw_iconst (v := 0) C dL_notes_190 (by decide) ?_
          refine aw_iast C dL_notes_191 (sA_48 shOK_A) hw.1 hw.2 (fun G9 hw => ?_)
          refine aw_aloadn C dL_notes_192 rfl ?_
          refine aw_bipush (v := 18) C dL_notes_193 (by decide) ?_
          refine aw_iloadn C dL_notes_195 rfl ?_
          refine aw_iadd C dL_notes_196 ?_
          refine aw_aloadn C dL_notes_197 rfl ?_
          refine aw_iloadn C dL_notes_198 rfl ?_
          refine aw_runQ (mc := 1) (ms := 6) (rest := [.int (18 + x3), .ref 48]) C (run_W (na := 2) C dL_notes_199 (t_L_body_A hlf x3 _ _ hw) mM_L_127 mW_body mT_body mI_L (by decide +kernel) rfl ⟨Nat.le_of_ble_eq_true rfl, Nat.le_of_ble_eq_true rfl, by show _ ≤ 41; omega, by show _ ≤ 246; omega⟩ [.int (18 + x3), .ref 48] rfl (Nat.le_of_ble_eq_true rfl)) ⟨by decide, by decide, trivial⟩ ⟨by decide, trivial⟩ (fun r199 ad_10 s199 G11 hEad_10 hq => ?_)
          obtain ⟨v12, rfl, rfl, hw⟩ := hq
          have hFad_10 : (∀ j, j < 84 → ad_10 j = ad j) := fun j hj => (hEad_10 j (ltAA hj)).trans (hF j hj)
          refine aw_iast C dL_notes_202 (sA_48 shOK_A) hw.1 hw.2 (fun G13 hw => ?_)
          refine aw_iinc (w := (x3 + 1)) C dL_notes_203 rfl rfl (by decide) rfl ?_
          refine aw_goto (tgt := 166) C dL_notes_206 (by decide) ?_
          exact aw_msk [true, true, true, true, false, false, false] (ih166 ad_10 _ _ (x3 + 1) _ hFad_10 (by omega) (by omega) hw)
        · refine aw_aloadn C dL_notes_182 rfl ?_
          refine aw_iloadn C dL_notes_183 rfl ?_
          refine aw_runQ (mc := 1) (ms := 6) (rest := [.int (12 + x3), .ref 48]) C (run_W (na := 2) C dL_notes_184 (t_L_option_A hlf x3 _ _ hw) mM_L_125 mW_option mT_option mI_L (by decide +kernel) rfl ⟨Nat.le_of_ble_eq_true rfl, Nat.le_of_ble_eq_true rfl, by show _ ≤ 41; omega, by show _ ≤ 246; omega⟩ [.int (12 + x3), .ref 48] rfl (Nat.le_of_ble_eq_true rfl)) ⟨by decide, by decide, trivial⟩ ⟨by decide, trivial⟩ (fun r184 ad_14 s184 G15 hEad_14 hq => ?_)
          obtain ⟨v16, rfl, rfl, hw⟩ := hq
          have hFad_14 : (∀ j, j < 84 → ad_14 j = ad j) := fun j hj => (hEad_14 j (ltAA hj)).trans (hF j hj)
          refine aw_goto (tgt := 191) C dL_notes_187 (by decide) ?_
          refine aw_iast C dL_notes_191 (sA_48 shOK_A) hw.1 hw.2 (fun G17 hw => ?_)
          refine aw_aloadn C dL_notes_192 rfl ?_
          refine aw_bipush (v := 18) C dL_notes_193 (by decide) ?_
          refine aw_iloadn C dL_notes_195 rfl ?_
          refine aw_iadd C dL_notes_196 ?_
          refine aw_aloadn C dL_notes_197 rfl ?_
          refine aw_iloadn C dL_notes_198 rfl ?_
          refine aw_runQ (mc := 1) (ms := 6) (rest := [.int (18 + x3), .ref 48]) C (run_W (na := 2) C dL_notes_199 (t_L_body_A hlf x3 _ _ hw) mM_L_127 mW_body mT_body mI_L (by decide +kernel) rfl ⟨Nat.le_of_ble_eq_true rfl, Nat.le_of_ble_eq_true rfl, by show _ ≤ 41; omega, by show _ ≤ 246; omega⟩ [.int (18 + x3), .ref 48] rfl (Nat.le_of_ble_eq_true rfl)) ⟨by decide, by decide, trivial⟩ ⟨by decide, trivial⟩ (fun r199 ad_18 s199 G19 hEad_18 hq => ?_)
          obtain ⟨v20, rfl, rfl, hw⟩ := hq
          have hFad_18 : (∀ j, j < 84 → ad_18 j = ad j) := fun j hj => (hEad_18 j (ltAA hj)).trans (hFad_14 j hj)
          refine aw_iast C dL_notes_202 (sA_48 shOK_A) hw.1 hw.2 (fun G21 hw => ?_)
          refine aw_iinc (w := (x3 + 1)) C dL_notes_203 rfl rfl (by decide) rfl ?_
          refine aw_goto (tgt := 166) C dL_notes_206 (by decide) ?_
          exact aw_msk [true, true, true, true, false, false, false] (ih166 ad_18 _ _ (x3 + 1) _ hFad_18 (by omega) (by omega) hw)
  have h24 : ∀ (f4 : Nat) (rec4 : Int32 → Gt → Prop) (hrec4 : ∀ (ad1 : Nat → Nat) (k n : Nat) (x3 : Int32) (G0 : Gt), (∀ j, j < 84 → ad1 j = ad j) → k + 9 * f4 + 14 ≤ 41 → n + 54 * f4 + 84 ≤ 246 → rec4 x3 G0 → aw p l e { frames := 8, cells := 41, slots := 246, locals := 135 } s m args below meth c 7 D tA A (MQ below (QL D tA ad A shA (fun r s' G' => r = some (.int 1) ∧ K s' G')) args s 41 246 A) k n ad1 4 [some (.ref 0), some (.ref 48), some (.int 1), some (.int x3), none, none, none] [] shA G0), ∀ (f24 : Nat) (ad1 : Nat → Nat) (k n : Nat) (x3 : Int32) (x4 : Int32) (x5 : Int32) (G0 : Gt), (∀ j, j < 84 → ad1 j = ad j) → k + 1 * f24 + 3 + 9 * f4 + 14 ≤ 41 → n + 6 * f24 + 18 + 54 * f4 + 84 ≤ 246 → w_L_notes_A_h24 K rec4 f24 x3 x4 x5 G0 → aw p l e { frames := 8, cells := 41, slots := 246, locals := 135 } s m args below meth c 7 D tA A (MQ below (QL D tA ad A shA (fun r s' G' => r = some (.int 1) ∧ K s' G')) args s 41 246 A) k n ad1 24 [some (.ref 0), some (.ref 48), some (.int 1), some (.int x3), some (.int x4), some (.int x5), none] [] shA G0 := by
    intro f4 rec4 hrec4 f24
    induction f24 with
    | zero => intro ad1 k n x3 x4 x5 G0 hF hk hn hw; exact hw.elim
    | succ f24 ih24 =>
      intro ad1 k n x3 x4 x5 G0 hF hk hn hw
      rw [w_L_notes_A_h24] at hw
      refine aw_iload C dL_notes_24 rfl ?_
      refine aw_iconst (v := 4) C dL_notes_26 (by decide) ?_
      refine aw_ic_ge C dL_notes_27 80 (by decide) hw (fun hc27 hw => ?_) (fun hc27 hw => ?_)
      · refine aw_aloadn C dL_notes_80 rfl ?_
        refine aw_bipush (v := 10) C dL_notes_81 (by decide) ?_
        refine aw_iloadn C dL_notes_83 rfl ?_
        refine aw_iadd C dL_notes_84 ?_
        refine aw_aloadn C dL_notes_85 rfl ?_
        refine aw_iloadn C dL_notes_86 rfl ?_
        refine aw_runQ (mc := 1) (ms := 6) (rest := [.int (10 + x3), .ref 48]) C (run_W (na := 2) C dL_notes_87 (t_L_activeCursor_A hlf x3 _ _ hw) mM_L_121 mW_activeCursor mT_activeCursor mI_L (by decide +kernel) rfl ⟨Nat.le_of_ble_eq_true rfl, Nat.le_of_ble_eq_true rfl, by show _ ≤ 41; omega, by show _ ≤ 246; omega⟩ [.int (10 + x3), .ref 48] rfl (Nat.le_of_ble_eq_true rfl)) ⟨by decide, by decide, trivial⟩ ⟨by decide, trivial⟩ (fun r87 ad_26 s87 G27 hEad_26 hq => ?_)
        obtain ⟨v28, rfl, rfl, hw⟩ := hq
        have hFad_26 : (∀ j, j < 84 → ad_26 j = ad j) := fun j hj => (hEad_26 j (ltAA hj)).trans (hF j hj)
        refine aw_iast C dL_notes_90 (sA_48 shOK_A) hw.1 hw.2 (fun G29 hw => ?_)
        refine aw_iloadn C dL_notes_91 rfl ?_
        refine aw_if_eq (X := True) (Y := True) C dL_notes_92 156 (by decide) ⟨fun _ => trivial, fun _ => trivial⟩ (fun hx _ => ?_) (fun hx _ => ?_)
        · exact (show False by revert hx; decide).elim
        · refine aw_iload C dL_notes_95 rfl ?_
          refine aw_if_lt C dL_notes_97 156 (by decide) hw (fun hc97 hw => ?_) (fun hc97 hw => ?_)
          · exact hw.elim
          · refine aw_iload C dL_notes_100 rfl ?_
            refine aw_bipush (v := 41) C dL_notes_102 (by decide) ?_
            refine aw_ic_ge C dL_notes_104 156 (by decide) hw (fun hc104 hw => ?_) (fun hc104 hw => ?_)
            · exact hw.elim
            · refine aw_aloadn C dL_notes_107 rfl ?_
              refine aw_bipush (v := 10) C dL_notes_108 (by decide) ?_
              refine aw_iloadn C dL_notes_110 rfl ?_
              refine aw_iadd C dL_notes_111 ?_
              refine aw_iald C dL_notes_112 (sA_48 shOK_A) hw.1 ?_
              replace hw := hw.2
              refine aw_if_lt C dL_notes_113 156 (by decide) hw (fun hc113 hw => ?_) (fun hc113 hw => ?_)
              · exact hw.elim
              · refine aw_aloadn C dL_notes_116 rfl ?_
                refine aw_bipush (v := 10) C dL_notes_117 (by decide) ?_
                refine aw_iloadn C dL_notes_119 rfl ?_
                refine aw_iadd C dL_notes_120 ?_
                refine aw_iald C dL_notes_121 (sA_48 shOK_A) hw.1 ?_
                replace hw := hw.2
                refine aw_iconst (v := 4) C dL_notes_122 (by decide) ?_
                refine aw_ic_ge C dL_notes_123 156 (by decide) hw (fun hc123 hw => ?_) (fun hc123 hw => ?_)
                · exact hw.elim
                · refine aw_aloadn C dL_notes_126 rfl ?_
                  refine aw_iloadn C dL_notes_127 rfl ?_
                  refine aw_aloadn C dL_notes_128 rfl ?_
                  refine aw_bipush (v := 10) C dL_notes_129 (by decide) ?_
                  refine aw_iloadn C dL_notes_131 rfl ?_
                  refine aw_iadd C dL_notes_132 ?_
                  refine aw_iald C dL_notes_133 (sA_48 shOK_A) hw.1 ?_
                  replace hw := hw.2
                  refine aw_runQ (mc := 1) (ms := 6) (rest := []) C (run_W (na := 3) C dL_notes_134 (t_L_cursor_A hlf x3 (G29 48 ((10 + x3) : Int32).toNatClampNeg) _ _ hw) mM_L_118 mW_cursor mT_cursor mI_L (by decide +kernel) rfl ⟨Nat.le_of_ble_eq_true rfl, Nat.le_of_ble_eq_true rfl, by show _ ≤ 41; omega, by show _ ≤ 246; omega⟩ [] rfl (Nat.le_of_ble_eq_true rfl)) ⟨by decide, by decide, trivial⟩ trivial (fun r134 ad_30 s134 G31 hEad_30 hq => ?_)
                  obtain ⟨v32, rfl, rfl, hw⟩ := hq
                  have hFad_30 : (∀ j, j < 84 → ad_30 j = ad j) := fun j hj => (hEad_30 j (ltAA hj)).trans (hFad_26 j hj)
                  refine aw_if_lt C dL_notes_137 156 (by decide) hw (fun hc137 hw => ?_) (fun hc137 hw => ?_)
                  · exact hw.elim
                  · refine aw_aloadn C dL_notes_140 rfl ?_
                    refine aw_iloadn C dL_notes_141 rfl ?_
                    refine aw_iload C dL_notes_142 rfl ?_
                    refine aw_runQ (mc := 1) (ms := 6) (rest := []) C (run_W (na := 3) C dL_notes_144 (t_L_letter_A hlf x3 x4 _ _ hw) mM_L_123 mW_letter mT_letter mI_L (by decide +kernel) rfl ⟨Nat.le_of_ble_eq_true rfl, Nat.le_of_ble_eq_true rfl, by show _ ≤ 41; omega, by show _ ≤ 246; omega⟩ [] rfl (Nat.le_of_ble_eq_true rfl)) ⟨by decide, by decide, trivial⟩ trivial (fun r144 ad_33 s144 G34 hEad_33 hq => ?_)
                    obtain ⟨v35, rfl, rfl, hw⟩ := hq
                    have hFad_33 : (∀ j, j < 84 → ad_33 j = ad j) := fun j hj => (hEad_33 j (ltAA hj)).trans (hFad_30 j hj)
                    refine aw_ldc (v := (-1000001)) C dL_notes_147 mK_L_18 ?_
                    refine aw_ic_ne C dL_notes_149 156 (by decide) hw (fun hc149 hw => ?_) (fun hc149 hw => ?_)
                    · exact hw.elim
                    · refine aw_iconst (v := 1) C dL_notes_152 (by decide) ?_
                      refine aw_goto (tgt := 157) C dL_notes_153 (by decide) ?_
                      refine aw_istoren C dL_notes_157 (by decide) rfl ?_
                      refine aw_iinc (w := (x3 + 1)) C dL_notes_158 rfl rfl (by decide) rfl ?_
                      refine aw_goto (tgt := 4) C dL_notes_161 (by decide) ?_
                      exact aw_msk [true, true, true, true, false, false, false] (hrec4 ad_33 _ _ (x3 + 1) _ hFad_33 (by omega) (by omega) hw)
      · refine aw_aloadn C dL_notes_30 rfl ?_
        refine aw_iloadn C dL_notes_31 rfl ?_
        refine aw_iload C dL_notes_32 rfl ?_
        refine aw_runQ (mc := 1) (ms := 6) (rest := []) C (run_W (na := 3) C dL_notes_34 (t_L_cursor_A hlf x3 x5 _ _ hw) mM_L_118 mW_cursor mT_cursor mI_L (by decide +kernel) rfl ⟨Nat.le_of_ble_eq_true rfl, Nat.le_of_ble_eq_true rfl, by show _ ≤ 41; omega, by show _ ≤ 246; omega⟩ [] rfl (Nat.le_of_ble_eq_true rfl)) ⟨by decide, by decide, trivial⟩ trivial (fun r34 ad_36 s34 G37 hEad_36 hq => ?_)
        obtain ⟨v38, rfl, rfl, hw⟩ := hq
        have hFad_36 : (∀ j, j < 84 → ad_36 j = ad j) := fun j hj => (hEad_36 j (ltAA hj)).trans (hF j hj)
        refine aw_istore C dL_notes_37 (by decide) rfl ?_
        refine aw_aloadn C dL_notes_39 rfl ?_
        refine aw_iconst (v := 2) C dL_notes_40 (by decide) ?_
        refine aw_iconst (v := 4) C dL_notes_41 (by decide) ?_
        refine aw_iloadn C dL_notes_42 rfl ?_
        refine aw_imul C dL_notes_43 ?_
        refine aw_iadd C dL_notes_44 ?_
        refine aw_iload C dL_notes_45 rfl ?_
        refine aw_iadd C dL_notes_47 ?_
        refine aw_iload C dL_notes_48 rfl ?_
        refine aw_iast C dL_notes_50 (sA_48 shOK_A) hw.1 hw.2 (fun G39 hw => ?_)
        refine aw_iloadn C dL_notes_51 rfl ?_
        refine aw_if_eq (X := True) (Y := True) C dL_notes_52 72 (by decide) ⟨fun _ => trivial, fun _ => trivial⟩ (fun hx _ => ?_) (fun hx _ => ?_)
        · exact (show False by revert hx; decide).elim
        · refine aw_iload C dL_notes_55 rfl ?_
          refine aw_iconst (v := (-1)) C dL_notes_57 (by decide) ?_
          refine aw_ic_lt C dL_notes_58 72 (by decide) hw (fun hc58 hw => ?_) (fun hc58 hw => ?_)
          · exact hw.elim
          · refine aw_iload C dL_notes_61 rfl ?_
            refine aw_iload C dL_notes_63 rfl ?_
            refine aw_ic_gt C dL_notes_65 72 (by decide) hw (fun hc65 hw => ?_) (fun hc65 hw => ?_)
            · exact hw.elim
            · refine aw_iconst (v := 1) C dL_notes_68 (by decide) ?_
              refine aw_goto (tgt := 73) C dL_notes_69 (by decide) ?_
              refine aw_istoren C dL_notes_73 (by decide) rfl ?_
              refine aw_iinc (w := (x5 + 1)) C dL_notes_74 rfl rfl (by decide) rfl ?_
              refine aw_goto (tgt := 24) C dL_notes_77 (by decide) ?_
              exact aw_msk [true, true, true, true, true, true, false] (ih24 ad_36 _ _ x3 x4 (x5 + 1) _ hFad_36 (by omega) (by omega) hw)
  have h4 : ∀ (f4 : Nat) (ad1 : Nat → Nat) (k n : Nat) (x3 : Int32) (G0 : Gt), (∀ j, j < 84 → ad1 j = ad j) → k + 9 * f4 + 14 ≤ 41 → n + 54 * f4 + 84 ≤ 246 → w_L_notes_A_h4 K f4 x3 G0 → aw p l e { frames := 8, cells := 41, slots := 246, locals := 135 } s m args below meth c 7 D tA A (MQ below (QL D tA ad A shA (fun r s' G' => r = some (.int 1) ∧ K s' G')) args s 41 246 A) k n ad1 4 [some (.ref 0), some (.ref 48), some (.int 1), some (.int x3), none, none, none] [] shA G0 := by
    intro f4
    induction f4 with
    | zero => intro ad1 k n x3 G0 hF hk hn hw; exact hw.elim
    | succ f4 ih4 =>
      intro ad1 k n x3 G0 hF hk hn hw
      rw [w_L_notes_A_h4] at hw
      refine aw_iloadn C dL_notes_4 rfl ?_
      refine aw_iconst (v := 2) C dL_notes_5 (by decide) ?_
      refine aw_ic_ge C dL_notes_6 164 (by decide) hw (fun hc6 hw => ?_) (fun hc6 hw => ?_)
      · refine aw_iconst (v := 0) C dL_notes_164 (by decide) ?_
        refine aw_istoren C dL_notes_165 (by decide) rfl ?_
        obtain ⟨f0, hf0, hw⟩ := hw
        exact aw_msk [true, true, true, true, false, false, false] (h166 f0 ad1 _ _ 0 _ hF (by omega) (by omega) hw)
      · refine aw_aloadn C dL_notes_9 rfl ?_
        refine aw_iloadn C dL_notes_10 rfl ?_
        refine aw_runQ (mc := 1) (ms := 6) (rest := []) C (run_W (na := 2) C dL_notes_11 (t_L_length_A hlf x3 _ _ hw) mM_L_116 mW_length mT_length mI_L (by decide +kernel) rfl ⟨Nat.le_of_ble_eq_true rfl, Nat.le_of_ble_eq_true rfl, by show _ ≤ 41; omega, by show _ ≤ 246; omega⟩ [] rfl (Nat.le_of_ble_eq_true rfl)) ⟨by decide, by decide, trivial⟩ trivial (fun r11 ad_22 s11 G23 hEad_22 hq => ?_)
        obtain ⟨v24, rfl, rfl, hw⟩ := hq
        have hFad_22 : (∀ j, j < 84 → ad_22 j = ad j) := fun j hj => (hEad_22 j (ltAA hj)).trans (hF j hj)
        refine aw_istore C dL_notes_14 (by decide) rfl ?_
        refine aw_aloadn C dL_notes_16 rfl ?_
        refine aw_iloadn C dL_notes_17 rfl ?_
        refine aw_iload C dL_notes_18 rfl ?_
        refine aw_iast C dL_notes_20 (sA_48 shOK_A) hw.1 hw.2 (fun G25 hw => ?_)
        refine aw_iconst (v := 0) C dL_notes_21 (by decide) ?_
        refine aw_istore C dL_notes_22 (by decide) rfl ?_
        obtain ⟨f0, hf0, hw⟩ := hw
        exact aw_msk [true, true, true, true, true, true, false] (h24 f4 _ ih4 f0 ad_22 _ _ x3 v24 0 _ hFad_22 (by omega) (by omega) hw)
  unfold w_L_notes_A at hw
  show aw p l e { frames := 8, cells := 41, slots := 246, locals := 135 } s m args below meth c 7 D tA A (MQ below (QL D tA ad A shA (fun r s' G' => r = some (.int 1) ∧ K s' G')) args s 41 246 A) 0 0 ad 0 [some (.ref 0), some (.ref 48), none, none, none, none, none] [] shA G0
  refine aw_iconst (v := 1) C dL_notes_0 (by decide) ?_
  refine aw_istoren C dL_notes_1 (by decide) rfl ?_
  refine aw_iconst (v := 0) C dL_notes_2 (by decide) ?_
  refine aw_istoren C dL_notes_3 (by decide) rfl ?_
  obtain ⟨f0, hf0, hw⟩ := hw
  exact aw_msk [true, true, true, true, false, false, false] (h4 f0 ad _ _ 0 _ hF0 (by omega) (by omega) hw)
def w_L_notes_B_h166 (K : Sh → Gt → Prop) : Nat → Int32 → Gt → Prop
  | 0, _, _ => False
  | n + 1, x3, G0 =>
    pif (6 ≤ x3) (
      w_X10_hook_B (fun v3 G2 =>
        vp_in 24 26 ∧
        pt (gu G2 48 (24 : Int32).toNatClampNeg v3) fun G4 =>
        w_X10_buffer_B (fun v7 G6 =>
          vp_in 25 26 ∧
          pt (gu G6 48 (25 : Int32).toNatClampNeg v7) fun G8 =>
          vp_in 25 26 ∧
          pif ((G8 48 (25 : Int32).toNatClampNeg) = 0) (
            K shB G8) (
            vp_in 25 26 ∧
            pif ((G8 48 (25 : Int32).toNatClampNeg) = 1) (
              K shB G8) (
              False))) G4) G0) (
      pif (4 ≤ x3) (
        vp_in (12 + x3) 26 ∧
        pt (gu G0 48 ((12 + x3) : Int32).toNatClampNeg 0) fun G9 =>
        w_L_body_B (fun v12 s1 G11 => s1 = shB ∧
          vp_in (18 + x3) 26 ∧
          pt (gu G11 48 ((18 + x3) : Int32).toNatClampNeg v12) fun G13 =>
          w_L_notes_B_h166 K n (x3 + 1) G13) x3 G9) (
        w_L_option_B (fun v16 s1 G15 => s1 = shB ∧
          vp_in (12 + x3) 26 ∧
          pt (gu G15 48 ((12 + x3) : Int32).toNatClampNeg v16) fun G17 =>
          w_L_body_B (fun v20 s1 G19 => s1 = shB ∧
            vp_in (18 + x3) 26 ∧
            pt (gu G19 48 ((18 + x3) : Int32).toNatClampNeg v20) fun G21 =>
            w_L_notes_B_h166 K n (x3 + 1) G21) x3 G17) x3 G0))
def w_L_notes_B_h24 (K : Sh → Gt → Prop) (rec4 : Int32 → Gt → Prop) : Nat → Int32 → Int32 → Int32 → Gt → Prop
  | 0, _, _, _, _ => False
  | n + 1, x3, x4, x5, G0 =>
    pif (4 ≤ x5) (
      w_L_activeCursor_B (fun v28 s1 G27 => s1 = shB ∧
        vp_in (10 + x3) 26 ∧
        pt (gu G27 48 ((10 + x3) : Int32).toNatClampNeg v28) fun G29 =>
        pif (x4 < 0) (
          False) (
          pif (41 ≤ x4) (
            False) (
            vp_in (10 + x3) 26 ∧
            pif ((G29 48 ((10 + x3) : Int32).toNatClampNeg) < 0) (
              False) (
              vp_in (10 + x3) 26 ∧
              pif (4 ≤ (G29 48 ((10 + x3) : Int32).toNatClampNeg)) (
                False) (
                vp_in (10 + x3) 26 ∧
                w_L_cursor_B (fun v32 s1 G31 => s1 = shB ∧
                  pif (v32 < 0) (
                    False) (
                    w_L_letter_B (fun v35 s1 G34 => s1 = shB ∧
                      pif (v35 = (-1000001)) (
                        rec4 (x3 + 1) G34) (
                        False)) x3 x4 G31)) x3 (G29 48 ((10 + x3) : Int32).toNatClampNeg) G29))))) x3 G0) (
      w_L_cursor_B (fun v38 s1 G37 => s1 = shB ∧
        vp_in ((2 + (4 * x3)) + x5) 26 ∧
        pt (gu G37 48 (((2 + (4 * x3)) + x5) : Int32).toNatClampNeg v38) fun G39 =>
        pif (v38 < (-1)) (
          False) (
          pif (x4 < v38) (
            False) (
            w_L_notes_B_h24 K rec4 n x3 x4 (x5 + 1) G39))) x3 x5 G0)
def w_L_notes_B_h4 (K : Sh → Gt → Prop) : Nat → Int32 → Gt → Prop
  | 0, _, _ => False
  | n + 1, x3, G0 =>
    pif (2 ≤ x3) (
      ∃ i, i ≤ 7 ∧ w_L_notes_B_h166 K i 0 G0) (
      w_L_length_B (fun v24 s1 G23 => s1 = shB ∧
        vp_in x3 26 ∧
        pt (gu G23 48 (x3 : Int32).toNatClampNeg v24) fun G25 =>
        ∃ i, i ≤ 5 ∧ w_L_notes_B_h24 K (fun z0 z1 => w_L_notes_B_h4 K n z0 z1) i x3 v24 0 G25) x3 G0)
def w_L_notes_B (K : Sh → Gt → Prop) (G0 : Gt) : Prop :=
  ∃ i, i ≤ 3 ∧ w_L_notes_B_h4 K i 0 G0
set_option maxHeartbeats 4000000 in
set_option maxRecDepth 100000 in
theorem t_L_notes_B {l : Launch} (hlf : l.stackTraces = false) (G0 : Gt) (K : Sh → Gt → Prop) (hw : w_L_notes_B K G0) : CV l yL_notes cL_notes 7 (some .boolean) 8 135 41 246 [.ref 0, .ref 48] shB G0 (fun r s' G' => r = some (.int 1) ∧ K s' G') := by
  refine CV_of (by decide) (Nat.le_of_ble_eq_true rfl) rfl ?_
  intro p e s m args below meth c D tA ad A C hr
  have hF0 : ∀ j, j < 145 → ad j = ad j := fun _ _ => rfl
  have h166 : ∀ (f166 : Nat) (ad1 : Nat → Nat) (k n : Nat) (x3 : Int32) (G0 : Gt), (∀ j, j < 145 → ad1 j = ad j) → k + 2 * f166 + 0 ≤ 41 → n + 12 * f166 + 0 ≤ 246 → w_L_notes_B_h166 K f166 x3 G0 → aw p l e { frames := 8, cells := 41, slots := 246, locals := 135 } s m args below meth c 7 D tA A (MQ below (QL D tA ad A shB (fun r s' G' => r = some (.int 1) ∧ K s' G')) args s 41 246 A) k n ad1 166 [some (.ref 0), some (.ref 48), some (.int 1), some (.int x3), none, none, none] [] shB G0 := by
    intro f166
    induction f166 with
    | zero => intro ad1 k n x3 G0 hF hk hn hw; exact hw.elim
    | succ f166 ih166 =>
      intro ad1 k n x3 G0 hF hk hn hw
      rw [w_L_notes_B_h166] at hw
      refine aw_iloadn C dL_notes_166 rfl ?_
      refine aw_bipush (v := 6) C dL_notes_167 (by decide) ?_
      refine aw_ic_ge C dL_notes_169 209 (by decide) hw (fun hc169 hw => ?_) (fun hc169 hw => ?_)
      · refine aw_aloadn C dL_notes_209 rfl ?_
        refine aw_bipush (v := 24) C dL_notes_210 (by decide) ?_
        refine aw_aloadn C dL_notes_212 rfl ?_
        refine aw_runQ (mc := 0) (ms := 0) (rest := [.int 24, .ref 48]) C (run_V C dL_notes_213 ((t_X10_hook_B _ _ hw).toCV) mM_L_129 bX10_hook shB_0 rfl rfl ⟨Nat.le_of_ble_eq_true rfl, Nat.le_of_ble_eq_true rfl, by show _ ≤ 41; omega, by show _ ≤ 246; omega⟩ [.int 24, .ref 48] rfl (Nat.le_of_ble_eq_true rfl)) ⟨by decide, by decide, trivial⟩ ⟨by decide, trivial⟩ (fun r213 ad_1 s213 G2 hEad_1 hq => ?_)
        obtain ⟨rfl, v3, rfl, hw⟩ := hq
        have hFad_1 : (∀ j, j < 145 → ad_1 j = ad j) := fun j hj => (hEad_1 j (ltBB hj)).trans (hF j hj)
        refine aw_iast C dL_notes_216 (sA_48 shOK_B) hw.1 hw.2 (fun G4 hw => ?_)
        refine aw_aloadn C dL_notes_217 rfl ?_
        refine aw_bipush (v := 25) C dL_notes_218 (by decide) ?_
        refine aw_aloadn C dL_notes_220 rfl ?_
        refine aw_runQ (mc := 0) (ms := 0) (rest := [.int 25, .ref 48]) C (run_V C dL_notes_221 ((t_X10_buffer_B _ _ hw).toCV) mM_L_132 bX10_buffer shB_0 rfl rfl ⟨Nat.le_of_ble_eq_true rfl, Nat.le_of_ble_eq_true rfl, by show _ ≤ 41; omega, by show _ ≤ 246; omega⟩ [.int 25, .ref 48] rfl (Nat.le_of_ble_eq_true rfl)) ⟨by decide, by decide, trivial⟩ ⟨by decide, trivial⟩ (fun r221 ad_5 s221 G6 hEad_5 hq => ?_)
        obtain ⟨rfl, v7, rfl, hw⟩ := hq
        have hFad_5 : (∀ j, j < 145 → ad_5 j = ad j) := fun j hj => (hEad_5 j (ltBB hj)).trans (hFad_1 j hj)
        refine aw_iast C dL_notes_224 (sA_48 shOK_B) hw.1 hw.2 (fun G8 hw => ?_)
        refine aw_iloadn C dL_notes_225 rfl ?_
        refine aw_if_eq (X := True) (Y := True) C dL_notes_226 248 (by decide) ⟨fun _ => trivial, fun _ => trivial⟩ (fun hx _ => ?_) (fun hx _ => ?_)
        · exact (show False by revert hx; decide).elim
        · refine aw_aloadn C dL_notes_229 rfl ?_
          refine aw_bipush (v := 25) C dL_notes_230 (by decide) ?_
          refine aw_iald C dL_notes_232 (sA_48 shOK_B) hw.1 ?_
          replace hw := hw.2
          refine aw_if_eq C dL_notes_233 244 (by decide) hw (fun hc233 hw => ?_) (fun hc233 hw => ?_)
          · refine aw_iconst (v := 1) C dL_notes_244 (by decide) ?_
            refine aw_goto (tgt := 249) C dL_notes_245 (by decide) ?_
            exact aw_lzreturn C hr dL_notes_249 rfl (by omega) (by omega) (fun j hj => hFad_5 j (ltB_ hj)) ⟨rfl, hw⟩
          · refine aw_aloadn C dL_notes_236 rfl ?_
            refine aw_bipush (v := 25) C dL_notes_237 (by decide) ?_
            refine aw_iald C dL_notes_239 (sA_48 shOK_B) hw.1 ?_
            replace hw := hw.2
            refine aw_iconst (v := 1) C dL_notes_240 (by decide) ?_
            refine aw_ic_ne C dL_notes_241 248 (by decide) hw (fun hc241 hw => ?_) (fun hc241 hw => ?_)
            · exact hw.elim
            · refine aw_iconst (v := 1) C dL_notes_244 (by decide) ?_
              refine aw_goto (tgt := 249) C dL_notes_245 (by decide) ?_
              exact aw_lzreturn C hr dL_notes_249 rfl (by omega) (by omega) (fun j hj => hFad_5 j (ltB_ hj)) ⟨rfl, hw⟩
      · refine aw_aloadn C dL_notes_172 rfl ?_
        refine aw_bipush (v := 12) C dL_notes_173 (by decide) ?_
        refine aw_iloadn C dL_notes_175 rfl ?_
        refine aw_iadd C dL_notes_176 ?_
        refine aw_iloadn C dL_notes_177 rfl ?_
        refine aw_iconst (v := 4) C dL_notes_178 (by decide) ?_
        refine aw_ic_ge C dL_notes_179 190 (by decide) hw (fun hc179 hw => ?_) (fun hc179 hw => ?_)
        · refine aw_iconst (v := 0) C dL_notes_190 (by decide) ?_
          refine aw_iast C dL_notes_191 (sA_48 shOK_B) hw.1 hw.2 (fun G9 hw => ?_)
          refine aw_aloadn C dL_notes_192 rfl ?_
          refine aw_bipush (v := 18) C dL_notes_193 (by decide) ?_
          refine aw_iloadn C dL_notes_195 rfl ?_
          refine aw_iadd C dL_notes_196 ?_
          refine aw_aloadn C dL_notes_197 rfl ?_
          refine aw_iloadn C dL_notes_198 rfl ?_
          refine aw_runQ (mc := 1) (ms := 6) (rest := [.int (18 + x3), .ref 48]) C (run_W (na := 2) C dL_notes_199 (t_L_body_B hlf x3 _ _ hw) mM_L_127 mW_body mT_body mI_L (by decide +kernel) rfl ⟨Nat.le_of_ble_eq_true rfl, Nat.le_of_ble_eq_true rfl, by show _ ≤ 41; omega, by show _ ≤ 246; omega⟩ [.int (18 + x3), .ref 48] rfl (Nat.le_of_ble_eq_true rfl)) ⟨by decide, by decide, trivial⟩ ⟨by decide, trivial⟩ (fun r199 ad_10 s199 G11 hEad_10 hq => ?_)
          obtain ⟨v12, rfl, rfl, hw⟩ := hq
          have hFad_10 : (∀ j, j < 145 → ad_10 j = ad j) := fun j hj => (hEad_10 j (ltBB hj)).trans (hF j hj)
          refine aw_iast C dL_notes_202 (sA_48 shOK_B) hw.1 hw.2 (fun G13 hw => ?_)
          refine aw_iinc (w := (x3 + 1)) C dL_notes_203 rfl rfl (by decide) rfl ?_
          refine aw_goto (tgt := 166) C dL_notes_206 (by decide) ?_
          exact aw_msk [true, true, true, true, false, false, false] (ih166 ad_10 _ _ (x3 + 1) _ hFad_10 (by omega) (by omega) hw)
        · refine aw_aloadn C dL_notes_182 rfl ?_
          refine aw_iloadn C dL_notes_183 rfl ?_
          refine aw_runQ (mc := 1) (ms := 6) (rest := [.int (12 + x3), .ref 48]) C (run_W (na := 2) C dL_notes_184 (t_L_option_B hlf x3 _ _ hw) mM_L_125 mW_option mT_option mI_L (by decide +kernel) rfl ⟨Nat.le_of_ble_eq_true rfl, Nat.le_of_ble_eq_true rfl, by show _ ≤ 41; omega, by show _ ≤ 246; omega⟩ [.int (12 + x3), .ref 48] rfl (Nat.le_of_ble_eq_true rfl)) ⟨by decide, by decide, trivial⟩ ⟨by decide, trivial⟩ (fun r184 ad_14 s184 G15 hEad_14 hq => ?_)
          obtain ⟨v16, rfl, rfl, hw⟩ := hq
          have hFad_14 : (∀ j, j < 145 → ad_14 j = ad j) := fun j hj => (hEad_14 j (ltBB hj)).trans (hF j hj)
          refine aw_goto (tgt := 191) C dL_notes_187 (by decide) ?_
          refine aw_iast C dL_notes_191 (sA_48 shOK_B) hw.1 hw.2 (fun G17 hw => ?_)
          refine aw_aloadn C dL_notes_192 rfl ?_
          refine aw_bipush (v := 18) C dL_notes_193 (by decide) ?_
          refine aw_iloadn C dL_notes_195 rfl ?_
          refine aw_iadd C dL_notes_196 ?_
          refine aw_aloadn C dL_notes_197 rfl ?_
          refine aw_iloadn C dL_notes_198 rfl ?_
          refine aw_runQ (mc := 1) (ms := 6) (rest := [.int (18 + x3), .ref 48]) C (run_W (na := 2) C dL_notes_199 (t_L_body_B hlf x3 _ _ hw) mM_L_127 mW_body mT_body mI_L (by decide +kernel) rfl ⟨Nat.le_of_ble_eq_true rfl, Nat.le_of_ble_eq_true rfl, by show _ ≤ 41; omega, by show _ ≤ 246; omega⟩ [.int (18 + x3), .ref 48] rfl (Nat.le_of_ble_eq_true rfl)) ⟨by decide, by decide, trivial⟩ ⟨by decide, trivial⟩ (fun r199 ad_18 s199 G19 hEad_18 hq => ?_)
          obtain ⟨v20, rfl, rfl, hw⟩ := hq
          have hFad_18 : (∀ j, j < 145 → ad_18 j = ad j) := fun j hj => (hEad_18 j (ltBB hj)).trans (hFad_14 j hj)
          refine aw_iast C dL_notes_202 (sA_48 shOK_B) hw.1 hw.2 (fun G21 hw => ?_)
          refine aw_iinc (w := (x3 + 1)) C dL_notes_203 rfl rfl (by decide) rfl ?_
          refine aw_goto (tgt := 166) C dL_notes_206 (by decide) ?_
          exact aw_msk [true, true, true, true, false, false, false] (ih166 ad_18 _ _ (x3 + 1) _ hFad_18 (by omega) (by omega) hw)
  have h24 : ∀ (f4 : Nat) (rec4 : Int32 → Gt → Prop) (hrec4 : ∀ (ad1 : Nat → Nat) (k n : Nat) (x3 : Int32) (G0 : Gt), (∀ j, j < 145 → ad1 j = ad j) → k + 9 * f4 + 14 ≤ 41 → n + 54 * f4 + 84 ≤ 246 → rec4 x3 G0 → aw p l e { frames := 8, cells := 41, slots := 246, locals := 135 } s m args below meth c 7 D tA A (MQ below (QL D tA ad A shB (fun r s' G' => r = some (.int 1) ∧ K s' G')) args s 41 246 A) k n ad1 4 [some (.ref 0), some (.ref 48), some (.int 1), some (.int x3), none, none, none] [] shB G0), ∀ (f24 : Nat) (ad1 : Nat → Nat) (k n : Nat) (x3 : Int32) (x4 : Int32) (x5 : Int32) (G0 : Gt), (∀ j, j < 145 → ad1 j = ad j) → k + 1 * f24 + 3 + 9 * f4 + 14 ≤ 41 → n + 6 * f24 + 18 + 54 * f4 + 84 ≤ 246 → w_L_notes_B_h24 K rec4 f24 x3 x4 x5 G0 → aw p l e { frames := 8, cells := 41, slots := 246, locals := 135 } s m args below meth c 7 D tA A (MQ below (QL D tA ad A shB (fun r s' G' => r = some (.int 1) ∧ K s' G')) args s 41 246 A) k n ad1 24 [some (.ref 0), some (.ref 48), some (.int 1), some (.int x3), some (.int x4), some (.int x5), none] [] shB G0 := by
    intro f4 rec4 hrec4 f24
    induction f24 with
    | zero => intro ad1 k n x3 x4 x5 G0 hF hk hn hw; exact hw.elim
    | succ f24 ih24 =>
      intro ad1 k n x3 x4 x5 G0 hF hk hn hw
      rw [w_L_notes_B_h24] at hw
      refine aw_iload C dL_notes_24 rfl ?_
      refine aw_iconst (v := 4) C dL_notes_26 (by decide) ?_
      refine aw_ic_ge C dL_notes_27 80 (by decide) hw (fun hc27 hw => ?_) (fun hc27 hw => ?_)
      · refine aw_aloadn C dL_notes_80 rfl ?_
        refine aw_bipush (v := 10) C dL_notes_81 (by decide) ?_
        refine aw_iloadn C dL_notes_83 rfl ?_
        refine aw_iadd C dL_notes_84 ?_
        refine aw_aloadn C dL_notes_85 rfl ?_
        refine aw_iloadn C dL_notes_86 rfl ?_
        refine aw_runQ (mc := 1) (ms := 6) (rest := [.int (10 + x3), .ref 48]) C (run_W (na := 2) C dL_notes_87 (t_L_activeCursor_B hlf x3 _ _ hw) mM_L_121 mW_activeCursor mT_activeCursor mI_L (by decide +kernel) rfl ⟨Nat.le_of_ble_eq_true rfl, Nat.le_of_ble_eq_true rfl, by show _ ≤ 41; omega, by show _ ≤ 246; omega⟩ [.int (10 + x3), .ref 48] rfl (Nat.le_of_ble_eq_true rfl)) ⟨by decide, by decide, trivial⟩ ⟨by decide, trivial⟩ (fun r87 ad_26 s87 G27 hEad_26 hq => ?_)
        obtain ⟨v28, rfl, rfl, hw⟩ := hq
        have hFad_26 : (∀ j, j < 145 → ad_26 j = ad j) := fun j hj => (hEad_26 j (ltBB hj)).trans (hF j hj)
        refine aw_iast C dL_notes_90 (sA_48 shOK_B) hw.1 hw.2 (fun G29 hw => ?_)
        refine aw_iloadn C dL_notes_91 rfl ?_
        refine aw_if_eq (X := True) (Y := True) C dL_notes_92 156 (by decide) ⟨fun _ => trivial, fun _ => trivial⟩ (fun hx _ => ?_) (fun hx _ => ?_)
        · exact (show False by revert hx; decide).elim
        · refine aw_iload C dL_notes_95 rfl ?_
          refine aw_if_lt C dL_notes_97 156 (by decide) hw (fun hc97 hw => ?_) (fun hc97 hw => ?_)
          · exact hw.elim
          · refine aw_iload C dL_notes_100 rfl ?_
            refine aw_bipush (v := 41) C dL_notes_102 (by decide) ?_
            refine aw_ic_ge C dL_notes_104 156 (by decide) hw (fun hc104 hw => ?_) (fun hc104 hw => ?_)
            · exact hw.elim
            · refine aw_aloadn C dL_notes_107 rfl ?_
              refine aw_bipush (v := 10) C dL_notes_108 (by decide) ?_
              refine aw_iloadn C dL_notes_110 rfl ?_
              refine aw_iadd C dL_notes_111 ?_
              refine aw_iald C dL_notes_112 (sA_48 shOK_B) hw.1 ?_
              replace hw := hw.2
              refine aw_if_lt C dL_notes_113 156 (by decide) hw (fun hc113 hw => ?_) (fun hc113 hw => ?_)
              · exact hw.elim
              · refine aw_aloadn C dL_notes_116 rfl ?_
                refine aw_bipush (v := 10) C dL_notes_117 (by decide) ?_
                refine aw_iloadn C dL_notes_119 rfl ?_
                refine aw_iadd C dL_notes_120 ?_
                refine aw_iald C dL_notes_121 (sA_48 shOK_B) hw.1 ?_
                replace hw := hw.2
                refine aw_iconst (v := 4) C dL_notes_122 (by decide) ?_
                refine aw_ic_ge C dL_notes_123 156 (by decide) hw (fun hc123 hw => ?_) (fun hc123 hw => ?_)
                · exact hw.elim
                · refine aw_aloadn C dL_notes_126 rfl ?_
                  refine aw_iloadn C dL_notes_127 rfl ?_
                  refine aw_aloadn C dL_notes_128 rfl ?_
                  refine aw_bipush (v := 10) C dL_notes_129 (by decide) ?_
                  refine aw_iloadn C dL_notes_131 rfl ?_
                  refine aw_iadd C dL_notes_132 ?_
                  refine aw_iald C dL_notes_133 (sA_48 shOK_B) hw.1 ?_
                  replace hw := hw.2
                  refine aw_runQ (mc := 1) (ms := 6) (rest := []) C (run_W (na := 3) C dL_notes_134 (t_L_cursor_B hlf x3 (G29 48 ((10 + x3) : Int32).toNatClampNeg) _ _ hw) mM_L_118 mW_cursor mT_cursor mI_L (by decide +kernel) rfl ⟨Nat.le_of_ble_eq_true rfl, Nat.le_of_ble_eq_true rfl, by show _ ≤ 41; omega, by show _ ≤ 246; omega⟩ [] rfl (Nat.le_of_ble_eq_true rfl)) ⟨by decide, by decide, trivial⟩ trivial (fun r134 ad_30 s134 G31 hEad_30 hq => ?_)
                  obtain ⟨v32, rfl, rfl, hw⟩ := hq
                  have hFad_30 : (∀ j, j < 145 → ad_30 j = ad j) := fun j hj => (hEad_30 j (ltBB hj)).trans (hFad_26 j hj)
                  refine aw_if_lt C dL_notes_137 156 (by decide) hw (fun hc137 hw => ?_) (fun hc137 hw => ?_)
                  · exact hw.elim
                  · refine aw_aloadn C dL_notes_140 rfl ?_
                    refine aw_iloadn C dL_notes_141 rfl ?_
                    refine aw_iload C dL_notes_142 rfl ?_
                    refine aw_runQ (mc := 1) (ms := 6) (rest := []) C (run_W (na := 3) C dL_notes_144 (t_L_letter_B hlf x3 x4 _ _ hw) mM_L_123 mW_letter mT_letter mI_L (by decide +kernel) rfl ⟨Nat.le_of_ble_eq_true rfl, Nat.le_of_ble_eq_true rfl, by show _ ≤ 41; omega, by show _ ≤ 246; omega⟩ [] rfl (Nat.le_of_ble_eq_true rfl)) ⟨by decide, by decide, trivial⟩ trivial (fun r144 ad_33 s144 G34 hEad_33 hq => ?_)
                    obtain ⟨v35, rfl, rfl, hw⟩ := hq
                    have hFad_33 : (∀ j, j < 145 → ad_33 j = ad j) := fun j hj => (hEad_33 j (ltBB hj)).trans (hFad_30 j hj)
                    refine aw_ldc (v := (-1000001)) C dL_notes_147 mK_L_18 ?_
                    refine aw_ic_ne C dL_notes_149 156 (by decide) hw (fun hc149 hw => ?_) (fun hc149 hw => ?_)
                    · exact hw.elim
                    · refine aw_iconst (v := 1) C dL_notes_152 (by decide) ?_
                      refine aw_goto (tgt := 157) C dL_notes_153 (by decide) ?_
                      refine aw_istoren C dL_notes_157 (by decide) rfl ?_
                      refine aw_iinc (w := (x3 + 1)) C dL_notes_158 rfl rfl (by decide) rfl ?_
                      refine aw_goto (tgt := 4) C dL_notes_161 (by decide) ?_
                      exact aw_msk [true, true, true, true, false, false, false] (hrec4 ad_33 _ _ (x3 + 1) _ hFad_33 (by omega) (by omega) hw)
      · refine aw_aloadn C dL_notes_30 rfl ?_
        refine aw_iloadn C dL_notes_31 rfl ?_
        refine aw_iload C dL_notes_32 rfl ?_
        refine aw_runQ (mc := 1) (ms := 6) (rest := []) C (run_W (na := 3) C dL_notes_34 (t_L_cursor_B hlf x3 x5 _ _ hw) mM_L_118 mW_cursor mT_cursor mI_L (by decide +kernel) rfl ⟨Nat.le_of_ble_eq_true rfl, Nat.le_of_ble_eq_true rfl, by show _ ≤ 41; omega, by show _ ≤ 246; omega⟩ [] rfl (Nat.le_of_ble_eq_true rfl)) ⟨by decide, by decide, trivial⟩ trivial (fun r34 ad_36 s34 G37 hEad_36 hq => ?_)
        obtain ⟨v38, rfl, rfl, hw⟩ := hq
        have hFad_36 : (∀ j, j < 145 → ad_36 j = ad j) := fun j hj => (hEad_36 j (ltBB hj)).trans (hF j hj)
        refine aw_istore C dL_notes_37 (by decide) rfl ?_
        refine aw_aloadn C dL_notes_39 rfl ?_
        refine aw_iconst (v := 2) C dL_notes_40 (by decide) ?_
        refine aw_iconst (v := 4) C dL_notes_41 (by decide) ?_
        refine aw_iloadn C dL_notes_42 rfl ?_
        refine aw_imul C dL_notes_43 ?_
        refine aw_iadd C dL_notes_44 ?_
        refine aw_iload C dL_notes_45 rfl ?_
        refine aw_iadd C dL_notes_47 ?_
        refine aw_iload C dL_notes_48 rfl ?_
        refine aw_iast C dL_notes_50 (sA_48 shOK_B) hw.1 hw.2 (fun G39 hw => ?_)
        refine aw_iloadn C dL_notes_51 rfl ?_
        refine aw_if_eq (X := True) (Y := True) C dL_notes_52 72 (by decide) ⟨fun _ => trivial, fun _ => trivial⟩ (fun hx _ => ?_) (fun hx _ => ?_)
        · exact (show False by revert hx; decide).elim
        · refine aw_iload C dL_notes_55 rfl ?_
          refine aw_iconst (v := (-1)) C dL_notes_57 (by decide) ?_
          refine aw_ic_lt C dL_notes_58 72 (by decide) hw (fun hc58 hw => ?_) (fun hc58 hw => ?_)
          · exact hw.elim
          · refine aw_iload C dL_notes_61 rfl ?_
            refine aw_iload C dL_notes_63 rfl ?_
            refine aw_ic_gt C dL_notes_65 72 (by decide) hw (fun hc65 hw => ?_) (fun hc65 hw => ?_)
            · exact hw.elim
            · refine aw_iconst (v := 1) C dL_notes_68 (by decide) ?_
              refine aw_goto (tgt := 73) C dL_notes_69 (by decide) ?_
              refine aw_istoren C dL_notes_73 (by decide) rfl ?_
              refine aw_iinc (w := (x5 + 1)) C dL_notes_74 rfl rfl (by decide) rfl ?_
              refine aw_goto (tgt := 24) C dL_notes_77 (by decide) ?_
              exact aw_msk [true, true, true, true, true, true, false] (ih24 ad_36 _ _ x3 x4 (x5 + 1) _ hFad_36 (by omega) (by omega) hw)
  have h4 : ∀ (f4 : Nat) (ad1 : Nat → Nat) (k n : Nat) (x3 : Int32) (G0 : Gt), (∀ j, j < 145 → ad1 j = ad j) → k + 9 * f4 + 14 ≤ 41 → n + 54 * f4 + 84 ≤ 246 → w_L_notes_B_h4 K f4 x3 G0 → aw p l e { frames := 8, cells := 41, slots := 246, locals := 135 } s m args below meth c 7 D tA A (MQ below (QL D tA ad A shB (fun r s' G' => r = some (.int 1) ∧ K s' G')) args s 41 246 A) k n ad1 4 [some (.ref 0), some (.ref 48), some (.int 1), some (.int x3), none, none, none] [] shB G0 := by
    intro f4
    induction f4 with
    | zero => intro ad1 k n x3 G0 hF hk hn hw; exact hw.elim
    | succ f4 ih4 =>
      intro ad1 k n x3 G0 hF hk hn hw
      rw [w_L_notes_B_h4] at hw
      refine aw_iloadn C dL_notes_4 rfl ?_
      refine aw_iconst (v := 2) C dL_notes_5 (by decide) ?_
      refine aw_ic_ge C dL_notes_6 164 (by decide) hw (fun hc6 hw => ?_) (fun hc6 hw => ?_)
      · refine aw_iconst (v := 0) C dL_notes_164 (by decide) ?_
        refine aw_istoren C dL_notes_165 (by decide) rfl ?_
        obtain ⟨f0, hf0, hw⟩ := hw
        exact aw_msk [true, true, true, true, false, false, false] (h166 f0 ad1 _ _ 0 _ hF (by omega) (by omega) hw)
      · refine aw_aloadn C dL_notes_9 rfl ?_
        refine aw_iloadn C dL_notes_10 rfl ?_
        refine aw_runQ (mc := 1) (ms := 6) (rest := []) C (run_W (na := 2) C dL_notes_11 (t_L_length_B hlf x3 _ _ hw) mM_L_116 mW_length mT_length mI_L (by decide +kernel) rfl ⟨Nat.le_of_ble_eq_true rfl, Nat.le_of_ble_eq_true rfl, by show _ ≤ 41; omega, by show _ ≤ 246; omega⟩ [] rfl (Nat.le_of_ble_eq_true rfl)) ⟨by decide, by decide, trivial⟩ trivial (fun r11 ad_22 s11 G23 hEad_22 hq => ?_)
        obtain ⟨v24, rfl, rfl, hw⟩ := hq
        have hFad_22 : (∀ j, j < 145 → ad_22 j = ad j) := fun j hj => (hEad_22 j (ltBB hj)).trans (hF j hj)
        refine aw_istore C dL_notes_14 (by decide) rfl ?_
        refine aw_aloadn C dL_notes_16 rfl ?_
        refine aw_iloadn C dL_notes_17 rfl ?_
        refine aw_iload C dL_notes_18 rfl ?_
        refine aw_iast C dL_notes_20 (sA_48 shOK_B) hw.1 hw.2 (fun G25 hw => ?_)
        refine aw_iconst (v := 0) C dL_notes_21 (by decide) ?_
        refine aw_istore C dL_notes_22 (by decide) rfl ?_
        obtain ⟨f0, hf0, hw⟩ := hw
        exact aw_msk [true, true, true, true, true, true, false] (h24 f4 _ ih4 f0 ad_22 _ _ x3 v24 0 _ hFad_22 (by omega) (by omega) hw)
  unfold w_L_notes_B at hw
  show aw p l e { frames := 8, cells := 41, slots := 246, locals := 135 } s m args below meth c 7 D tA A (MQ below (QL D tA ad A shB (fun r s' G' => r = some (.int 1) ∧ K s' G')) args s 41 246 A) 0 0 ad 0 [some (.ref 0), some (.ref 48), none, none, none, none, none] [] shB G0
  refine aw_iconst (v := 1) C dL_notes_0 (by decide) ?_
  refine aw_istoren C dL_notes_1 (by decide) rfl ?_
  refine aw_iconst (v := 0) C dL_notes_2 (by decide) ?_
  refine aw_istoren C dL_notes_3 (by decide) rfl ?_
  obtain ⟨f0, hf0, hw⟩ := hw
  exact aw_msk [true, true, true, true, false, false, false] (h4 f0 ad _ _ 0 _ hF0 (by omega) (by omega) hw)
def w_L_notes_N_h166 (K : Sh → Gt → Prop) : Nat → Int32 → Gt → Prop
  | 0, _, _ => False
  | n + 1, x3, G0 =>
    pif (6 ≤ x3) (
      w_X10_hook_B (fun v3 G2x => pt (frm 51 G0 G2x) fun G2 =>
        vp_in 24 26 ∧
        pt (gu G2 51 (24 : Int32).toNatClampNeg v3) fun G4 =>
        w_X10_buffer_B (fun v7 G6x => pt (frm 51 G4 G6x) fun G6 =>
          vp_in 25 26 ∧
          pt (gu G6 51 (25 : Int32).toNatClampNeg v7) fun G8 =>
          vp_in 25 26 ∧
          pif ((G8 51 (25 : Int32).toNatClampNeg) = 0) (
            K (shB.set 51 (.inl (0, 26))) G8) (
            vp_in 25 26 ∧
            pif ((G8 51 (25 : Int32).toNatClampNeg) = 1) (
              K (shB.set 51 (.inl (0, 26))) G8) (
              False))) G4) G0) (
      pif (4 ≤ x3) (
        vp_in (12 + x3) 26 ∧
        pt (gu G0 51 ((12 + x3) : Int32).toNatClampNeg 0) fun G9 =>
        w_L_body_B (fun v12 s1 G11x => s1 = shB ∧ pt (frm 51 G9 G11x) fun G11 =>
          vp_in (18 + x3) 26 ∧
          pt (gu G11 51 ((18 + x3) : Int32).toNatClampNeg v12) fun G13 =>
          w_L_notes_N_h166 K n (x3 + 1) G13) x3 G9) (
        w_L_option_B (fun v16 s1 G15x => s1 = shB ∧ pt (frm 51 G0 G15x) fun G15 =>
          vp_in (12 + x3) 26 ∧
          pt (gu G15 51 ((12 + x3) : Int32).toNatClampNeg v16) fun G17 =>
          w_L_body_B (fun v20 s1 G19x => s1 = shB ∧ pt (frm 51 G17 G19x) fun G19 =>
            vp_in (18 + x3) 26 ∧
            pt (gu G19 51 ((18 + x3) : Int32).toNatClampNeg v20) fun G21 =>
            w_L_notes_N_h166 K n (x3 + 1) G21) x3 G17) x3 G0))
def w_L_notes_N_h24 (K : Sh → Gt → Prop) (rec4 : Int32 → Gt → Prop) : Nat → Int32 → Int32 → Int32 → Gt → Prop
  | 0, _, _, _, _ => False
  | n + 1, x3, x4, x5, G0 =>
    pif (4 ≤ x5) (
      w_L_activeCursor_B (fun v28 s1 G27x => s1 = shB ∧ pt (frm 51 G0 G27x) fun G27 =>
        vp_in (10 + x3) 26 ∧
        pt (gu G27 51 ((10 + x3) : Int32).toNatClampNeg v28) fun G29 =>
        pif (x4 < 0) (
          False) (
          pif (41 ≤ x4) (
            False) (
            vp_in (10 + x3) 26 ∧
            pif ((G29 51 ((10 + x3) : Int32).toNatClampNeg) < 0) (
              False) (
              vp_in (10 + x3) 26 ∧
              pif (4 ≤ (G29 51 ((10 + x3) : Int32).toNatClampNeg)) (
                False) (
                vp_in (10 + x3) 26 ∧
                w_L_cursor_B (fun v32 s1 G31x => s1 = shB ∧ pt (frm 51 G29 G31x) fun G31 =>
                  pif (v32 < 0) (
                    False) (
                    w_L_letter_B (fun v35 s1 G34x => s1 = shB ∧ pt (frm 51 G31 G34x) fun G34 =>
                      pif (v35 = (-1000001)) (
                        rec4 (x3 + 1) G34) (
                        False)) x3 x4 G31)) x3 (G29 51 ((10 + x3) : Int32).toNatClampNeg) G29))))) x3 G0) (
      w_L_cursor_B (fun v38 s1 G37x => s1 = shB ∧ pt (frm 51 G0 G37x) fun G37 =>
        vp_in ((2 + (4 * x3)) + x5) 26 ∧
        pt (gu G37 51 (((2 + (4 * x3)) + x5) : Int32).toNatClampNeg v38) fun G39 =>
        pif (v38 < (-1)) (
          False) (
          pif (x4 < v38) (
            False) (
            w_L_notes_N_h24 K rec4 n x3 x4 (x5 + 1) G39))) x3 x5 G0)
def w_L_notes_N_h4 (K : Sh → Gt → Prop) : Nat → Int32 → Gt → Prop
  | 0, _, _ => False
  | n + 1, x3, G0 =>
    pif (2 ≤ x3) (
      ∃ i, i ≤ 7 ∧ w_L_notes_N_h166 K i 0 G0) (
      w_L_length_B (fun v24 s1 G23x => s1 = shB ∧ pt (frm 51 G0 G23x) fun G23 =>
        vp_in x3 26 ∧
        pt (gu G23 51 (x3 : Int32).toNatClampNeg v24) fun G25 =>
        ∃ i, i ≤ 5 ∧ w_L_notes_N_h24 K (fun z0 z1 => w_L_notes_N_h4 K n z0 z1) i x3 v24 0 G25) x3 G0)
def w_L_notes_N (K : Sh → Gt → Prop) (G0 : Gt) : Prop :=
  ∃ i, i ≤ 3 ∧ w_L_notes_N_h4 K i 0 G0
set_option maxHeartbeats 4000000 in
set_option maxRecDepth 100000 in
theorem t_L_notes_N {l : Launch} (hlf : l.stackTraces = false) (G0 : Gt) (K : Sh → Gt → Prop) (hw : w_L_notes_N K G0) : CV l yL_notes cL_notes 7 (some .boolean) 8 135 41 246 [.ref 0, .ref 51] (shB.set 51 (.inl (0, 26))) G0 (fun r s' G' => r = some (.int 1) ∧ K s' G') := by
  refine CV_of (by decide) (Nat.le_of_ble_eq_true rfl) rfl ?_
  intro p e s m args below meth c D tA ad A C hr
  have hF0 : ∀ j, j < 145 → ad j = ad j := fun _ _ => rfl
  have h166 : ∀ (f166 : Nat) (ad1 : Nat → Nat) (k n : Nat) (x3 : Int32) (G0 : Gt), (∀ j, j < 145 → ad1 j = ad j) → k + 2 * f166 + 0 ≤ 41 → n + 12 * f166 + 0 ≤ 246 → w_L_notes_N_h166 K f166 x3 G0 → aw p l e { frames := 8, cells := 41, slots := 246, locals := 135 } s m args below meth c 7 D tA A (MQ below (QL D tA ad A (shB.set 51 (.inl (0, 26))) (fun r s' G' => r = some (.int 1) ∧ K s' G')) args s 41 246 A) k n ad1 166 [some (.ref 0), some (.ref 51), some (.int 1), some (.int x3), none, none, none] [] (shB.set 51 (.inl (0, 26))) G0 := by
    intro f166
    induction f166 with
    | zero => intro ad1 k n x3 G0 hF hk hn hw; exact hw.elim
    | succ f166 ih166 =>
      intro ad1 k n x3 G0 hF hk hn hw
      rw [w_L_notes_N_h166] at hw
      refine aw_iloadn C dL_notes_166 rfl ?_
      refine aw_bipush (v := 6) C dL_notes_167 (by decide) ?_
      refine aw_ic_ge C dL_notes_169 209 (by decide) hw (fun hc169 hw => ?_) (fun hc169 hw => ?_)
      · refine aw_aloadn C dL_notes_209 rfl ?_
        refine aw_bipush (v := 24) C dL_notes_210 (by decide) ?_
        refine aw_aloadn C dL_notes_212 rfl ?_
        refine aw_runF (mc := 0) (ms := 0) (t9 := 51) (m9 := 26) (rest := [.int 24, .ref 51]) C (sA_51 shOK_B) (run_V C dL_notes_213 ((t_X10_hook_B _ _ hw).toCV) mM_L_129 bX10_hook shB_0 rfl rfl ⟨Nat.le_of_ble_eq_true rfl, Nat.le_of_ble_eq_true rfl, by show _ ≤ 41; omega, by show _ ≤ 246; omega⟩ [.int 24, .ref 51] rfl (Nat.le_of_ble_eq_true rfl)) ⟨by decide, by decide, trivial⟩ ⟨by decide, trivial⟩ (fun r213 ad_1 s213 G2x hEad_1 hq => ?_)
        obtain ⟨rfl, v3, rfl, hw⟩ := hq
        refine ⟨(sA_51 shOK_B), ?_⟩
        obtain ⟨G2, eG2, hw⟩ := hw
        rw [← eG2]
        have hFad_1 : (∀ j, j < 145 → ad_1 j = ad j) := fun j hj => (hEad_1 j (ltBB hj)).trans (hF j hj)
        refine aw_iast C dL_notes_216 (set_eq' (sA_51 shOK_B)) hw.1 hw.2 (fun G4 hw => ?_)
        refine aw_aloadn C dL_notes_217 rfl ?_
        refine aw_bipush (v := 25) C dL_notes_218 (by decide) ?_
        refine aw_aloadn C dL_notes_220 rfl ?_
        refine aw_runF (mc := 0) (ms := 0) (t9 := 51) (m9 := 26) (rest := [.int 25, .ref 51]) C (sA_51 shOK_B) (run_V C dL_notes_221 ((t_X10_buffer_B _ _ hw).toCV) mM_L_132 bX10_buffer shB_0 rfl rfl ⟨Nat.le_of_ble_eq_true rfl, Nat.le_of_ble_eq_true rfl, by show _ ≤ 41; omega, by show _ ≤ 246; omega⟩ [.int 25, .ref 51] rfl (Nat.le_of_ble_eq_true rfl)) ⟨by decide, by decide, trivial⟩ ⟨by decide, trivial⟩ (fun r221 ad_5 s221 G6x hEad_5 hq => ?_)
        obtain ⟨rfl, v7, rfl, hw⟩ := hq
        refine ⟨(sA_51 shOK_B), ?_⟩
        obtain ⟨G6, eG6, hw⟩ := hw
        rw [← eG6]
        have hFad_5 : (∀ j, j < 145 → ad_5 j = ad j) := fun j hj => (hEad_5 j (ltBB hj)).trans (hFad_1 j hj)
        refine aw_iast C dL_notes_224 (set_eq' (sA_51 shOK_B)) hw.1 hw.2 (fun G8 hw => ?_)
        refine aw_iloadn C dL_notes_225 rfl ?_
        refine aw_if_eq (X := True) (Y := True) C dL_notes_226 248 (by decide) ⟨fun _ => trivial, fun _ => trivial⟩ (fun hx _ => ?_) (fun hx _ => ?_)
        · exact (show False by revert hx; decide).elim
        · refine aw_aloadn C dL_notes_229 rfl ?_
          refine aw_bipush (v := 25) C dL_notes_230 (by decide) ?_
          refine aw_iald C dL_notes_232 (set_eq' (sA_51 shOK_B)) hw.1 ?_
          replace hw := hw.2
          refine aw_if_eq C dL_notes_233 244 (by decide) hw (fun hc233 hw => ?_) (fun hc233 hw => ?_)
          · refine aw_iconst (v := 1) C dL_notes_244 (by decide) ?_
            refine aw_goto (tgt := 249) C dL_notes_245 (by decide) ?_
            exact aw_lzreturn C hr dL_notes_249 rfl (by omega) (by omega) (fun j hj => hFad_5 j (ltN_ hj)) ⟨rfl, hw⟩
          · refine aw_aloadn C dL_notes_236 rfl ?_
            refine aw_bipush (v := 25) C dL_notes_237 (by decide) ?_
            refine aw_iald C dL_notes_239 (set_eq' (sA_51 shOK_B)) hw.1 ?_
            replace hw := hw.2
            refine aw_iconst (v := 1) C dL_notes_240 (by decide) ?_
            refine aw_ic_ne C dL_notes_241 248 (by decide) hw (fun hc241 hw => ?_) (fun hc241 hw => ?_)
            · exact hw.elim
            · refine aw_iconst (v := 1) C dL_notes_244 (by decide) ?_
              refine aw_goto (tgt := 249) C dL_notes_245 (by decide) ?_
              exact aw_lzreturn C hr dL_notes_249 rfl (by omega) (by omega) (fun j hj => hFad_5 j (ltN_ hj)) ⟨rfl, hw⟩
      · refine aw_aloadn C dL_notes_172 rfl ?_
        refine aw_bipush (v := 12) C dL_notes_173 (by decide) ?_
        refine aw_iloadn C dL_notes_175 rfl ?_
        refine aw_iadd C dL_notes_176 ?_
        refine aw_iloadn C dL_notes_177 rfl ?_
        refine aw_iconst (v := 4) C dL_notes_178 (by decide) ?_
        refine aw_ic_ge C dL_notes_179 190 (by decide) hw (fun hc179 hw => ?_) (fun hc179 hw => ?_)
        · refine aw_iconst (v := 0) C dL_notes_190 (by decide) ?_
          refine aw_iast C dL_notes_191 (set_eq' (sA_51 shOK_B)) hw.1 hw.2 (fun G9 hw => ?_)
          refine aw_aloadn C dL_notes_192 rfl ?_
          refine aw_bipush (v := 18) C dL_notes_193 (by decide) ?_
          refine aw_iloadn C dL_notes_195 rfl ?_
          refine aw_iadd C dL_notes_196 ?_
          refine aw_aloadn C dL_notes_197 rfl ?_
          refine aw_iloadn C dL_notes_198 rfl ?_
          refine aw_runF (mc := 1) (ms := 6) (t9 := 51) (m9 := 26) (rest := [.int (18 + x3), .ref 51]) C (sA_51 shOK_B) (run_W (na := 2) C dL_notes_199 (t_L_body_B hlf x3 _ _ hw) mM_L_127 mW_body mT_body mI_L (by decide +kernel) rfl ⟨Nat.le_of_ble_eq_true rfl, Nat.le_of_ble_eq_true rfl, by show _ ≤ 41; omega, by show _ ≤ 246; omega⟩ [.int (18 + x3), .ref 51] rfl (Nat.le_of_ble_eq_true rfl)) ⟨by decide, by decide, trivial⟩ ⟨by decide, trivial⟩ (fun r199 ad_10 s199 G11x hEad_10 hq => ?_)
          obtain ⟨v12, rfl, rfl, hw⟩ := hq
          refine ⟨(sA_51 shOK_B), ?_⟩
          obtain ⟨G11, eG11, hw⟩ := hw
          rw [← eG11]
          have hFad_10 : (∀ j, j < 145 → ad_10 j = ad j) := fun j hj => (hEad_10 j (ltBB hj)).trans (hF j hj)
          refine aw_iast C dL_notes_202 (set_eq' (sA_51 shOK_B)) hw.1 hw.2 (fun G13 hw => ?_)
          refine aw_iinc (w := (x3 + 1)) C dL_notes_203 rfl rfl (by decide) rfl ?_
          refine aw_goto (tgt := 166) C dL_notes_206 (by decide) ?_
          exact aw_msk [true, true, true, true, false, false, false] (ih166 ad_10 _ _ (x3 + 1) _ hFad_10 (by omega) (by omega) hw)
        · refine aw_aloadn C dL_notes_182 rfl ?_
          refine aw_iloadn C dL_notes_183 rfl ?_
          refine aw_runF (mc := 1) (ms := 6) (t9 := 51) (m9 := 26) (rest := [.int (12 + x3), .ref 51]) C (sA_51 shOK_B) (run_W (na := 2) C dL_notes_184 (t_L_option_B hlf x3 _ _ hw) mM_L_125 mW_option mT_option mI_L (by decide +kernel) rfl ⟨Nat.le_of_ble_eq_true rfl, Nat.le_of_ble_eq_true rfl, by show _ ≤ 41; omega, by show _ ≤ 246; omega⟩ [.int (12 + x3), .ref 51] rfl (Nat.le_of_ble_eq_true rfl)) ⟨by decide, by decide, trivial⟩ ⟨by decide, trivial⟩ (fun r184 ad_14 s184 G15x hEad_14 hq => ?_)
          obtain ⟨v16, rfl, rfl, hw⟩ := hq
          refine ⟨(sA_51 shOK_B), ?_⟩
          obtain ⟨G15, eG15, hw⟩ := hw
          rw [← eG15]
          have hFad_14 : (∀ j, j < 145 → ad_14 j = ad j) := fun j hj => (hEad_14 j (ltBB hj)).trans (hF j hj)
          refine aw_goto (tgt := 191) C dL_notes_187 (by decide) ?_
          refine aw_iast C dL_notes_191 (set_eq' (sA_51 shOK_B)) hw.1 hw.2 (fun G17 hw => ?_)
          refine aw_aloadn C dL_notes_192 rfl ?_
          refine aw_bipush (v := 18) C dL_notes_193 (by decide) ?_
          refine aw_iloadn C dL_notes_195 rfl ?_
          refine aw_iadd C dL_notes_196 ?_
          refine aw_aloadn C dL_notes_197 rfl ?_
          refine aw_iloadn C dL_notes_198 rfl ?_
          refine aw_runF (mc := 1) (ms := 6) (t9 := 51) (m9 := 26) (rest := [.int (18 + x3), .ref 51]) C (sA_51 shOK_B) (run_W (na := 2) C dL_notes_199 (t_L_body_B hlf x3 _ _ hw) mM_L_127 mW_body mT_body mI_L (by decide +kernel) rfl ⟨Nat.le_of_ble_eq_true rfl, Nat.le_of_ble_eq_true rfl, by show _ ≤ 41; omega, by show _ ≤ 246; omega⟩ [.int (18 + x3), .ref 51] rfl (Nat.le_of_ble_eq_true rfl)) ⟨by decide, by decide, trivial⟩ ⟨by decide, trivial⟩ (fun r199 ad_18 s199 G19x hEad_18 hq => ?_)
          obtain ⟨v20, rfl, rfl, hw⟩ := hq
          refine ⟨(sA_51 shOK_B), ?_⟩
          obtain ⟨G19, eG19, hw⟩ := hw
          rw [← eG19]
          have hFad_18 : (∀ j, j < 145 → ad_18 j = ad j) := fun j hj => (hEad_18 j (ltBB hj)).trans (hFad_14 j hj)
          refine aw_iast C dL_notes_202 (set_eq' (sA_51 shOK_B)) hw.1 hw.2 (fun G21 hw => ?_)
          refine aw_iinc (w := (x3 + 1)) C dL_notes_203 rfl rfl (by decide) rfl ?_
          refine aw_goto (tgt := 166) C dL_notes_206 (by decide) ?_
          exact aw_msk [true, true, true, true, false, false, false] (ih166 ad_18 _ _ (x3 + 1) _ hFad_18 (by omega) (by omega) hw)
  have h24 : ∀ (f4 : Nat) (rec4 : Int32 → Gt → Prop) (hrec4 : ∀ (ad1 : Nat → Nat) (k n : Nat) (x3 : Int32) (G0 : Gt), (∀ j, j < 145 → ad1 j = ad j) → k + 9 * f4 + 14 ≤ 41 → n + 54 * f4 + 84 ≤ 246 → rec4 x3 G0 → aw p l e { frames := 8, cells := 41, slots := 246, locals := 135 } s m args below meth c 7 D tA A (MQ below (QL D tA ad A (shB.set 51 (.inl (0, 26))) (fun r s' G' => r = some (.int 1) ∧ K s' G')) args s 41 246 A) k n ad1 4 [some (.ref 0), some (.ref 51), some (.int 1), some (.int x3), none, none, none] [] (shB.set 51 (.inl (0, 26))) G0), ∀ (f24 : Nat) (ad1 : Nat → Nat) (k n : Nat) (x3 : Int32) (x4 : Int32) (x5 : Int32) (G0 : Gt), (∀ j, j < 145 → ad1 j = ad j) → k + 1 * f24 + 3 + 9 * f4 + 14 ≤ 41 → n + 6 * f24 + 18 + 54 * f4 + 84 ≤ 246 → w_L_notes_N_h24 K rec4 f24 x3 x4 x5 G0 → aw p l e { frames := 8, cells := 41, slots := 246, locals := 135 } s m args below meth c 7 D tA A (MQ below (QL D tA ad A (shB.set 51 (.inl (0, 26))) (fun r s' G' => r = some (.int 1) ∧ K s' G')) args s 41 246 A) k n ad1 24 [some (.ref 0), some (.ref 51), some (.int 1), some (.int x3), some (.int x4), some (.int x5), none] [] (shB.set 51 (.inl (0, 26))) G0 := by
    intro f4 rec4 hrec4 f24
    induction f24 with
    | zero => intro ad1 k n x3 x4 x5 G0 hF hk hn hw; exact hw.elim
    | succ f24 ih24 =>
      intro ad1 k n x3 x4 x5 G0 hF hk hn hw
      rw [w_L_notes_N_h24] at hw
      refine aw_iload C dL_notes_24 rfl ?_
      refine aw_iconst (v := 4) C dL_notes_26 (by decide) ?_
      refine aw_ic_ge C dL_notes_27 80 (by decide) hw (fun hc27 hw => ?_) (fun hc27 hw => ?_)
      · refine aw_aloadn C dL_notes_80 rfl ?_
        refine aw_bipush (v := 10) C dL_notes_81 (by decide) ?_
        refine aw_iloadn C dL_notes_83 rfl ?_
        refine aw_iadd C dL_notes_84 ?_
        refine aw_aloadn C dL_notes_85 rfl ?_
        refine aw_iloadn C dL_notes_86 rfl ?_
        refine aw_runF (mc := 1) (ms := 6) (t9 := 51) (m9 := 26) (rest := [.int (10 + x3), .ref 51]) C (sA_51 shOK_B) (run_W (na := 2) C dL_notes_87 (t_L_activeCursor_B hlf x3 _ _ hw) mM_L_121 mW_activeCursor mT_activeCursor mI_L (by decide +kernel) rfl ⟨Nat.le_of_ble_eq_true rfl, Nat.le_of_ble_eq_true rfl, by show _ ≤ 41; omega, by show _ ≤ 246; omega⟩ [.int (10 + x3), .ref 51] rfl (Nat.le_of_ble_eq_true rfl)) ⟨by decide, by decide, trivial⟩ ⟨by decide, trivial⟩ (fun r87 ad_26 s87 G27x hEad_26 hq => ?_)
        obtain ⟨v28, rfl, rfl, hw⟩ := hq
        refine ⟨(sA_51 shOK_B), ?_⟩
        obtain ⟨G27, eG27, hw⟩ := hw
        rw [← eG27]
        have hFad_26 : (∀ j, j < 145 → ad_26 j = ad j) := fun j hj => (hEad_26 j (ltBB hj)).trans (hF j hj)
        refine aw_iast C dL_notes_90 (set_eq' (sA_51 shOK_B)) hw.1 hw.2 (fun G29 hw => ?_)
        refine aw_iloadn C dL_notes_91 rfl ?_
        refine aw_if_eq (X := True) (Y := True) C dL_notes_92 156 (by decide) ⟨fun _ => trivial, fun _ => trivial⟩ (fun hx _ => ?_) (fun hx _ => ?_)
        · exact (show False by revert hx; decide).elim
        · refine aw_iload C dL_notes_95 rfl ?_
          refine aw_if_lt C dL_notes_97 156 (by decide) hw (fun hc97 hw => ?_) (fun hc97 hw => ?_)
          · exact hw.elim
          · refine aw_iload C dL_notes_100 rfl ?_
            refine aw_bipush (v := 41) C dL_notes_102 (by decide) ?_
            refine aw_ic_ge C dL_notes_104 156 (by decide) hw (fun hc104 hw => ?_) (fun hc104 hw => ?_)
            · exact hw.elim
            · refine aw_aloadn C dL_notes_107 rfl ?_
              refine aw_bipush (v := 10) C dL_notes_108 (by decide) ?_
              refine aw_iloadn C dL_notes_110 rfl ?_
              refine aw_iadd C dL_notes_111 ?_
              refine aw_iald C dL_notes_112 (set_eq' (sA_51 shOK_B)) hw.1 ?_
              replace hw := hw.2
              refine aw_if_lt C dL_notes_113 156 (by decide) hw (fun hc113 hw => ?_) (fun hc113 hw => ?_)
              · exact hw.elim
              · refine aw_aloadn C dL_notes_116 rfl ?_
                refine aw_bipush (v := 10) C dL_notes_117 (by decide) ?_
                refine aw_iloadn C dL_notes_119 rfl ?_
                refine aw_iadd C dL_notes_120 ?_
                refine aw_iald C dL_notes_121 (set_eq' (sA_51 shOK_B)) hw.1 ?_
                replace hw := hw.2
                refine aw_iconst (v := 4) C dL_notes_122 (by decide) ?_
                refine aw_ic_ge C dL_notes_123 156 (by decide) hw (fun hc123 hw => ?_) (fun hc123 hw => ?_)
                · exact hw.elim
                · refine aw_aloadn C dL_notes_126 rfl ?_
                  refine aw_iloadn C dL_notes_127 rfl ?_
                  refine aw_aloadn C dL_notes_128 rfl ?_
                  refine aw_bipush (v := 10) C dL_notes_129 (by decide) ?_
                  refine aw_iloadn C dL_notes_131 rfl ?_
                  refine aw_iadd C dL_notes_132 ?_
                  refine aw_iald C dL_notes_133 (set_eq' (sA_51 shOK_B)) hw.1 ?_
                  replace hw := hw.2
                  refine aw_runF (mc := 1) (ms := 6) (t9 := 51) (m9 := 26) (rest := []) C (sA_51 shOK_B) (run_W (na := 3) C dL_notes_134 (t_L_cursor_B hlf x3 (G29 51 ((10 + x3) : Int32).toNatClampNeg) _ _ hw) mM_L_118 mW_cursor mT_cursor mI_L (by decide +kernel) rfl ⟨Nat.le_of_ble_eq_true rfl, Nat.le_of_ble_eq_true rfl, by show _ ≤ 41; omega, by show _ ≤ 246; omega⟩ [] rfl (Nat.le_of_ble_eq_true rfl)) ⟨by decide, by decide, trivial⟩ trivial (fun r134 ad_30 s134 G31x hEad_30 hq => ?_)
                  obtain ⟨v32, rfl, rfl, hw⟩ := hq
                  refine ⟨(sA_51 shOK_B), ?_⟩
                  obtain ⟨G31, eG31, hw⟩ := hw
                  rw [← eG31]
                  have hFad_30 : (∀ j, j < 145 → ad_30 j = ad j) := fun j hj => (hEad_30 j (ltBB hj)).trans (hFad_26 j hj)
                  refine aw_if_lt C dL_notes_137 156 (by decide) hw (fun hc137 hw => ?_) (fun hc137 hw => ?_)
                  · exact hw.elim
                  · refine aw_aloadn C dL_notes_140 rfl ?_
                    refine aw_iloadn C dL_notes_141 rfl ?_
                    refine aw_iload C dL_notes_142 rfl ?_
                    refine aw_runF (mc := 1) (ms := 6) (t9 := 51) (m9 := 26) (rest := []) C (sA_51 shOK_B) (run_W (na := 3) C dL_notes_144 (t_L_letter_B hlf x3 x4 _ _ hw) mM_L_123 mW_letter mT_letter mI_L (by decide +kernel) rfl ⟨Nat.le_of_ble_eq_true rfl, Nat.le_of_ble_eq_true rfl, by show _ ≤ 41; omega, by show _ ≤ 246; omega⟩ [] rfl (Nat.le_of_ble_eq_true rfl)) ⟨by decide, by decide, trivial⟩ trivial (fun r144 ad_33 s144 G34x hEad_33 hq => ?_)
                    obtain ⟨v35, rfl, rfl, hw⟩ := hq
                    refine ⟨(sA_51 shOK_B), ?_⟩
                    obtain ⟨G34, eG34, hw⟩ := hw
                    rw [← eG34]
                    have hFad_33 : (∀ j, j < 145 → ad_33 j = ad j) := fun j hj => (hEad_33 j (ltBB hj)).trans (hFad_30 j hj)
                    refine aw_ldc (v := (-1000001)) C dL_notes_147 mK_L_18 ?_
                    refine aw_ic_ne C dL_notes_149 156 (by decide) hw (fun hc149 hw => ?_) (fun hc149 hw => ?_)
                    · exact hw.elim
                    · refine aw_iconst (v := 1) C dL_notes_152 (by decide) ?_
                      refine aw_goto (tgt := 157) C dL_notes_153 (by decide) ?_
                      refine aw_istoren C dL_notes_157 (by decide) rfl ?_
                      refine aw_iinc (w := (x3 + 1)) C dL_notes_158 rfl rfl (by decide) rfl ?_
                      refine aw_goto (tgt := 4) C dL_notes_161 (by decide) ?_
                      exact aw_msk [true, true, true, true, false, false, false] (hrec4 ad_33 _ _ (x3 + 1) _ hFad_33 (by omega) (by omega) hw)
      · refine aw_aloadn C dL_notes_30 rfl ?_
        refine aw_iloadn C dL_notes_31 rfl ?_
        refine aw_iload C dL_notes_32 rfl ?_
        refine aw_runF (mc := 1) (ms := 6) (t9 := 51) (m9 := 26) (rest := []) C (sA_51 shOK_B) (run_W (na := 3) C dL_notes_34 (t_L_cursor_B hlf x3 x5 _ _ hw) mM_L_118 mW_cursor mT_cursor mI_L (by decide +kernel) rfl ⟨Nat.le_of_ble_eq_true rfl, Nat.le_of_ble_eq_true rfl, by show _ ≤ 41; omega, by show _ ≤ 246; omega⟩ [] rfl (Nat.le_of_ble_eq_true rfl)) ⟨by decide, by decide, trivial⟩ trivial (fun r34 ad_36 s34 G37x hEad_36 hq => ?_)
        obtain ⟨v38, rfl, rfl, hw⟩ := hq
        refine ⟨(sA_51 shOK_B), ?_⟩
        obtain ⟨G37, eG37, hw⟩ := hw
        rw [← eG37]
        have hFad_36 : (∀ j, j < 145 → ad_36 j = ad j) := fun j hj => (hEad_36 j (ltBB hj)).trans (hF j hj)
        refine aw_istore C dL_notes_37 (by decide) rfl ?_
        refine aw_aloadn C dL_notes_39 rfl ?_
        refine aw_iconst (v := 2) C dL_notes_40 (by decide) ?_
        refine aw_iconst (v := 4) C dL_notes_41 (by decide) ?_
        refine aw_iloadn C dL_notes_42 rfl ?_
        refine aw_imul C dL_notes_43 ?_
        refine aw_iadd C dL_notes_44 ?_
        refine aw_iload C dL_notes_45 rfl ?_
        refine aw_iadd C dL_notes_47 ?_
        refine aw_iload C dL_notes_48 rfl ?_
        refine aw_iast C dL_notes_50 (set_eq' (sA_51 shOK_B)) hw.1 hw.2 (fun G39 hw => ?_)
        refine aw_iloadn C dL_notes_51 rfl ?_
        refine aw_if_eq (X := True) (Y := True) C dL_notes_52 72 (by decide) ⟨fun _ => trivial, fun _ => trivial⟩ (fun hx _ => ?_) (fun hx _ => ?_)
        · exact (show False by revert hx; decide).elim
        · refine aw_iload C dL_notes_55 rfl ?_
          refine aw_iconst (v := (-1)) C dL_notes_57 (by decide) ?_
          refine aw_ic_lt C dL_notes_58 72 (by decide) hw (fun hc58 hw => ?_) (fun hc58 hw => ?_)
          · exact hw.elim
          · refine aw_iload C dL_notes_61 rfl ?_
            refine aw_iload C dL_notes_63 rfl ?_
            refine aw_ic_gt C dL_notes_65 72 (by decide) hw (fun hc65 hw => ?_) (fun hc65 hw => ?_)
            · exact hw.elim
            · refine aw_iconst (v := 1) C dL_notes_68 (by decide) ?_
              refine aw_goto (tgt := 73) C dL_notes_69 (by decide) ?_
              refine aw_istoren C dL_notes_73 (by decide) rfl ?_
              refine aw_iinc (w := (x5 + 1)) C dL_notes_74 rfl rfl (by decide) rfl ?_
              refine aw_goto (tgt := 24) C dL_notes_77 (by decide) ?_
              exact aw_msk [true, true, true, true, true, true, false] (ih24 ad_36 _ _ x3 x4 (x5 + 1) _ hFad_36 (by omega) (by omega) hw)
  have h4 : ∀ (f4 : Nat) (ad1 : Nat → Nat) (k n : Nat) (x3 : Int32) (G0 : Gt), (∀ j, j < 145 → ad1 j = ad j) → k + 9 * f4 + 14 ≤ 41 → n + 54 * f4 + 84 ≤ 246 → w_L_notes_N_h4 K f4 x3 G0 → aw p l e { frames := 8, cells := 41, slots := 246, locals := 135 } s m args below meth c 7 D tA A (MQ below (QL D tA ad A (shB.set 51 (.inl (0, 26))) (fun r s' G' => r = some (.int 1) ∧ K s' G')) args s 41 246 A) k n ad1 4 [some (.ref 0), some (.ref 51), some (.int 1), some (.int x3), none, none, none] [] (shB.set 51 (.inl (0, 26))) G0 := by
    intro f4
    induction f4 with
    | zero => intro ad1 k n x3 G0 hF hk hn hw; exact hw.elim
    | succ f4 ih4 =>
      intro ad1 k n x3 G0 hF hk hn hw
      rw [w_L_notes_N_h4] at hw
      refine aw_iloadn C dL_notes_4 rfl ?_
      refine aw_iconst (v := 2) C dL_notes_5 (by decide) ?_
      refine aw_ic_ge C dL_notes_6 164 (by decide) hw (fun hc6 hw => ?_) (fun hc6 hw => ?_)
      · refine aw_iconst (v := 0) C dL_notes_164 (by decide) ?_
        refine aw_istoren C dL_notes_165 (by decide) rfl ?_
        obtain ⟨f0, hf0, hw⟩ := hw
        exact aw_msk [true, true, true, true, false, false, false] (h166 f0 ad1 _ _ 0 _ hF (by omega) (by omega) hw)
      · refine aw_aloadn C dL_notes_9 rfl ?_
        refine aw_iloadn C dL_notes_10 rfl ?_
        refine aw_runF (mc := 1) (ms := 6) (t9 := 51) (m9 := 26) (rest := []) C (sA_51 shOK_B) (run_W (na := 2) C dL_notes_11 (t_L_length_B hlf x3 _ _ hw) mM_L_116 mW_length mT_length mI_L (by decide +kernel) rfl ⟨Nat.le_of_ble_eq_true rfl, Nat.le_of_ble_eq_true rfl, by show _ ≤ 41; omega, by show _ ≤ 246; omega⟩ [] rfl (Nat.le_of_ble_eq_true rfl)) ⟨by decide, by decide, trivial⟩ trivial (fun r11 ad_22 s11 G23x hEad_22 hq => ?_)
        obtain ⟨v24, rfl, rfl, hw⟩ := hq
        refine ⟨(sA_51 shOK_B), ?_⟩
        obtain ⟨G23, eG23, hw⟩ := hw
        rw [← eG23]
        have hFad_22 : (∀ j, j < 145 → ad_22 j = ad j) := fun j hj => (hEad_22 j (ltBB hj)).trans (hF j hj)
        refine aw_istore C dL_notes_14 (by decide) rfl ?_
        refine aw_aloadn C dL_notes_16 rfl ?_
        refine aw_iloadn C dL_notes_17 rfl ?_
        refine aw_iload C dL_notes_18 rfl ?_
        refine aw_iast C dL_notes_20 (set_eq' (sA_51 shOK_B)) hw.1 hw.2 (fun G25 hw => ?_)
        refine aw_iconst (v := 0) C dL_notes_21 (by decide) ?_
        refine aw_istore C dL_notes_22 (by decide) rfl ?_
        obtain ⟨f0, hf0, hw⟩ := hw
        exact aw_msk [true, true, true, true, true, true, false] (h24 f4 _ ih4 f0 ad_22 _ _ x3 v24 0 _ hFad_22 (by omega) (by omega) hw)
  unfold w_L_notes_N at hw
  show aw p l e { frames := 8, cells := 41, slots := 246, locals := 135 } s m args below meth c 7 D tA A (MQ below (QL D tA ad A (shB.set 51 (.inl (0, 26))) (fun r s' G' => r = some (.int 1) ∧ K s' G')) args s 41 246 A) 0 0 ad 0 [some (.ref 0), some (.ref 51), none, none, none, none, none] [] (shB.set 51 (.inl (0, 26))) G0
  refine aw_iconst (v := 1) C dL_notes_0 (by decide) ?_
  refine aw_istoren C dL_notes_1 (by decide) rfl ?_
  refine aw_iconst (v := 0) C dL_notes_2 (by decide) ?_
  refine aw_istoren C dL_notes_3 (by decide) rfl ?_
  obtain ⟨f0, hf0, hw⟩ := hw
  exact aw_msk [true, true, true, true, false, false, false] (h4 f0 ad _ _ 0 _ hF0 (by omega) (by omega) hw)
def w_L_letters_A_h14 (K : Sh → Gt → Prop) (rec5 : Int32 → Int32 → Gt → Prop) : Nat → Int32 → Int32 → Int32 → Gt → Prop
  | 0, _, _, _, _ => False
  | n + 1, x2, x4, x5, G0 =>
    w_L_length_A (fun v3 s1 G2 => s1 = shA ∧
      pif (v3 ≤ x5) (
        rec5 x2 (x4 + 1) G2) (
        pif (31 ≤ x5) (
          rec5 x2 (x4 + 1) G2) (
          w_L_letter_A (fun v6 s1 G5 => s1 = shA ∧
            pif (v6 < 0) (
              False) (
              pif (26 ≤ v6) (
                False) (
                pif (x2 = 0) (
                  vp_in ((31 * x4) + x5) 62 ∧
                  pif ((G5 49 (((31 * x4) + x5) : Int32).toNatClampNeg) = v6) (
                    vp_in ((31 * x4) + x5) 62 ∧
                    pt (gu G5 49 (((31 * x4) + x5) : Int32).toNatClampNeg v6) fun G8 =>
                    w_L_letters_A_h14 K rec5 n x2 x4 (x5 + 1) G8) (
                    False)) (
                  vp_in ((31 * x4) + x5) 62 ∧
                  pt (gu G5 49 (((31 * x4) + x5) : Int32).toNatClampNeg v6) fun G7 =>
                  w_L_letters_A_h14 K rec5 n x2 x4 (x5 + 1) G7)))) x4 x5 G2))) x4 G0
def w_L_letters_A_h5 (K : Sh → Gt → Prop) : Nat → Int32 → Int32 → Gt → Prop
  | 0, _, _, _ => False
  | n + 1, x2, x4, G0 =>
    pif (2 ≤ x4) (
      K shA G0) (
      ∃ i, i ≤ 32 ∧ w_L_letters_A_h14 K (fun z0 z1 z2 => w_L_letters_A_h5 K n z0 z1 z2) i x2 x4 0 G0)
def w_L_letters_A (K : Sh → Gt → Prop) (p2 : Int32) (G0 : Gt) : Prop :=
  ∃ i, i ≤ 3 ∧ w_L_letters_A_h5 K i p2 0 G0
set_option maxHeartbeats 4000000 in
set_option maxRecDepth 100000 in
theorem t_L_letters_A {l : Launch} (hlf : l.stackTraces = false) (p2 : Int32) (G0 : Gt) (K : Sh → Gt → Prop) (hw : w_L_letters_A K p2 G0) : CV l yL_letters cL_letters 7 (some .boolean) 8 135 195 1170 [.ref 0, .ref 49, .int p2] shA G0 (fun r s' G' => r = some (.int 1) ∧ K s' G') := by
  refine CV_of (by decide) (Nat.le_of_ble_eq_true rfl) rfl ?_
  intro p e s m args below meth c D tA ad A C hr
  have hF0 : ∀ j, j < 84 → ad j = ad j := fun _ _ => rfl
  have h14 : ∀ (f5 : Nat) (rec5 : Int32 → Int32 → Gt → Prop) (hrec5 : ∀ (ad1 : Nat → Nat) (k n : Nat) (x2 : Int32) (x4 : Int32) (G0 : Gt), (∀ j, j < 84 → ad1 j = ad j) → k + 65 * f5 + 0 ≤ 195 → n + 390 * f5 + 0 ≤ 1170 → rec5 x2 x4 G0 → aw p l e { frames := 8, cells := 195, slots := 1170, locals := 135 } s m args below meth c 7 D tA A (MQ below (QL D tA ad A shA (fun r s' G' => r = some (.int 1) ∧ K s' G')) args s 195 1170 A) k n ad1 5 [some (.ref 0), some (.ref 49), some (.int x2), some (.int 1), some (.int x4), none, none] [] shA G0), ∀ (f14 : Nat) (ad1 : Nat → Nat) (k n : Nat) (x2 : Int32) (x4 : Int32) (x5 : Int32) (G0 : Gt), (∀ j, j < 84 → ad1 j = ad j) → k + 2 * f14 + 1 + 65 * f5 + 0 ≤ 195 → n + 12 * f14 + 6 + 390 * f5 + 0 ≤ 1170 → w_L_letters_A_h14 K rec5 f14 x2 x4 x5 G0 → aw p l e { frames := 8, cells := 195, slots := 1170, locals := 135 } s m args below meth c 7 D tA A (MQ below (QL D tA ad A shA (fun r s' G' => r = some (.int 1) ∧ K s' G')) args s 195 1170 A) k n ad1 14 [some (.ref 0), some (.ref 49), some (.int x2), some (.int 1), some (.int x4), some (.int x5), none] [] shA G0 := by
    intro f5 rec5 hrec5 f14
    induction f14 with
    | zero => intro ad1 k n x2 x4 x5 G0 hF hk hn hw; exact hw.elim
    | succ f14 ih14 =>
      intro ad1 k n x2 x4 x5 G0 hF hk hn hw
      rw [w_L_letters_A_h14] at hw
      refine aw_iload C dL_letters_14 rfl ?_
      refine aw_aloadn C dL_letters_16 rfl ?_
      refine aw_iload C dL_letters_17 rfl ?_
      refine aw_runQ (mc := 1) (ms := 6) (rest := [.int x5]) C (run_W (na := 2) C dL_letters_19 (t_L_length_A hlf x4 _ _ hw) mM_L_116 mW_length mT_length mI_L (by decide +kernel) rfl ⟨Nat.le_of_ble_eq_true rfl, Nat.le_of_ble_eq_true rfl, by show _ ≤ 195; omega, by show _ ≤ 1170; omega⟩ [.int x5] rfl (Nat.le_of_ble_eq_true rfl)) ⟨by decide, by decide, trivial⟩ trivial (fun r19 ad_1 s19 G2 hEad_1 hq => ?_)
      obtain ⟨v3, rfl, rfl, hw⟩ := hq
      have hFad_1 : (∀ j, j < 84 → ad_1 j = ad j) := fun j hj => (hEad_1 j (ltAA hj)).trans (hF j hj)
      refine aw_ic_ge C dL_letters_22 101 (by decide) hw (fun hc22 hw => ?_) (fun hc22 hw => ?_)
      · refine aw_iinc (w := (x4 + 1)) C dL_letters_101 rfl rfl (by decide) rfl ?_
        refine aw_goto (tgt := 5) C dL_letters_104 (by decide) ?_
        exact aw_msk [true, true, true, true, true, false, false] (hrec5 ad_1 _ _ x2 (x4 + 1) _ hFad_1 (by omega) (by omega) hw)
      · refine aw_iload C dL_letters_25 rfl ?_
        refine aw_bipush (v := 31) C dL_letters_27 (by decide) ?_
        refine aw_ic_ge C dL_letters_29 101 (by decide) hw (fun hc29 hw => ?_) (fun hc29 hw => ?_)
        · refine aw_iinc (w := (x4 + 1)) C dL_letters_101 rfl rfl (by decide) rfl ?_
          refine aw_goto (tgt := 5) C dL_letters_104 (by decide) ?_
          exact aw_msk [true, true, true, true, true, false, false] (hrec5 ad_1 _ _ x2 (x4 + 1) _ hFad_1 (by omega) (by omega) hw)
        · refine aw_aloadn C dL_letters_32 rfl ?_
          refine aw_iload C dL_letters_33 rfl ?_
          refine aw_iload C dL_letters_35 rfl ?_
          refine aw_runQ (mc := 1) (ms := 6) (rest := []) C (run_W (na := 3) C dL_letters_37 (t_L_letter_A hlf x4 x5 _ _ hw) mM_L_123 mW_letter mT_letter mI_L (by decide +kernel) rfl ⟨Nat.le_of_ble_eq_true rfl, Nat.le_of_ble_eq_true rfl, by show _ ≤ 195; omega, by show _ ≤ 1170; omega⟩ [] rfl (Nat.le_of_ble_eq_true rfl)) ⟨by decide, by decide, trivial⟩ trivial (fun r37 ad_4 s37 G5 hEad_4 hq => ?_)
          obtain ⟨v6, rfl, rfl, hw⟩ := hq
          have hFad_4 : (∀ j, j < 84 → ad_4 j = ad j) := fun j hj => (hEad_4 j (ltAA hj)).trans (hFad_1 j hj)
          refine aw_istore C dL_letters_40 (by decide) rfl ?_
          refine aw_iloadn C dL_letters_42 rfl ?_
          refine aw_if_eq (X := True) (Y := True) C dL_letters_43 81 (by decide) ⟨fun _ => trivial, fun _ => trivial⟩ (fun hx _ => ?_) (fun hx _ => ?_)
          · exact (show False by revert hx; decide).elim
          · refine aw_iload C dL_letters_46 rfl ?_
            refine aw_if_lt C dL_letters_48 81 (by decide) hw (fun hc48 hw => ?_) (fun hc48 hw => ?_)
            · exact hw.elim
            · refine aw_iload C dL_letters_51 rfl ?_
              refine aw_bipush (v := 26) C dL_letters_53 (by decide) ?_
              refine aw_ic_ge C dL_letters_55 81 (by decide) hw (fun hc55 hw => ?_) (fun hc55 hw => ?_)
              · exact hw.elim
              · refine aw_iloadn C dL_letters_58 rfl ?_
                refine aw_if_ne C dL_letters_59 77 (by decide) hw (fun hc59 hw => ?_) (fun hc59 hw => ?_)
                · refine aw_iconst (v := 1) C dL_letters_77 (by decide) ?_
                  refine aw_goto (tgt := 82) C dL_letters_78 (by decide) ?_
                  refine aw_istoren C dL_letters_82 (by decide) rfl ?_
                  refine aw_aloadn C dL_letters_83 rfl ?_
                  refine aw_bipush (v := 31) C dL_letters_84 (by decide) ?_
                  refine aw_iload C dL_letters_86 rfl ?_
                  refine aw_imul C dL_letters_88 ?_
                  refine aw_iload C dL_letters_89 rfl ?_
                  refine aw_iadd C dL_letters_91 ?_
                  refine aw_iload C dL_letters_92 rfl ?_
                  refine aw_iast C dL_letters_94 (sA_49 shOK_A) hw.1 hw.2 (fun G7 hw => ?_)
                  refine aw_iinc (w := (x5 + 1)) C dL_letters_95 rfl rfl (by decide) rfl ?_
                  refine aw_goto (tgt := 14) C dL_letters_98 (by decide) ?_
                  exact aw_msk [true, true, true, true, true, true, false] (ih14 ad_4 _ _ x2 x4 (x5 + 1) _ hFad_4 (by omega) (by omega) hw)
                · refine aw_aloadn C dL_letters_62 rfl ?_
                  refine aw_bipush (v := 31) C dL_letters_63 (by decide) ?_
                  refine aw_iload C dL_letters_65 rfl ?_
                  refine aw_imul C dL_letters_67 ?_
                  refine aw_iload C dL_letters_68 rfl ?_
                  refine aw_iadd C dL_letters_70 ?_
                  refine aw_iald C dL_letters_71 (sA_49 shOK_A) hw.1 ?_
                  replace hw := hw.2
                  refine aw_iload C dL_letters_72 rfl ?_
                  refine aw_ic_ne C dL_letters_74 81 (by decide) hw (fun hc74 hw => ?_) (fun hc74 hw => ?_)
                  · exact hw.elim
                  · refine aw_iconst (v := 1) C dL_letters_77 (by decide) ?_
                    refine aw_goto (tgt := 82) C dL_letters_78 (by decide) ?_
                    refine aw_istoren C dL_letters_82 (by decide) rfl ?_
                    refine aw_aloadn C dL_letters_83 rfl ?_
                    refine aw_bipush (v := 31) C dL_letters_84 (by decide) ?_
                    refine aw_iload C dL_letters_86 rfl ?_
                    refine aw_imul C dL_letters_88 ?_
                    refine aw_iload C dL_letters_89 rfl ?_
                    refine aw_iadd C dL_letters_91 ?_
                    refine aw_iload C dL_letters_92 rfl ?_
                    refine aw_iast C dL_letters_94 (sA_49 shOK_A) hw.1 hw.2 (fun G8 hw => ?_)
                    refine aw_iinc (w := (x5 + 1)) C dL_letters_95 rfl rfl (by decide) rfl ?_
                    refine aw_goto (tgt := 14) C dL_letters_98 (by decide) ?_
                    exact aw_msk [true, true, true, true, true, true, false] (ih14 ad_4 _ _ x2 x4 (x5 + 1) _ hFad_4 (by omega) (by omega) hw)
  have h5 : ∀ (f5 : Nat) (ad1 : Nat → Nat) (k n : Nat) (x2 : Int32) (x4 : Int32) (G0 : Gt), (∀ j, j < 84 → ad1 j = ad j) → k + 65 * f5 + 0 ≤ 195 → n + 390 * f5 + 0 ≤ 1170 → w_L_letters_A_h5 K f5 x2 x4 G0 → aw p l e { frames := 8, cells := 195, slots := 1170, locals := 135 } s m args below meth c 7 D tA A (MQ below (QL D tA ad A shA (fun r s' G' => r = some (.int 1) ∧ K s' G')) args s 195 1170 A) k n ad1 5 [some (.ref 0), some (.ref 49), some (.int x2), some (.int 1), some (.int x4), none, none] [] shA G0 := by
    intro f5
    induction f5 with
    | zero => intro ad1 k n x2 x4 G0 hF hk hn hw; exact hw.elim
    | succ f5 ih5 =>
      intro ad1 k n x2 x4 G0 hF hk hn hw
      rw [w_L_letters_A_h5] at hw
      refine aw_iload C dL_letters_5 rfl ?_
      refine aw_iconst (v := 2) C dL_letters_7 (by decide) ?_
      refine aw_ic_ge C dL_letters_8 107 (by decide) hw (fun hc8 hw => ?_) (fun hc8 hw => ?_)
      · refine aw_iloadn C dL_letters_107 rfl ?_
        exact aw_lzreturn C hr dL_letters_108 rfl (by omega) (by omega) (fun j hj => hF j (ltA_ hj)) ⟨rfl, hw⟩
      · refine aw_iconst (v := 0) C dL_letters_11 (by decide) ?_
        refine aw_istore C dL_letters_12 (by decide) rfl ?_
        obtain ⟨f0, hf0, hw⟩ := hw
        exact aw_msk [true, true, true, true, true, true, false] (h14 f5 _ ih5 f0 ad1 _ _ x2 x4 0 _ hF (by omega) (by omega) hw)
  unfold w_L_letters_A at hw
  show aw p l e { frames := 8, cells := 195, slots := 1170, locals := 135 } s m args below meth c 7 D tA A (MQ below (QL D tA ad A shA (fun r s' G' => r = some (.int 1) ∧ K s' G')) args s 195 1170 A) 0 0 ad 0 [some (.ref 0), some (.ref 49), some (.int p2), none, none, none, none] [] shA G0
  refine aw_iconst (v := 1) C dL_letters_0 (by decide) ?_
  refine aw_istoren C dL_letters_1 (by decide) rfl ?_
  refine aw_iconst (v := 0) C dL_letters_2 (by decide) ?_
  refine aw_istore C dL_letters_3 (by decide) rfl ?_
  obtain ⟨f0, hf0, hw⟩ := hw
  exact aw_msk [true, true, true, true, true, false, false] (h5 f0 ad _ _ p2 0 _ hF0 (by omega) (by omega) hw)
def w_L_letters_B_h14 (K : Sh → Gt → Prop) (rec5 : Int32 → Int32 → Gt → Prop) : Nat → Int32 → Int32 → Int32 → Gt → Prop
  | 0, _, _, _, _ => False
  | n + 1, x2, x4, x5, G0 =>
    w_L_length_B (fun v3 s1 G2 => s1 = shB ∧
      pif (v3 ≤ x5) (
        rec5 x2 (x4 + 1) G2) (
        pif (31 ≤ x5) (
          rec5 x2 (x4 + 1) G2) (
          w_L_letter_B (fun v6 s1 G5 => s1 = shB ∧
            pif (v6 < 0) (
              False) (
              pif (26 ≤ v6) (
                False) (
                pif (x2 = 0) (
                  vp_in ((31 * x4) + x5) 62 ∧
                  pif ((G5 49 (((31 * x4) + x5) : Int32).toNatClampNeg) = v6) (
                    vp_in ((31 * x4) + x5) 62 ∧
                    pt (gu G5 49 (((31 * x4) + x5) : Int32).toNatClampNeg v6) fun G8 =>
                    w_L_letters_B_h14 K rec5 n x2 x4 (x5 + 1) G8) (
                    False)) (
                  vp_in ((31 * x4) + x5) 62 ∧
                  pt (gu G5 49 (((31 * x4) + x5) : Int32).toNatClampNeg v6) fun G7 =>
                  w_L_letters_B_h14 K rec5 n x2 x4 (x5 + 1) G7)))) x4 x5 G2))) x4 G0
def w_L_letters_B_h5 (K : Sh → Gt → Prop) : Nat → Int32 → Int32 → Gt → Prop
  | 0, _, _, _ => False
  | n + 1, x2, x4, G0 =>
    pif (2 ≤ x4) (
      K shB G0) (
      ∃ i, i ≤ 32 ∧ w_L_letters_B_h14 K (fun z0 z1 z2 => w_L_letters_B_h5 K n z0 z1 z2) i x2 x4 0 G0)
def w_L_letters_B (K : Sh → Gt → Prop) (p2 : Int32) (G0 : Gt) : Prop :=
  ∃ i, i ≤ 3 ∧ w_L_letters_B_h5 K i p2 0 G0
set_option maxHeartbeats 4000000 in
set_option maxRecDepth 100000 in
theorem t_L_letters_B {l : Launch} (hlf : l.stackTraces = false) (p2 : Int32) (G0 : Gt) (K : Sh → Gt → Prop) (hw : w_L_letters_B K p2 G0) : CV l yL_letters cL_letters 7 (some .boolean) 8 135 195 1170 [.ref 0, .ref 49, .int p2] shB G0 (fun r s' G' => r = some (.int 1) ∧ K s' G') := by
  refine CV_of (by decide) (Nat.le_of_ble_eq_true rfl) rfl ?_
  intro p e s m args below meth c D tA ad A C hr
  have hF0 : ∀ j, j < 145 → ad j = ad j := fun _ _ => rfl
  have h14 : ∀ (f5 : Nat) (rec5 : Int32 → Int32 → Gt → Prop) (hrec5 : ∀ (ad1 : Nat → Nat) (k n : Nat) (x2 : Int32) (x4 : Int32) (G0 : Gt), (∀ j, j < 145 → ad1 j = ad j) → k + 65 * f5 + 0 ≤ 195 → n + 390 * f5 + 0 ≤ 1170 → rec5 x2 x4 G0 → aw p l e { frames := 8, cells := 195, slots := 1170, locals := 135 } s m args below meth c 7 D tA A (MQ below (QL D tA ad A shB (fun r s' G' => r = some (.int 1) ∧ K s' G')) args s 195 1170 A) k n ad1 5 [some (.ref 0), some (.ref 49), some (.int x2), some (.int 1), some (.int x4), none, none] [] shB G0), ∀ (f14 : Nat) (ad1 : Nat → Nat) (k n : Nat) (x2 : Int32) (x4 : Int32) (x5 : Int32) (G0 : Gt), (∀ j, j < 145 → ad1 j = ad j) → k + 2 * f14 + 1 + 65 * f5 + 0 ≤ 195 → n + 12 * f14 + 6 + 390 * f5 + 0 ≤ 1170 → w_L_letters_B_h14 K rec5 f14 x2 x4 x5 G0 → aw p l e { frames := 8, cells := 195, slots := 1170, locals := 135 } s m args below meth c 7 D tA A (MQ below (QL D tA ad A shB (fun r s' G' => r = some (.int 1) ∧ K s' G')) args s 195 1170 A) k n ad1 14 [some (.ref 0), some (.ref 49), some (.int x2), some (.int 1), some (.int x4), some (.int x5), none] [] shB G0 := by
    intro f5 rec5 hrec5 f14
    induction f14 with
    | zero => intro ad1 k n x2 x4 x5 G0 hF hk hn hw; exact hw.elim
    | succ f14 ih14 =>
      intro ad1 k n x2 x4 x5 G0 hF hk hn hw
      rw [w_L_letters_B_h14] at hw
      refine aw_iload C dL_letters_14 rfl ?_
      refine aw_aloadn C dL_letters_16 rfl ?_
      refine aw_iload C dL_letters_17 rfl ?_
      refine aw_runQ (mc := 1) (ms := 6) (rest := [.int x5]) C (run_W (na := 2) C dL_letters_19 (t_L_length_B hlf x4 _ _ hw) mM_L_116 mW_length mT_length mI_L (by decide +kernel) rfl ⟨Nat.le_of_ble_eq_true rfl, Nat.le_of_ble_eq_true rfl, by show _ ≤ 195; omega, by show _ ≤ 1170; omega⟩ [.int x5] rfl (Nat.le_of_ble_eq_true rfl)) ⟨by decide, by decide, trivial⟩ trivial (fun r19 ad_1 s19 G2 hEad_1 hq => ?_)
      obtain ⟨v3, rfl, rfl, hw⟩ := hq
      have hFad_1 : (∀ j, j < 145 → ad_1 j = ad j) := fun j hj => (hEad_1 j (ltBB hj)).trans (hF j hj)
      refine aw_ic_ge C dL_letters_22 101 (by decide) hw (fun hc22 hw => ?_) (fun hc22 hw => ?_)
      · refine aw_iinc (w := (x4 + 1)) C dL_letters_101 rfl rfl (by decide) rfl ?_
        refine aw_goto (tgt := 5) C dL_letters_104 (by decide) ?_
        exact aw_msk [true, true, true, true, true, false, false] (hrec5 ad_1 _ _ x2 (x4 + 1) _ hFad_1 (by omega) (by omega) hw)
      · refine aw_iload C dL_letters_25 rfl ?_
        refine aw_bipush (v := 31) C dL_letters_27 (by decide) ?_
        refine aw_ic_ge C dL_letters_29 101 (by decide) hw (fun hc29 hw => ?_) (fun hc29 hw => ?_)
        · refine aw_iinc (w := (x4 + 1)) C dL_letters_101 rfl rfl (by decide) rfl ?_
          refine aw_goto (tgt := 5) C dL_letters_104 (by decide) ?_
          exact aw_msk [true, true, true, true, true, false, false] (hrec5 ad_1 _ _ x2 (x4 + 1) _ hFad_1 (by omega) (by omega) hw)
        · refine aw_aloadn C dL_letters_32 rfl ?_
          refine aw_iload C dL_letters_33 rfl ?_
          refine aw_iload C dL_letters_35 rfl ?_
          refine aw_runQ (mc := 1) (ms := 6) (rest := []) C (run_W (na := 3) C dL_letters_37 (t_L_letter_B hlf x4 x5 _ _ hw) mM_L_123 mW_letter mT_letter mI_L (by decide +kernel) rfl ⟨Nat.le_of_ble_eq_true rfl, Nat.le_of_ble_eq_true rfl, by show _ ≤ 195; omega, by show _ ≤ 1170; omega⟩ [] rfl (Nat.le_of_ble_eq_true rfl)) ⟨by decide, by decide, trivial⟩ trivial (fun r37 ad_4 s37 G5 hEad_4 hq => ?_)
          obtain ⟨v6, rfl, rfl, hw⟩ := hq
          have hFad_4 : (∀ j, j < 145 → ad_4 j = ad j) := fun j hj => (hEad_4 j (ltBB hj)).trans (hFad_1 j hj)
          refine aw_istore C dL_letters_40 (by decide) rfl ?_
          refine aw_iloadn C dL_letters_42 rfl ?_
          refine aw_if_eq (X := True) (Y := True) C dL_letters_43 81 (by decide) ⟨fun _ => trivial, fun _ => trivial⟩ (fun hx _ => ?_) (fun hx _ => ?_)
          · exact (show False by revert hx; decide).elim
          · refine aw_iload C dL_letters_46 rfl ?_
            refine aw_if_lt C dL_letters_48 81 (by decide) hw (fun hc48 hw => ?_) (fun hc48 hw => ?_)
            · exact hw.elim
            · refine aw_iload C dL_letters_51 rfl ?_
              refine aw_bipush (v := 26) C dL_letters_53 (by decide) ?_
              refine aw_ic_ge C dL_letters_55 81 (by decide) hw (fun hc55 hw => ?_) (fun hc55 hw => ?_)
              · exact hw.elim
              · refine aw_iloadn C dL_letters_58 rfl ?_
                refine aw_if_ne C dL_letters_59 77 (by decide) hw (fun hc59 hw => ?_) (fun hc59 hw => ?_)
                · refine aw_iconst (v := 1) C dL_letters_77 (by decide) ?_
                  refine aw_goto (tgt := 82) C dL_letters_78 (by decide) ?_
                  refine aw_istoren C dL_letters_82 (by decide) rfl ?_
                  refine aw_aloadn C dL_letters_83 rfl ?_
                  refine aw_bipush (v := 31) C dL_letters_84 (by decide) ?_
                  refine aw_iload C dL_letters_86 rfl ?_
                  refine aw_imul C dL_letters_88 ?_
                  refine aw_iload C dL_letters_89 rfl ?_
                  refine aw_iadd C dL_letters_91 ?_
                  refine aw_iload C dL_letters_92 rfl ?_
                  refine aw_iast C dL_letters_94 (sA_49 shOK_B) hw.1 hw.2 (fun G7 hw => ?_)
                  refine aw_iinc (w := (x5 + 1)) C dL_letters_95 rfl rfl (by decide) rfl ?_
                  refine aw_goto (tgt := 14) C dL_letters_98 (by decide) ?_
                  exact aw_msk [true, true, true, true, true, true, false] (ih14 ad_4 _ _ x2 x4 (x5 + 1) _ hFad_4 (by omega) (by omega) hw)
                · refine aw_aloadn C dL_letters_62 rfl ?_
                  refine aw_bipush (v := 31) C dL_letters_63 (by decide) ?_
                  refine aw_iload C dL_letters_65 rfl ?_
                  refine aw_imul C dL_letters_67 ?_
                  refine aw_iload C dL_letters_68 rfl ?_
                  refine aw_iadd C dL_letters_70 ?_
                  refine aw_iald C dL_letters_71 (sA_49 shOK_B) hw.1 ?_
                  replace hw := hw.2
                  refine aw_iload C dL_letters_72 rfl ?_
                  refine aw_ic_ne C dL_letters_74 81 (by decide) hw (fun hc74 hw => ?_) (fun hc74 hw => ?_)
                  · exact hw.elim
                  · refine aw_iconst (v := 1) C dL_letters_77 (by decide) ?_
                    refine aw_goto (tgt := 82) C dL_letters_78 (by decide) ?_
                    refine aw_istoren C dL_letters_82 (by decide) rfl ?_
                    refine aw_aloadn C dL_letters_83 rfl ?_
                    refine aw_bipush (v := 31) C dL_letters_84 (by decide) ?_
                    refine aw_iload C dL_letters_86 rfl ?_
                    refine aw_imul C dL_letters_88 ?_
                    refine aw_iload C dL_letters_89 rfl ?_
                    refine aw_iadd C dL_letters_91 ?_
                    refine aw_iload C dL_letters_92 rfl ?_
                    refine aw_iast C dL_letters_94 (sA_49 shOK_B) hw.1 hw.2 (fun G8 hw => ?_)
                    refine aw_iinc (w := (x5 + 1)) C dL_letters_95 rfl rfl (by decide) rfl ?_
                    refine aw_goto (tgt := 14) C dL_letters_98 (by decide) ?_
                    exact aw_msk [true, true, true, true, true, true, false] (ih14 ad_4 _ _ x2 x4 (x5 + 1) _ hFad_4 (by omega) (by omega) hw)
  have h5 : ∀ (f5 : Nat) (ad1 : Nat → Nat) (k n : Nat) (x2 : Int32) (x4 : Int32) (G0 : Gt), (∀ j, j < 145 → ad1 j = ad j) → k + 65 * f5 + 0 ≤ 195 → n + 390 * f5 + 0 ≤ 1170 → w_L_letters_B_h5 K f5 x2 x4 G0 → aw p l e { frames := 8, cells := 195, slots := 1170, locals := 135 } s m args below meth c 7 D tA A (MQ below (QL D tA ad A shB (fun r s' G' => r = some (.int 1) ∧ K s' G')) args s 195 1170 A) k n ad1 5 [some (.ref 0), some (.ref 49), some (.int x2), some (.int 1), some (.int x4), none, none] [] shB G0 := by
    intro f5
    induction f5 with
    | zero => intro ad1 k n x2 x4 G0 hF hk hn hw; exact hw.elim
    | succ f5 ih5 =>
      intro ad1 k n x2 x4 G0 hF hk hn hw
      rw [w_L_letters_B_h5] at hw
      refine aw_iload C dL_letters_5 rfl ?_
      refine aw_iconst (v := 2) C dL_letters_7 (by decide) ?_
      refine aw_ic_ge C dL_letters_8 107 (by decide) hw (fun hc8 hw => ?_) (fun hc8 hw => ?_)
      · refine aw_iloadn C dL_letters_107 rfl ?_
        exact aw_lzreturn C hr dL_letters_108 rfl (by omega) (by omega) (fun j hj => hF j (ltB_ hj)) ⟨rfl, hw⟩
      · refine aw_iconst (v := 0) C dL_letters_11 (by decide) ?_
        refine aw_istore C dL_letters_12 (by decide) rfl ?_
        obtain ⟨f0, hf0, hw⟩ := hw
        exact aw_msk [true, true, true, true, true, true, false] (h14 f5 _ ih5 f0 ad1 _ _ x2 x4 0 _ hF (by omega) (by omega) hw)
  unfold w_L_letters_B at hw
  show aw p l e { frames := 8, cells := 195, slots := 1170, locals := 135 } s m args below meth c 7 D tA A (MQ below (QL D tA ad A shB (fun r s' G' => r = some (.int 1) ∧ K s' G')) args s 195 1170 A) 0 0 ad 0 [some (.ref 0), some (.ref 49), some (.int p2), none, none, none, none] [] shB G0
  refine aw_iconst (v := 1) C dL_letters_0 (by decide) ?_
  refine aw_istoren C dL_letters_1 (by decide) rfl ?_
  refine aw_iconst (v := 0) C dL_letters_2 (by decide) ?_
  refine aw_istore C dL_letters_3 (by decide) rfl ?_
  obtain ⟨f0, hf0, hw⟩ := hw
  exact aw_msk [true, true, true, true, true, false, false] (h5 f0 ad _ _ p2 0 _ hF0 (by omega) (by omega) hw)
