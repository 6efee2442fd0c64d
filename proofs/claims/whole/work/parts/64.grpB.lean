def w_grp_B (KB : Gt → Prop) (x0 x1 x2 x3 x4 : Int32) (G0 : Gt) : Prop :=
  pif ((x0 &&& 31) = 0) (
    w_L_node_B (fun v1 s1 G2 =>
      s1 = shB ∧
      w_X11_node (fun v4 G3 =>
        w_X11_thrown (fun v6 G5 =>
          pif (v6 = v1) (
            pif (v1 = 0) (
              pif ((G5 83 (0 : Int32).toNatClampNeg) = v4) (
                KB G5) (
                False)) (
              KB G5)) (
            False)) G3) x1 x2 x3 x4 G2) x1 x2 x3 x4 G0) (
  pif ((x0 &&& 31) = 1) (
    w_L_define_B (fun v7 s1 G8 =>
      s1 = shB ∧
      w_X11_define (fun v10 G9 =>
        w_X11_thrown (fun v12 G11 =>
          pif (v12 = v7) (
            pif (v7 = 0) (
              pif ((G11 83 (0 : Int32).toNatClampNeg) = v10) (
                KB G11) (
                False)) (
              KB G11)) (
            False)) G9) x1 x2 x3 x4 G8) x1 x2 x3 x4 G0) (
  pif ((x0 &&& 31) = 2) (
    w_L_size_B (fun v13 s1 G14 =>
      s1 = shB ∧
      w_X11_size (fun v16 G15 =>
        w_X11_thrown (fun v18 G17 =>
          pif (v18 = v13) (
            pif (v13 = 0) (
              pif ((G17 83 (0 : Int32).toNatClampNeg) = v16) (
                KB G17) (
                False)) (
              KB G17)) (
            False)) G15) x1 G14) x1 G0) (
  pif ((x0 &&& 31) = 3) (
    w_L_setOption_B (fun v19 s1 G20 =>
      s1 = shB ∧
      w_X11_setOption (fun v22 G21 =>
        w_X11_thrown (fun v24 G23 =>
          pif (v24 = v19) (
            pif (v19 = 0) (
              pif ((G23 83 (0 : Int32).toNatClampNeg) = v22) (
                KB G23) (
                False)) (
              KB G23)) (
            False)) G21) x1 x2 G20) x1 x2 G0) (
  pif ((x0 &&& 31) = 4) (
    w_L_setBudget_B (fun v25 s1 G26 =>
      s1 = shB ∧
      w_X11_setBudget (fun v28 G27 =>
        w_X11_thrown (fun v30 G29 =>
          pif (v30 = v25) (
            pif (v25 = 0) (
              pif ((G29 83 (0 : Int32).toNatClampNeg) = v28) (
                KB G29) (
                False)) (
              KB G29)) (
            False)) G27) x1 G26) x1 G0) (
  pif ((x0 &&& 31) = 5) (
    w_L_write_B (fun v31 s1 G32 =>
      s1 = shB ∧
      w_X11_write (fun v34 G33 =>
        w_X11_thrown (fun v36 G35 =>
          pif (v36 = v31) (
            pif (v31 = 0) (
              pif ((G35 83 (0 : Int32).toNatClampNeg) = v34) (
                KB G35) (
                False)) (
              KB G35)) (
            False)) G33) x1 x2 G32) x1 x2 G0) (
  pif ((x0 &&& 31) = 6) (
    w_L_run_B (fun v37 s1 G38 =>
      s1 = shB ∧
      w_X11_run (fun v40 G39 =>
        w_X11_thrown (fun v42 G41 =>
          pif (v42 = v37) (
            pif (v37 = 0) (
              pif ((G41 83 (0 : Int32).toNatClampNeg) = v40) (
                KB G41) (
                False)) (
              KB G41)) (
            False)) G39) x1 G38) x1 G0) (
  pif ((x0 &&& 31) = 7) (
    w_L_tried_B (fun v43 s1 G44 =>
      s1 = shB ∧
      w_X11_tried (fun v46 G45 =>
        w_X11_thrown (fun v48 G47 =>
          pif (v48 = v43) (
            pif (v43 = 0) (
              pif ((G47 83 (0 : Int32).toNatClampNeg) = v46) (
                KB G47) (
                False)) (
              KB G47)) (
            False)) G45) x1 G44) x1 G0) (
  pif ((x0 &&& 31) = 8) (
    w_L_triedSteps_B (fun v49 s1 G50 =>
      s1 = shB ∧
      w_X11_triedSteps (fun v52 G51 =>
        w_X11_thrown (fun v54 G53 =>
          pif (v54 = v49) (
            pif (v49 = 0) (
              pif ((G53 83 (0 : Int32).toNatClampNeg) = v52) (
                KB G53) (
                False)) (
              KB G53)) (
            False)) G51) x1 G50) x1 G0) (
  pif ((x0 &&& 31) = 9) (
    w_L_start_B (fun v55 s1 G56 =>
      s1 = shB ∧
      w_X11_start (fun G57 =>
        w_X11_thrown (fun v59 G58 =>
          pif (v59 = v55) (
            KB G58) (
            False)) G57) x1 G56) x1 G0) (
  pif ((x0 &&& 31) = 10) (
    w_L_step_B (fun v60 s1 G61 =>
      s1 = shB ∧
      w_X11_step (fun v63 G62 =>
        w_X11_thrown (fun v65 G64 =>
          pif (v65 = v60) (
            pif (v60 = 0) (
              pif ((G64 83 (0 : Int32).toNatClampNeg) = v63) (
                KB G64) (
                False)) (
              KB G64)) (
            False)) G62) x1 G61) x1 G0) (
  pif ((x0 &&& 31) = 11) (
    w_L_giveUp_B (fun v66 s1 G67 =>
      s1 = shB ∧
      w_X11_giveUp (fun v69 G68 =>
        w_X11_thrown (fun v71 G70 =>
          pif (v71 = v66) (
            pif (v66 = 0) (
              pif ((G70 83 (0 : Int32).toNatClampNeg) = v69) (
                KB G70) (
                False)) (
              KB G70)) (
            False)) G68) G67) G0) (
  pif ((x0 &&& 31) = 12) (
    pif (x2 = 0) (
      w_L_breakAt_B (fun v72 s1 G73 =>
        s1 = shB ∧
        pif (x2 = 0) (
          w_X11_breakAt (fun v75 G74 =>
            w_X11_thrown (fun v77 G76 =>
              pif (v77 = v72) (
                pif (v72 = 0) (
                  pif (v75 = 0) (
                    pif ((G76 83 (0 : Int32).toNatClampNeg) = 0) (
                      KB G76) (
                      False)) (
                    pif ((G76 83 (0 : Int32).toNatClampNeg) = 1) (
                      KB G76) (
                      False))) (
                  KB G76)) (
                False)) G74) x1 0 G73) (
          w_X11_breakAt (fun v79 G78 =>
            w_X11_thrown (fun v81 G80 =>
              pif (v81 = v72) (
                pif (v72 = 0) (
                  pif (v79 = 0) (
                    pif ((G80 83 (0 : Int32).toNatClampNeg) = 0) (
                      KB G80) (
                      False)) (
                    pif ((G80 83 (0 : Int32).toNatClampNeg) = 1) (
                      KB G80) (
                      False))) (
                  KB G80)) (
                False)) G78) x1 1 G73)) x1 0 G0) (
      w_L_breakAt_B (fun v82 s1 G83 =>
        s1 = shB ∧
        pif (x2 = 0) (
          w_X11_breakAt (fun v85 G84 =>
            w_X11_thrown (fun v87 G86 =>
              pif (v87 = v82) (
                pif (v82 = 0) (
                  pif (v85 = 0) (
                    pif ((G86 83 (0 : Int32).toNatClampNeg) = 0) (
                      KB G86) (
                      False)) (
                    pif ((G86 83 (0 : Int32).toNatClampNeg) = 1) (
                      KB G86) (
                      False))) (
                  KB G86)) (
                False)) G84) x1 0 G83) (
          w_X11_breakAt (fun v89 G88 =>
            w_X11_thrown (fun v91 G90 =>
              pif (v91 = v82) (
                pif (v82 = 0) (
                  pif (v89 = 0) (
                    pif ((G90 83 (0 : Int32).toNatClampNeg) = 0) (
                      KB G90) (
                      False)) (
                    pif ((G90 83 (0 : Int32).toNatClampNeg) = 1) (
                      KB G90) (
                      False))) (
                  KB G90)) (
                False)) G88) x1 1 G83)) x1 1 G0)) (
  pif ((x0 &&& 31) = 13) (
    w_X10_next_B (fun v93 G92 =>
      w_X11_next (fun v95 G94 =>
        pif (v93 = v95) (
          KB G94) (
          False)) G92) G0) (
  pif ((x0 &&& 31) = 14) (
    w_L_look_B (fun v96 s1 G97 =>
      s1 = shB ∧
      w_X11_look (fun v99 G98 =>
        w_X11_thrown (fun v101 G100 =>
          pif (v101 = v96) (
            pif (v96 = 0) (
              pif ((G100 83 (0 : Int32).toNatClampNeg) = v99) (
                KB G100) (
                False)) (
              KB G100)) (
            False)) G98) x1 G97) x1 G0) (
  pif ((x0 &&& 31) = 15) (
    w_X10_active_B (fun v103 G102 =>
      w_X11_active (fun v105 G104 =>
        pif (v103 = v105) (
          KB G104) (
          False)) G102) G0) (
  pif ((x0 &&& 31) = 16) (
    w_X10_outcome_B (fun v107 G106 =>
      w_X11_outcome (fun v109 G108 =>
        pif (v107 = v109) (
          KB G108) (
          False)) G106) G0) (
  pif ((x0 &&& 31) = 17) (
    w_X10_steps_B (fun v111 G110 =>
      w_X11_steps (fun v113 G112 =>
        pif (v111 = v113) (
          KB G112) (
          False)) G110) G0) (
  pif ((x0 &&& 31) = 18) (
    w_X10_cause_B (fun v115 G114 =>
      w_X11_cause (fun v117 G116 =>
        pif (v115 = v117) (
          KB G116) (
          False)) G114) G0) (
  pif ((x0 &&& 31) = 19) (
    w_X10_traced_B (fun v119 G118 =>
      w_X11_traced (fun v121 G120 =>
        pif (v119 = v121) (
          KB G120) (
          False)) G118) G0) (
  pif ((x0 &&& 31) = 20) (
    w_L_traceAt_B (fun v122 s1 G123 =>
      s1 = shB ∧
      w_X11_traceAt (fun v125 G124 =>
        w_X11_thrown (fun v127 G126 =>
          pif (v127 = v122) (
            pif (v122 = 0) (
              pif ((G126 83 (0 : Int32).toNatClampNeg) = v125) (
                KB G126) (
                False)) (
              KB G126)) (
            False)) G124) x1 G123) x1 G0) (
  pif ((x0 &&& 31) = 21) (
    w_X10_buffer_B (fun v129 G128 =>
      w_X11_buffer (fun v131 G130 =>
        pif (v129 = v131) (
          KB G130) (
          False)) G128) G0) (
  pif ((x0 &&& 31) = 22) (
    w_L_length_B (fun v132 s1 G133 =>
      s1 = shB ∧
      w_X11_length (fun v135 G134 =>
        w_X11_thrown (fun v137 G136 =>
          pif (v137 = v132) (
            pif (v132 = 0) (
              pif ((G136 83 (0 : Int32).toNatClampNeg) = v135) (
                KB G136) (
                False)) (
              KB G136)) (
            False)) G134) x1 G133) x1 G0) (
  pif ((x0 &&& 31) = 23) (
    w_L_letter_B (fun v138 s1 G139 =>
      s1 = shB ∧
      w_X11_letter (fun v141 G140 =>
        w_X11_thrown (fun v143 G142 =>
          pif (v143 = v138) (
            pif (v138 = 0) (
              pif ((G142 83 (0 : Int32).toNatClampNeg) = v141) (
                KB G142) (
                False)) (
              KB G142)) (
            False)) G140) x1 x2 G139) x1 x2 G0) (
  pif ((x0 &&& 31) = 24) (
    w_L_cursor_B (fun v144 s1 G145 =>
      s1 = shB ∧
      w_X11_cursor (fun v147 G146 =>
        w_X11_thrown (fun v149 G148 =>
          pif (v149 = v144) (
            pif (v144 = 0) (
              pif ((G148 83 (0 : Int32).toNatClampNeg) = v147) (
                KB G148) (
                False)) (
              KB G148)) (
            False)) G146) x1 x2 G145) x1 x2 G0) (
  pif ((x0 &&& 31) = 25) (
    w_L_activeCursor_B (fun v150 s1 G151 =>
      s1 = shB ∧
      w_X11_activeCursor (fun v153 G152 =>
        w_X11_thrown (fun v155 G154 =>
          pif (v155 = v150) (
            pif (v150 = 0) (
              pif ((G154 83 (0 : Int32).toNatClampNeg) = v153) (
                KB G154) (
                False)) (
              KB G154)) (
            False)) G152) x1 G151) x1 G0) (
  pif ((x0 &&& 31) = 26) (
    w_L_option_B (fun v156 s1 G157 =>
      s1 = shB ∧
      w_X11_option (fun v159 G158 =>
        w_X11_thrown (fun v161 G160 =>
          pif (v161 = v156) (
            pif (v156 = 0) (
              pif ((G160 83 (0 : Int32).toNatClampNeg) = v159) (
                KB G160) (
                False)) (
              KB G160)) (
            False)) G158) x1 G157) x1 G0) (
  pif ((x0 &&& 31) = 27) (
    w_L_register_B (fun v162 s1 G163 =>
      s1 = shB ∧
      w_X11_register (fun v165 G164 =>
        w_X11_thrown (fun v167 G166 =>
          pif (v167 = v162) (
            pif (v162 = 0) (
              pif ((G166 83 (0 : Int32).toNatClampNeg) = v165) (
                KB G166) (
                False)) (
              KB G166)) (
            False)) G164) x1 G163) x1 G0) (
  pif ((x0 &&& 31) = 28) (
    w_L_body_B (fun v168 s1 G169 =>
      s1 = shB ∧
      w_X11_body (fun v171 G170 =>
        w_X11_thrown (fun v173 G172 =>
          pif (v173 = v168) (
            pif (v168 = 0) (
              pif ((G172 83 (0 : Int32).toNatClampNeg) = v171) (
                KB G172) (
                False)) (
              KB G172)) (
            False)) G170) x1 G169) x1 G0) (
  pif ((x0 &&& 31) = 29) (
    w_X10_hook_B (fun v175 G174 =>
      w_X11_hook (fun v177 G176 =>
        pif (v175 = v177) (
          KB G176) (
          False)) G174) G0) (
    KB G0))))))))))))))))))))))))))))))
set_option maxHeartbeats 40000000 in
set_option maxRecDepth 100000 in
theorem t_grp_B {p : Program} {l : Launch} {e : Env} {s : State} {m : MethodId} {args : Array Value} {below : List Frame} {meth : Method} {c : Code} {D : va_G} {tA : Nat → ClassId} {A : Nat → Prop} {ad : Nat → Nat} {Q : State → Prop} {k n b L : Nat} {xs : Nat → Int32} {i x0 x1 x2 x3 x4 : Int32} {G0 : Gt} {KB : Gt → Prop} (hlf : l.stackTraces = false) (C : cx p s m args meth c RL code 7 D tA A) (hX : va_X b L xs s s.heap) (hbl : b < s.heap.size) (hbA : ¬ A b)
    (hv0 : vp_in i L) (hv1 : vp_in (i + 1) L) (hv2 : vp_in (i + 2) L) (hv3 : vp_in (i + 3) L) (hv4 : vp_in (i + 4) L) (hx0 : xs i.toNatClampNeg = x0) (hx1 : xs (i + 1).toNatClampNeg = x1) (hx2 : xs (i + 2).toNatClampNeg = x2) (hx3 : xs (i + 3).toNatClampNeg = x3) (hx4 : xs (i + 4).toNatClampNeg = x4)
    (hk : k + 100 ≤ 601024) (hn : n + 30000 ≤ 7293034)
    (hendB : ∀ (ad1 : Nat → Nat) (G1 : Gt) (k1 n1 : Nat), k1 ≤ k + 1 → n1 ≤ n + 6 → KB G1 → aw p l e room_1 s m args below meth c 7 D tA A Q k1 n1 ad1 1631 [some (.retAddr b), some (.ref 0), some (.ref 46), some (.ref 83), some (.int i), none, none] [] shB G1) (hw : w_grp_B KB x0 x1 x2 x3 x4 G0) : aw p l e room_1 s m args below meth c 7 D tA A Q k n ad 32 [some (.retAddr b), some (.ref 0), some (.ref 46), some (.ref 83), some (.int i), none, none] [] shB G0 := by
  unfold w_grp_B at hw
  refine aw_aloadnR C dL_law_32 rfl ?_
  refine aw_iload C dL_law_33 rfl ?_
  refine aw_sld C dL_law_35 hX hbl hbA hv0 hx0 ?_
  refine aw_bipush (v := 31) C dL_law_36 (by decide) ?_
  refine aw_iand C dL_law_38 ?_
  refine sw_if hw (fun ha39_0 hw => ?_) (fun ha39_0 hw => ?_)
  · refine aw_tab C 172 dL_law_39 ha39_0 (by decide) (by decide) rfl (by decide) ?_
    refine aw_aloadn C dL_law_172 rfl ?_
    refine aw_aloadnR C dL_law_173 rfl ?_
    refine aw_iload C dL_law_174 rfl ?_
    refine aw_iconst (v := 1) C dL_law_176 (by decide) ?_
    refine aw_iadd C dL_law_177 ?_
    refine aw_sld C dL_law_178 hX hbl hbA hv1 hx1 ?_
    refine aw_aloadnR C dL_law_179 rfl ?_
    refine aw_iload C dL_law_180 rfl ?_
    refine aw_iconst (v := 2) C dL_law_182 (by decide) ?_
    refine aw_iadd C dL_law_183 ?_
    refine aw_sld C dL_law_184 hX hbl hbA hv2 hx2 ?_
    refine aw_aloadnR C dL_law_185 rfl ?_
    refine aw_iload C dL_law_186 rfl ?_
    refine aw_iconst (v := 3) C dL_law_188 (by decide) ?_
    refine aw_iadd C dL_law_189 ?_
    refine aw_sld C dL_law_190 hX hbl hbA hv3 hx3 ?_
    refine aw_aloadnR C dL_law_191 rfl ?_
    refine aw_iload C dL_law_192 rfl ?_
    refine aw_iconst (v := 4) C dL_law_194 (by decide) ?_
    refine aw_iadd C dL_law_195 ?_
    refine aw_sld C dL_law_196 hX hbl hbA hv4 hx4 ?_
    refine aw_aloadn C dL_law_197 rfl ?_
    refine aw_callW (na := 6) C dL_law_198 (t_L_node_B hlf x1 x2 x3 x4 _ _ hw) mM_L_91 mW_node mT_node mI_L (by decide +kernel) rfl ⟨Nat.le_of_ble_eq_true rfl, Nat.le_of_ble_eq_true rfl, by show _ ≤ 601024; omega, by show _ ≤ 7293034; omega⟩ [] rfl (Nat.le_of_ble_eq_true rfl) ⟨by decide, by decide, by decide, trivial⟩ trivial (fun r198 ad198 s1 G2 hE198 hq => ?_)
    obtain ⟨v1, rfl, rfl, hw⟩ := hq
    refine aw_istore C dL_law_201 (by decide) rfl ?_
    refine aw_aloadn C dL_law_203 rfl ?_
    refine aw_aloadnR C dL_law_204 rfl ?_
    refine aw_iload C dL_law_205 rfl ?_
    refine aw_iconst (v := 1) C dL_law_207 (by decide) ?_
    refine aw_iadd C dL_law_208 ?_
    refine aw_sld C dL_law_209 hX hbl hbA hv1 hx1 ?_
    refine aw_aloadnR C dL_law_210 rfl ?_
    refine aw_iload C dL_law_211 rfl ?_
    refine aw_iconst (v := 2) C dL_law_213 (by decide) ?_
    refine aw_iadd C dL_law_214 ?_
    refine aw_sld C dL_law_215 hX hbl hbA hv2 hx2 ?_
    refine aw_aloadnR C dL_law_216 rfl ?_
    refine aw_iload C dL_law_217 rfl ?_
    refine aw_iconst (v := 3) C dL_law_219 (by decide) ?_
    refine aw_iadd C dL_law_220 ?_
    refine aw_sld C dL_law_221 hX hbl hbA hv3 hx3 ?_
    refine aw_aloadnR C dL_law_222 rfl ?_
    refine aw_iload C dL_law_223 rfl ?_
    refine aw_iconst (v := 4) C dL_law_225 (by decide) ?_
    refine aw_iadd C dL_law_226 ?_
    refine aw_sld C dL_law_227 hX hbl hbA hv4 hx4 ?_
    refine aw_callV C dL_law_228 (t_X11_node shOK_B  x1 x2 x3 x4 _ _ hw) mM_L_96 bX11_node (sA_46 shOK_B) rfl rfl ⟨Nat.le_of_ble_eq_true rfl, Nat.le_of_ble_eq_true rfl, by show _ ≤ 601024; omega, by show _ ≤ 7293034; omega⟩ _ rfl (Nat.le_of_ble_eq_true rfl) (fun r228 G3 hq => ?_)
    obtain ⟨v4, rfl, hw⟩ := hq
    refine aw_istore C dL_law_231 (by decide) rfl ?_
    refine aw_aloadn C dL_law_233 rfl ?_
    refine aw_callV C dL_law_234 (t_X11_thrown shOK_B  _ _ hw) mM_L_97 bX11_thrown (sA_46 shOK_B) rfl rfl ⟨Nat.le_of_ble_eq_true rfl, Nat.le_of_ble_eq_true rfl, by show _ ≤ 601024; omega, by show _ ≤ 7293034; omega⟩ _ rfl (Nat.le_of_ble_eq_true rfl) (fun r234 G5 hq => ?_)
    obtain ⟨v6, rfl, hw⟩ := hq
    refine aw_iload C dL_law_237 rfl ?_
    refine aw_ic_eq C dL_law_239 244 (by decide) hw (fun hc239 hw => ?_) (fun hc239 hw => ?_)
    · refine aw_iload C dL_law_244 rfl ?_
      refine aw_if_ne C dL_law_246 261 (by decide) hw (fun hc246 hw => ?_) (fun hc246 hw => ?_)
      · refine aw_goto (tgt := 1631) C dL_law_261 (by decide) ?_
        exact aw_msk [true, true, true, true, true, false, false] (hendB _ G5 _ _ (by omega) (by omega) hw)
      · refine aw_aloadn C dL_law_249 rfl ?_
        refine aw_iconst (v := 0) C dL_law_250 (by decide) ?_
        refine aw_lald (N := 1) C dL_law_251 (sA_83 shOK_B) (by unfold vp_in; decide) ?_
        refine aw_iload C dL_law_252 rfl ?_
        refine aw_i2l C dL_law_254 ?_
        refine aw_lcmpE C dL_law_255 dL_law_256 261 (by decide) hw (fun hc255 hw => ?_) (fun hc255 hw => ?_)
        · refine aw_goto (tgt := 1631) C dL_law_261 (by decide) ?_
          exact aw_msk [true, true, true, true, true, false, false] (hendB _ G5 _ _ (by omega) (by omega) hw)
        · exact hw.elim
    · exact hw.elim
  refine sw_if hw (fun ha39_1 hw => ?_) (fun ha39_1 hw => ?_)
  · refine aw_tab C 264 dL_law_39 ha39_1 (by decide) (by decide) rfl (by decide) ?_
    refine aw_aloadn C dL_law_264 rfl ?_
    refine aw_aloadnR C dL_law_265 rfl ?_
    refine aw_iload C dL_law_266 rfl ?_
    refine aw_iconst (v := 1) C dL_law_268 (by decide) ?_
    refine aw_iadd C dL_law_269 ?_
    refine aw_sld C dL_law_270 hX hbl hbA hv1 hx1 ?_
    refine aw_aloadnR C dL_law_271 rfl ?_
    refine aw_iload C dL_law_272 rfl ?_
    refine aw_iconst (v := 2) C dL_law_274 (by decide) ?_
    refine aw_iadd C dL_law_275 ?_
    refine aw_sld C dL_law_276 hX hbl hbA hv2 hx2 ?_
    refine aw_aloadnR C dL_law_277 rfl ?_
    refine aw_iload C dL_law_278 rfl ?_
    refine aw_iconst (v := 3) C dL_law_280 (by decide) ?_
    refine aw_iadd C dL_law_281 ?_
    refine aw_sld C dL_law_282 hX hbl hbA hv3 hx3 ?_
    refine aw_aloadnR C dL_law_283 rfl ?_
    refine aw_iload C dL_law_284 rfl ?_
    refine aw_iconst (v := 4) C dL_law_286 (by decide) ?_
    refine aw_iadd C dL_law_287 ?_
    refine aw_sld C dL_law_288 hX hbl hbA hv4 hx4 ?_
    refine aw_aloadn C dL_law_289 rfl ?_
    refine aw_callW (na := 6) C dL_law_290 (t_L_define_B hlf x1 x2 x3 x4 _ _ hw) mM_L_100 mW_define mT_define mI_L (by decide +kernel) rfl ⟨Nat.le_of_ble_eq_true rfl, Nat.le_of_ble_eq_true rfl, by show _ ≤ 601024; omega, by show _ ≤ 7293034; omega⟩ [] rfl (Nat.le_of_ble_eq_true rfl) ⟨by decide, by decide, by decide, trivial⟩ trivial (fun r290 ad290 s1 G8 hE290 hq => ?_)
    obtain ⟨v7, rfl, rfl, hw⟩ := hq
    refine aw_istore C dL_law_293 (by decide) rfl ?_
    refine aw_aloadn C dL_law_295 rfl ?_
    refine aw_aloadnR C dL_law_296 rfl ?_
    refine aw_iload C dL_law_297 rfl ?_
    refine aw_iconst (v := 1) C dL_law_299 (by decide) ?_
    refine aw_iadd C dL_law_300 ?_
    refine aw_sld C dL_law_301 hX hbl hbA hv1 hx1 ?_
    refine aw_aloadnR C dL_law_302 rfl ?_
    refine aw_iload C dL_law_303 rfl ?_
    refine aw_iconst (v := 2) C dL_law_305 (by decide) ?_
    refine aw_iadd C dL_law_306 ?_
    refine aw_sld C dL_law_307 hX hbl hbA hv2 hx2 ?_
    refine aw_aloadnR C dL_law_308 rfl ?_
    refine aw_iload C dL_law_309 rfl ?_
    refine aw_iconst (v := 3) C dL_law_311 (by decide) ?_
    refine aw_iadd C dL_law_312 ?_
    refine aw_sld C dL_law_313 hX hbl hbA hv3 hx3 ?_
    refine aw_aloadnR C dL_law_314 rfl ?_
    refine aw_iload C dL_law_315 rfl ?_
    refine aw_iconst (v := 4) C dL_law_317 (by decide) ?_
    refine aw_iadd C dL_law_318 ?_
    refine aw_sld C dL_law_319 hX hbl hbA hv4 hx4 ?_
    refine aw_callV C dL_law_320 (t_X11_define shOK_B  x1 x2 x3 x4 _ _ hw) mM_L_102 bX11_define (sA_46 shOK_B) rfl rfl ⟨Nat.le_of_ble_eq_true rfl, Nat.le_of_ble_eq_true rfl, by show _ ≤ 601024; omega, by show _ ≤ 7293034; omega⟩ _ rfl (Nat.le_of_ble_eq_true rfl) (fun r320 G9 hq => ?_)
    obtain ⟨v10, rfl, hw⟩ := hq
    refine aw_istore C dL_law_323 (by decide) rfl ?_
    refine aw_aloadn C dL_law_325 rfl ?_
    refine aw_callV C dL_law_326 (t_X11_thrown shOK_B  _ _ hw) mM_L_97 bX11_thrown (sA_46 shOK_B) rfl rfl ⟨Nat.le_of_ble_eq_true rfl, Nat.le_of_ble_eq_true rfl, by show _ ≤ 601024; omega, by show _ ≤ 7293034; omega⟩ _ rfl (Nat.le_of_ble_eq_true rfl) (fun r326 G11 hq => ?_)
    obtain ⟨v12, rfl, hw⟩ := hq
    refine aw_iload C dL_law_329 rfl ?_
    refine aw_ic_eq C dL_law_331 336 (by decide) hw (fun hc331 hw => ?_) (fun hc331 hw => ?_)
    · refine aw_iload C dL_law_336 rfl ?_
      refine aw_if_ne C dL_law_338 353 (by decide) hw (fun hc338 hw => ?_) (fun hc338 hw => ?_)
      · refine aw_goto (tgt := 1631) C dL_law_353 (by decide) ?_
        exact aw_msk [true, true, true, true, true, false, false] (hendB _ G11 _ _ (by omega) (by omega) hw)
      · refine aw_aloadn C dL_law_341 rfl ?_
        refine aw_iconst (v := 0) C dL_law_342 (by decide) ?_
        refine aw_lald (N := 1) C dL_law_343 (sA_83 shOK_B) (by unfold vp_in; decide) ?_
        refine aw_iload C dL_law_344 rfl ?_
        refine aw_i2l C dL_law_346 ?_
        refine aw_lcmpE C dL_law_347 dL_law_348 353 (by decide) hw (fun hc347 hw => ?_) (fun hc347 hw => ?_)
        · refine aw_goto (tgt := 1631) C dL_law_353 (by decide) ?_
          exact aw_msk [true, true, true, true, true, false, false] (hendB _ G11 _ _ (by omega) (by omega) hw)
        · exact hw.elim
    · exact hw.elim
  refine sw_if hw (fun ha39_2 hw => ?_) (fun ha39_2 hw => ?_)
  · refine aw_tab C 356 dL_law_39 ha39_2 (by decide) (by decide) rfl (by decide) ?_
    refine aw_aloadn C dL_law_356 rfl ?_
    refine aw_aloadnR C dL_law_357 rfl ?_
    refine aw_iload C dL_law_358 rfl ?_
    refine aw_iconst (v := 1) C dL_law_360 (by decide) ?_
    refine aw_iadd C dL_law_361 ?_
    refine aw_sld C dL_law_362 hX hbl hbA hv1 hx1 ?_
    refine aw_aloadn C dL_law_363 rfl ?_
    refine aw_callW (na := 3) C dL_law_364 (t_L_size_B hlf x1 _ _ hw) mM_L_103 mW_size mT_size mI_L (by decide +kernel) rfl ⟨Nat.le_of_ble_eq_true rfl, Nat.le_of_ble_eq_true rfl, by show _ ≤ 601024; omega, by show _ ≤ 7293034; omega⟩ [] rfl (Nat.le_of_ble_eq_true rfl) ⟨by decide, by decide, by decide, trivial⟩ trivial (fun r364 ad364 s1 G14 hE364 hq => ?_)
    obtain ⟨v13, rfl, rfl, hw⟩ := hq
    refine aw_istore C dL_law_367 (by decide) rfl ?_
    refine aw_aloadn C dL_law_369 rfl ?_
    refine aw_aloadnR C dL_law_370 rfl ?_
    refine aw_iload C dL_law_371 rfl ?_
    refine aw_iconst (v := 1) C dL_law_373 (by decide) ?_
    refine aw_iadd C dL_law_374 ?_
    refine aw_sld C dL_law_375 hX hbl hbA hv1 hx1 ?_
    refine aw_callV C dL_law_376 (t_X11_size shOK_B  x1 _ _ hw) mM_L_106 bX11_size (sA_46 shOK_B) rfl rfl ⟨Nat.le_of_ble_eq_true rfl, Nat.le_of_ble_eq_true rfl, by show _ ≤ 601024; omega, by show _ ≤ 7293034; omega⟩ _ rfl (Nat.le_of_ble_eq_true rfl) (fun r376 G15 hq => ?_)
    obtain ⟨v16, rfl, hw⟩ := hq
    refine aw_istore C dL_law_379 (by decide) rfl ?_
    refine aw_aloadn C dL_law_381 rfl ?_
    refine aw_callV C dL_law_382 (t_X11_thrown shOK_B  _ _ hw) mM_L_97 bX11_thrown (sA_46 shOK_B) rfl rfl ⟨Nat.le_of_ble_eq_true rfl, Nat.le_of_ble_eq_true rfl, by show _ ≤ 601024; omega, by show _ ≤ 7293034; omega⟩ _ rfl (Nat.le_of_ble_eq_true rfl) (fun r382 G17 hq => ?_)
    obtain ⟨v18, rfl, hw⟩ := hq
    refine aw_iload C dL_law_385 rfl ?_
    refine aw_ic_eq C dL_law_387 392 (by decide) hw (fun hc387 hw => ?_) (fun hc387 hw => ?_)
    · refine aw_iload C dL_law_392 rfl ?_
      refine aw_if_ne C dL_law_394 409 (by decide) hw (fun hc394 hw => ?_) (fun hc394 hw => ?_)
      · refine aw_goto (tgt := 1631) C dL_law_409 (by decide) ?_
        exact aw_msk [true, true, true, true, true, false, false] (hendB _ G17 _ _ (by omega) (by omega) hw)
      · refine aw_aloadn C dL_law_397 rfl ?_
        refine aw_iconst (v := 0) C dL_law_398 (by decide) ?_
        refine aw_lald (N := 1) C dL_law_399 (sA_83 shOK_B) (by unfold vp_in; decide) ?_
        refine aw_iload C dL_law_400 rfl ?_
        refine aw_i2l C dL_law_402 ?_
        refine aw_lcmpE C dL_law_403 dL_law_404 409 (by decide) hw (fun hc403 hw => ?_) (fun hc403 hw => ?_)
        · refine aw_goto (tgt := 1631) C dL_law_409 (by decide) ?_
          exact aw_msk [true, true, true, true, true, false, false] (hendB _ G17 _ _ (by omega) (by omega) hw)
        · exact hw.elim
    · exact hw.elim
  refine sw_if hw (fun ha39_3 hw => ?_) (fun ha39_3 hw => ?_)
  · refine aw_tab C 412 dL_law_39 ha39_3 (by decide) (by decide) rfl (by decide) ?_
    refine aw_aloadn C dL_law_412 rfl ?_
    refine aw_aloadnR C dL_law_413 rfl ?_
    refine aw_iload C dL_law_414 rfl ?_
    refine aw_iconst (v := 1) C dL_law_416 (by decide) ?_
    refine aw_iadd C dL_law_417 ?_
    refine aw_sld C dL_law_418 hX hbl hbA hv1 hx1 ?_
    refine aw_aloadnR C dL_law_419 rfl ?_
    refine aw_iload C dL_law_420 rfl ?_
    refine aw_iconst (v := 2) C dL_law_422 (by decide) ?_
    refine aw_iadd C dL_law_423 ?_
    refine aw_sld C dL_law_424 hX hbl hbA hv2 hx2 ?_
    refine aw_aloadn C dL_law_425 rfl ?_
    refine aw_callW (na := 4) C dL_law_426 (t_L_setOption_B hlf x1 x2 _ _ hw) mM_L_107 mW_setOption mT_setOption mI_L (by decide +kernel) rfl ⟨Nat.le_of_ble_eq_true rfl, Nat.le_of_ble_eq_true rfl, by show _ ≤ 601024; omega, by show _ ≤ 7293034; omega⟩ [] rfl (Nat.le_of_ble_eq_true rfl) ⟨by decide, by decide, by decide, trivial⟩ trivial (fun r426 ad426 s1 G20 hE426 hq => ?_)
    obtain ⟨v19, rfl, rfl, hw⟩ := hq
    refine aw_istore C dL_law_429 (by decide) rfl ?_
    refine aw_aloadn C dL_law_431 rfl ?_
    refine aw_aloadnR C dL_law_432 rfl ?_
    refine aw_iload C dL_law_433 rfl ?_
    refine aw_iconst (v := 1) C dL_law_435 (by decide) ?_
    refine aw_iadd C dL_law_436 ?_
    refine aw_sld C dL_law_437 hX hbl hbA hv1 hx1 ?_
    refine aw_aloadnR C dL_law_438 rfl ?_
    refine aw_iload C dL_law_439 rfl ?_
    refine aw_iconst (v := 2) C dL_law_441 (by decide) ?_
    refine aw_iadd C dL_law_442 ?_
    refine aw_sld C dL_law_443 hX hbl hbA hv2 hx2 ?_
    refine aw_callV C dL_law_444 (t_X11_setOption shOK_B  x1 x2 _ _ hw) mM_L_110 bX11_setOption (sA_46 shOK_B) rfl rfl ⟨Nat.le_of_ble_eq_true rfl, Nat.le_of_ble_eq_true rfl, by show _ ≤ 601024; omega, by show _ ≤ 7293034; omega⟩ _ rfl (Nat.le_of_ble_eq_true rfl) (fun r444 G21 hq => ?_)
    obtain ⟨v22, rfl, hw⟩ := hq
    refine aw_istore C dL_law_447 (by decide) rfl ?_
    refine aw_aloadn C dL_law_449 rfl ?_
    refine aw_callV C dL_law_450 (t_X11_thrown shOK_B  _ _ hw) mM_L_97 bX11_thrown (sA_46 shOK_B) rfl rfl ⟨Nat.le_of_ble_eq_true rfl, Nat.le_of_ble_eq_true rfl, by show _ ≤ 601024; omega, by show _ ≤ 7293034; omega⟩ _ rfl (Nat.le_of_ble_eq_true rfl) (fun r450 G23 hq => ?_)
    obtain ⟨v24, rfl, hw⟩ := hq
    refine aw_iload C dL_law_453 rfl ?_
    refine aw_ic_eq C dL_law_455 460 (by decide) hw (fun hc455 hw => ?_) (fun hc455 hw => ?_)
    · refine aw_iload C dL_law_460 rfl ?_
      refine aw_if_ne C dL_law_462 477 (by decide) hw (fun hc462 hw => ?_) (fun hc462 hw => ?_)
      · refine aw_goto (tgt := 1631) C dL_law_477 (by decide) ?_
        exact aw_msk [true, true, true, true, true, false, false] (hendB _ G23 _ _ (by omega) (by omega) hw)
      · refine aw_aloadn C dL_law_465 rfl ?_
        refine aw_iconst (v := 0) C dL_law_466 (by decide) ?_
        refine aw_lald (N := 1) C dL_law_467 (sA_83 shOK_B) (by unfold vp_in; decide) ?_
        refine aw_iload C dL_law_468 rfl ?_
        refine aw_i2l C dL_law_470 ?_
        refine aw_lcmpE C dL_law_471 dL_law_472 477 (by decide) hw (fun hc471 hw => ?_) (fun hc471 hw => ?_)
        · refine aw_goto (tgt := 1631) C dL_law_477 (by decide) ?_
          exact aw_msk [true, true, true, true, true, false, false] (hendB _ G23 _ _ (by omega) (by omega) hw)
        · exact hw.elim
    · exact hw.elim
  refine sw_if hw (fun ha39_4 hw => ?_) (fun ha39_4 hw => ?_)
  · refine aw_tab C 480 dL_law_39 ha39_4 (by decide) (by decide) rfl (by decide) ?_
    refine aw_aloadn C dL_law_480 rfl ?_
    refine aw_aloadnR C dL_law_481 rfl ?_
    refine aw_iload C dL_law_482 rfl ?_
    refine aw_iconst (v := 1) C dL_law_484 (by decide) ?_
    refine aw_iadd C dL_law_485 ?_
    refine aw_sld C dL_law_486 hX hbl hbA hv1 hx1 ?_
    refine aw_aloadn C dL_law_487 rfl ?_
    refine aw_callW (na := 3) C dL_law_488 (t_L_setBudget_B hlf x1 _ _ hw) mM_L_111 mW_setBudget mT_setBudget mI_L (by decide +kernel) rfl ⟨Nat.le_of_ble_eq_true rfl, Nat.le_of_ble_eq_true rfl, by show _ ≤ 601024; omega, by show _ ≤ 7293034; omega⟩ [] rfl (Nat.le_of_ble_eq_true rfl) ⟨by decide, by decide, by decide, trivial⟩ trivial (fun r488 ad488 s1 G26 hE488 hq => ?_)
    obtain ⟨v25, rfl, rfl, hw⟩ := hq
    refine aw_istore C dL_law_491 (by decide) rfl ?_
    refine aw_aloadn C dL_law_493 rfl ?_
    refine aw_aloadnR C dL_law_494 rfl ?_
    refine aw_iload C dL_law_495 rfl ?_
    refine aw_iconst (v := 1) C dL_law_497 (by decide) ?_
    refine aw_iadd C dL_law_498 ?_
    refine aw_sld C dL_law_499 hX hbl hbA hv1 hx1 ?_
    refine aw_callV C dL_law_500 (t_X11_setBudget shOK_B  x1 _ _ hw) mM_L_113 bX11_setBudget (sA_46 shOK_B) rfl rfl ⟨Nat.le_of_ble_eq_true rfl, Nat.le_of_ble_eq_true rfl, by show _ ≤ 601024; omega, by show _ ≤ 7293034; omega⟩ _ rfl (Nat.le_of_ble_eq_true rfl) (fun r500 G27 hq => ?_)
    obtain ⟨v28, rfl, hw⟩ := hq
    refine aw_istore C dL_law_503 (by decide) rfl ?_
    refine aw_aloadn C dL_law_505 rfl ?_
    refine aw_callV C dL_law_506 (t_X11_thrown shOK_B  _ _ hw) mM_L_97 bX11_thrown (sA_46 shOK_B) rfl rfl ⟨Nat.le_of_ble_eq_true rfl, Nat.le_of_ble_eq_true rfl, by show _ ≤ 601024; omega, by show _ ≤ 7293034; omega⟩ _ rfl (Nat.le_of_ble_eq_true rfl) (fun r506 G29 hq => ?_)
    obtain ⟨v30, rfl, hw⟩ := hq
    refine aw_iload C dL_law_509 rfl ?_
    refine aw_ic_eq C dL_law_511 516 (by decide) hw (fun hc511 hw => ?_) (fun hc511 hw => ?_)
    · refine aw_iload C dL_law_516 rfl ?_
      refine aw_if_ne C dL_law_518 533 (by decide) hw (fun hc518 hw => ?_) (fun hc518 hw => ?_)
      · refine aw_goto (tgt := 1631) C dL_law_533 (by decide) ?_
        exact aw_msk [true, true, true, true, true, false, false] (hendB _ G29 _ _ (by omega) (by omega) hw)
      · refine aw_aloadn C dL_law_521 rfl ?_
        refine aw_iconst (v := 0) C dL_law_522 (by decide) ?_
        refine aw_lald (N := 1) C dL_law_523 (sA_83 shOK_B) (by unfold vp_in; decide) ?_
        refine aw_iload C dL_law_524 rfl ?_
        refine aw_i2l C dL_law_526 ?_
        refine aw_lcmpE C dL_law_527 dL_law_528 533 (by decide) hw (fun hc527 hw => ?_) (fun hc527 hw => ?_)
        · refine aw_goto (tgt := 1631) C dL_law_533 (by decide) ?_
          exact aw_msk [true, true, true, true, true, false, false] (hendB _ G29 _ _ (by omega) (by omega) hw)
        · exact hw.elim
    · exact hw.elim
  refine sw_if hw (fun ha39_5 hw => ?_) (fun ha39_5 hw => ?_)
  · refine aw_tab C 536 dL_law_39 ha39_5 (by decide) (by decide) rfl (by decide) ?_
    refine aw_aloadn C dL_law_536 rfl ?_
    refine aw_aloadnR C dL_law_537 rfl ?_
    refine aw_iload C dL_law_538 rfl ?_
    refine aw_iconst (v := 1) C dL_law_540 (by decide) ?_
    refine aw_iadd C dL_law_541 ?_
    refine aw_sld C dL_law_542 hX hbl hbA hv1 hx1 ?_
    refine aw_aloadnR C dL_law_543 rfl ?_
    refine aw_iload C dL_law_544 rfl ?_
    refine aw_iconst (v := 2) C dL_law_546 (by decide) ?_
    refine aw_iadd C dL_law_547 ?_
    refine aw_sld C dL_law_548 hX hbl hbA hv2 hx2 ?_
    refine aw_aloadn C dL_law_549 rfl ?_
    refine aw_callW (na := 4) C dL_law_550 (t_L_write_B hlf x1 x2 _ _ hw) mM_L_114 mW_write mT_write mI_L (by decide +kernel) rfl ⟨Nat.le_of_ble_eq_true rfl, Nat.le_of_ble_eq_true rfl, by show _ ≤ 601024; omega, by show _ ≤ 7293034; omega⟩ [] rfl (Nat.le_of_ble_eq_true rfl) ⟨by decide, by decide, by decide, trivial⟩ trivial (fun r550 ad550 s1 G32 hE550 hq => ?_)
    obtain ⟨v31, rfl, rfl, hw⟩ := hq
    refine aw_istore C dL_law_553 (by decide) rfl ?_
    refine aw_aloadn C dL_law_555 rfl ?_
    refine aw_aloadnR C dL_law_556 rfl ?_
    refine aw_iload C dL_law_557 rfl ?_
    refine aw_iconst (v := 1) C dL_law_559 (by decide) ?_
    refine aw_iadd C dL_law_560 ?_
    refine aw_sld C dL_law_561 hX hbl hbA hv1 hx1 ?_
    refine aw_aloadnR C dL_law_562 rfl ?_
    refine aw_iload C dL_law_563 rfl ?_
    refine aw_iconst (v := 2) C dL_law_565 (by decide) ?_
    refine aw_iadd C dL_law_566 ?_
    refine aw_sld C dL_law_567 hX hbl hbA hv2 hx2 ?_
    refine aw_callV C dL_law_568 (t_X11_write shOK_B  x1 x2 _ _ hw) mM_L_116 bX11_write (sA_46 shOK_B) rfl rfl ⟨Nat.le_of_ble_eq_true rfl, Nat.le_of_ble_eq_true rfl, by show _ ≤ 601024; omega, by show _ ≤ 7293034; omega⟩ _ rfl (Nat.le_of_ble_eq_true rfl) (fun r568 G33 hq => ?_)
    obtain ⟨v34, rfl, hw⟩ := hq
    refine aw_istore C dL_law_571 (by decide) rfl ?_
    refine aw_aloadn C dL_law_573 rfl ?_
    refine aw_callV C dL_law_574 (t_X11_thrown shOK_B  _ _ hw) mM_L_97 bX11_thrown (sA_46 shOK_B) rfl rfl ⟨Nat.le_of_ble_eq_true rfl, Nat.le_of_ble_eq_true rfl, by show _ ≤ 601024; omega, by show _ ≤ 7293034; omega⟩ _ rfl (Nat.le_of_ble_eq_true rfl) (fun r574 G35 hq => ?_)
    obtain ⟨v36, rfl, hw⟩ := hq
    refine aw_iload C dL_law_577 rfl ?_
    refine aw_ic_eq C dL_law_579 584 (by decide) hw (fun hc579 hw => ?_) (fun hc579 hw => ?_)
    · refine aw_iload C dL_law_584 rfl ?_
      refine aw_if_ne C dL_law_586 601 (by decide) hw (fun hc586 hw => ?_) (fun hc586 hw => ?_)
      · refine aw_goto (tgt := 1631) C dL_law_601 (by decide) ?_
        exact aw_msk [true, true, true, true, true, false, false] (hendB _ G35 _ _ (by omega) (by omega) hw)
      · refine aw_aloadn C dL_law_589 rfl ?_
        refine aw_iconst (v := 0) C dL_law_590 (by decide) ?_
        refine aw_lald (N := 1) C dL_law_591 (sA_83 shOK_B) (by unfold vp_in; decide) ?_
        refine aw_iload C dL_law_592 rfl ?_
        refine aw_i2l C dL_law_594 ?_
        refine aw_lcmpE C dL_law_595 dL_law_596 601 (by decide) hw (fun hc595 hw => ?_) (fun hc595 hw => ?_)
        · refine aw_goto (tgt := 1631) C dL_law_601 (by decide) ?_
          exact aw_msk [true, true, true, true, true, false, false] (hendB _ G35 _ _ (by omega) (by omega) hw)
        · exact hw.elim
    · exact hw.elim
  refine sw_if hw (fun ha39_6 hw => ?_) (fun ha39_6 hw => ?_)
  · refine aw_tab C 604 dL_law_39 ha39_6 (by decide) (by decide) rfl (by decide) ?_
    refine aw_aloadn C dL_law_604 rfl ?_
    refine aw_aloadnR C dL_law_605 rfl ?_
    refine aw_iload C dL_law_606 rfl ?_
    refine aw_iconst (v := 1) C dL_law_608 (by decide) ?_
    refine aw_iadd C dL_law_609 ?_
    refine aw_sld C dL_law_610 hX hbl hbA hv1 hx1 ?_
    refine aw_aloadn C dL_law_611 rfl ?_
    refine aw_callW (na := 3) C dL_law_612 (t_L_run_B hlf x1 _ _ hw) mM_L_117 mW_run mT_run mI_L (by decide +kernel) rfl ⟨Nat.le_of_ble_eq_true rfl, Nat.le_of_ble_eq_true rfl, by show _ ≤ 601024; omega, by show _ ≤ 7293034; omega⟩ [] rfl (Nat.le_of_ble_eq_true rfl) ⟨by decide, by decide, by decide, trivial⟩ trivial (fun r612 ad612 s1 G38 hE612 hq => ?_)
    obtain ⟨v37, rfl, rfl, hw⟩ := hq
    refine aw_istore C dL_law_615 (by decide) rfl ?_
    refine aw_aloadn C dL_law_617 rfl ?_
    refine aw_aloadnR C dL_law_618 rfl ?_
    refine aw_iload C dL_law_619 rfl ?_
    refine aw_iconst (v := 1) C dL_law_621 (by decide) ?_
    refine aw_iadd C dL_law_622 ?_
    refine aw_sld C dL_law_623 hX hbl hbA hv1 hx1 ?_
    refine aw_callV C dL_law_624 (t_X11_run shOK_B  x1 _ _ hw) mM_L_119 bX11_run (sA_46 shOK_B) rfl rfl ⟨Nat.le_of_ble_eq_true rfl, Nat.le_of_ble_eq_true rfl, by show _ ≤ 601024; omega, by show _ ≤ 7293034; omega⟩ _ rfl (Nat.le_of_ble_eq_true rfl) (fun r624 G39 hq => ?_)
    obtain ⟨v40, rfl, hw⟩ := hq
    refine aw_istore C dL_law_627 (by decide) rfl ?_
    refine aw_aloadn C dL_law_629 rfl ?_
    refine aw_callV C dL_law_630 (t_X11_thrown shOK_B  _ _ hw) mM_L_97 bX11_thrown (sA_46 shOK_B) rfl rfl ⟨Nat.le_of_ble_eq_true rfl, Nat.le_of_ble_eq_true rfl, by show _ ≤ 601024; omega, by show _ ≤ 7293034; omega⟩ _ rfl (Nat.le_of_ble_eq_true rfl) (fun r630 G41 hq => ?_)
    obtain ⟨v42, rfl, hw⟩ := hq
    refine aw_iload C dL_law_633 rfl ?_
    refine aw_ic_eq C dL_law_635 640 (by decide) hw (fun hc635 hw => ?_) (fun hc635 hw => ?_)
    · refine aw_iload C dL_law_640 rfl ?_
      refine aw_if_ne C dL_law_642 657 (by decide) hw (fun hc642 hw => ?_) (fun hc642 hw => ?_)
      · refine aw_goto (tgt := 1631) C dL_law_657 (by decide) ?_
        exact aw_msk [true, true, true, true, true, false, false] (hendB _ G41 _ _ (by omega) (by omega) hw)
      · refine aw_aloadn C dL_law_645 rfl ?_
        refine aw_iconst (v := 0) C dL_law_646 (by decide) ?_
        refine aw_lald (N := 1) C dL_law_647 (sA_83 shOK_B) (by unfold vp_in; decide) ?_
        refine aw_iload C dL_law_648 rfl ?_
        refine aw_i2l C dL_law_650 ?_
        refine aw_lcmpE C dL_law_651 dL_law_652 657 (by decide) hw (fun hc651 hw => ?_) (fun hc651 hw => ?_)
        · refine aw_goto (tgt := 1631) C dL_law_657 (by decide) ?_
          exact aw_msk [true, true, true, true, true, false, false] (hendB _ G41 _ _ (by omega) (by omega) hw)
        · exact hw.elim
    · exact hw.elim
  refine sw_if hw (fun ha39_7 hw => ?_) (fun ha39_7 hw => ?_)
  · refine aw_tab C 660 dL_law_39 ha39_7 (by decide) (by decide) rfl (by decide) ?_
    refine aw_aloadn C dL_law_660 rfl ?_
    refine aw_aloadnR C dL_law_661 rfl ?_
    refine aw_iload C dL_law_662 rfl ?_
    refine aw_iconst (v := 1) C dL_law_664 (by decide) ?_
    refine aw_iadd C dL_law_665 ?_
    refine aw_sld C dL_law_666 hX hbl hbA hv1 hx1 ?_
    refine aw_aloadn C dL_law_667 rfl ?_
    refine aw_callW (na := 3) C dL_law_668 (t_L_tried_B hlf x1 _ _ hw) mM_L_120 mW_tried mT_tried mI_L (by decide +kernel) rfl ⟨Nat.le_of_ble_eq_true rfl, Nat.le_of_ble_eq_true rfl, by show _ ≤ 601024; omega, by show _ ≤ 7293034; omega⟩ [] rfl (Nat.le_of_ble_eq_true rfl) ⟨by decide, by decide, by decide, trivial⟩ trivial (fun r668 ad668 s1 G44 hE668 hq => ?_)
    obtain ⟨v43, rfl, rfl, hw⟩ := hq
    refine aw_istore C dL_law_671 (by decide) rfl ?_
    refine aw_aloadn C dL_law_673 rfl ?_
    refine aw_aloadnR C dL_law_674 rfl ?_
    refine aw_iload C dL_law_675 rfl ?_
    refine aw_iconst (v := 1) C dL_law_677 (by decide) ?_
    refine aw_iadd C dL_law_678 ?_
    refine aw_sld C dL_law_679 hX hbl hbA hv1 hx1 ?_
    refine aw_callV C dL_law_680 (t_X11_tried shOK_B  x1 _ _ hw) mM_L_122 bX11_tried (sA_46 shOK_B) rfl rfl ⟨Nat.le_of_ble_eq_true rfl, Nat.le_of_ble_eq_true rfl, by show _ ≤ 601024; omega, by show _ ≤ 7293034; omega⟩ _ rfl (Nat.le_of_ble_eq_true rfl) (fun r680 G45 hq => ?_)
    obtain ⟨v46, rfl, hw⟩ := hq
    refine aw_istore C dL_law_683 (by decide) rfl ?_
    refine aw_aloadn C dL_law_685 rfl ?_
    refine aw_callV C dL_law_686 (t_X11_thrown shOK_B  _ _ hw) mM_L_97 bX11_thrown (sA_46 shOK_B) rfl rfl ⟨Nat.le_of_ble_eq_true rfl, Nat.le_of_ble_eq_true rfl, by show _ ≤ 601024; omega, by show _ ≤ 7293034; omega⟩ _ rfl (Nat.le_of_ble_eq_true rfl) (fun r686 G47 hq => ?_)
    obtain ⟨v48, rfl, hw⟩ := hq
    refine aw_iload C dL_law_689 rfl ?_
    refine aw_ic_eq C dL_law_691 696 (by decide) hw (fun hc691 hw => ?_) (fun hc691 hw => ?_)
    · refine aw_iload C dL_law_696 rfl ?_
      refine aw_if_ne C dL_law_698 713 (by decide) hw (fun hc698 hw => ?_) (fun hc698 hw => ?_)
      · refine aw_goto (tgt := 1631) C dL_law_713 (by decide) ?_
        exact aw_msk [true, true, true, true, true, false, false] (hendB _ G47 _ _ (by omega) (by omega) hw)
      · refine aw_aloadn C dL_law_701 rfl ?_
        refine aw_iconst (v := 0) C dL_law_702 (by decide) ?_
        refine aw_lald (N := 1) C dL_law_703 (sA_83 shOK_B) (by unfold vp_in; decide) ?_
        refine aw_iload C dL_law_704 rfl ?_
        refine aw_i2l C dL_law_706 ?_
        refine aw_lcmpE C dL_law_707 dL_law_708 713 (by decide) hw (fun hc707 hw => ?_) (fun hc707 hw => ?_)
        · refine aw_goto (tgt := 1631) C dL_law_713 (by decide) ?_
          exact aw_msk [true, true, true, true, true, false, false] (hendB _ G47 _ _ (by omega) (by omega) hw)
        · exact hw.elim
    · exact hw.elim
  refine sw_if hw (fun ha39_8 hw => ?_) (fun ha39_8 hw => ?_)
  · refine aw_tab C 716 dL_law_39 ha39_8 (by decide) (by decide) rfl (by decide) ?_
    refine aw_aloadn C dL_law_716 rfl ?_
    refine aw_aloadnR C dL_law_717 rfl ?_
    refine aw_iload C dL_law_718 rfl ?_
    refine aw_iconst (v := 1) C dL_law_720 (by decide) ?_
    refine aw_iadd C dL_law_721 ?_
    refine aw_sld C dL_law_722 hX hbl hbA hv1 hx1 ?_
    refine aw_aloadn C dL_law_723 rfl ?_
    refine aw_callW (na := 3) C dL_law_724 (t_L_triedSteps_B hlf x1 _ _ hw) mM_L_123 mW_triedSteps mT_triedSteps mI_L (by decide +kernel) rfl ⟨Nat.le_of_ble_eq_true rfl, Nat.le_of_ble_eq_true rfl, by show _ ≤ 601024; omega, by show _ ≤ 7293034; omega⟩ [] rfl (Nat.le_of_ble_eq_true rfl) ⟨by decide, by decide, by decide, trivial⟩ trivial (fun r724 ad724 s1 G50 hE724 hq => ?_)
    obtain ⟨v49, rfl, rfl, hw⟩ := hq
    refine aw_istore C dL_law_727 (by decide) rfl ?_
    refine aw_aloadn C dL_law_729 rfl ?_
    refine aw_aloadnR C dL_law_730 rfl ?_
    refine aw_iload C dL_law_731 rfl ?_
    refine aw_iconst (v := 1) C dL_law_733 (by decide) ?_
    refine aw_iadd C dL_law_734 ?_
    refine aw_sld C dL_law_735 hX hbl hbA hv1 hx1 ?_
    refine aw_callV C dL_law_736 (t_X11_triedSteps shOK_B  x1 _ _ hw) mM_L_125 bX11_triedSteps (sA_46 shOK_B) rfl rfl ⟨Nat.le_of_ble_eq_true rfl, Nat.le_of_ble_eq_true rfl, by show _ ≤ 601024; omega, by show _ ≤ 7293034; omega⟩ _ rfl (Nat.le_of_ble_eq_true rfl) (fun r736 G51 hq => ?_)
    obtain ⟨v52, rfl, hw⟩ := hq
    refine aw_istore C dL_law_739 (by decide) rfl ?_
    refine aw_aloadn C dL_law_741 rfl ?_
    refine aw_callV C dL_law_742 (t_X11_thrown shOK_B  _ _ hw) mM_L_97 bX11_thrown (sA_46 shOK_B) rfl rfl ⟨Nat.le_of_ble_eq_true rfl, Nat.le_of_ble_eq_true rfl, by show _ ≤ 601024; omega, by show _ ≤ 7293034; omega⟩ _ rfl (Nat.le_of_ble_eq_true rfl) (fun r742 G53 hq => ?_)
    obtain ⟨v54, rfl, hw⟩ := hq
    refine aw_iload C dL_law_745 rfl ?_
    refine aw_ic_eq C dL_law_747 752 (by decide) hw (fun hc747 hw => ?_) (fun hc747 hw => ?_)
    · refine aw_iload C dL_law_752 rfl ?_
      refine aw_if_ne C dL_law_754 769 (by decide) hw (fun hc754 hw => ?_) (fun hc754 hw => ?_)
      · refine aw_goto (tgt := 1631) C dL_law_769 (by decide) ?_
        exact aw_msk [true, true, true, true, true, false, false] (hendB _ G53 _ _ (by omega) (by omega) hw)
      · refine aw_aloadn C dL_law_757 rfl ?_
        refine aw_iconst (v := 0) C dL_law_758 (by decide) ?_
        refine aw_lald (N := 1) C dL_law_759 (sA_83 shOK_B) (by unfold vp_in; decide) ?_
        refine aw_iload C dL_law_760 rfl ?_
        refine aw_i2l C dL_law_762 ?_
        refine aw_lcmpE C dL_law_763 dL_law_764 769 (by decide) hw (fun hc763 hw => ?_) (fun hc763 hw => ?_)
        · refine aw_goto (tgt := 1631) C dL_law_769 (by decide) ?_
          exact aw_msk [true, true, true, true, true, false, false] (hendB _ G53 _ _ (by omega) (by omega) hw)
        · exact hw.elim
    · exact hw.elim
  refine sw_if hw (fun ha39_9 hw => ?_) (fun ha39_9 hw => ?_)
  · refine aw_tab C 772 dL_law_39 ha39_9 (by decide) (by decide) rfl (by decide) ?_
    refine aw_aloadn C dL_law_772 rfl ?_
    refine aw_aloadnR C dL_law_773 rfl ?_
    refine aw_iload C dL_law_774 rfl ?_
    refine aw_iconst (v := 1) C dL_law_776 (by decide) ?_
    refine aw_iadd C dL_law_777 ?_
    refine aw_sld C dL_law_778 hX hbl hbA hv1 hx1 ?_
    refine aw_callW (na := 2) C dL_law_779 (t_L_start_B hlf x1 _ _ hw) mM_L_126 mW_start mT_start mI_L (by decide +kernel) rfl ⟨Nat.le_of_ble_eq_true rfl, Nat.le_of_ble_eq_true rfl, by show _ ≤ 601024; omega, by show _ ≤ 7293034; omega⟩ [] rfl (Nat.le_of_ble_eq_true rfl) ⟨by decide, by decide, by decide, trivial⟩ trivial (fun r779 ad779 s1 G56 hE779 hq => ?_)
    obtain ⟨v55, rfl, rfl, hw⟩ := hq
    refine aw_istore C dL_law_782 (by decide) rfl ?_
    refine aw_aloadn C dL_law_784 rfl ?_
    refine aw_aloadnR C dL_law_785 rfl ?_
    refine aw_iload C dL_law_786 rfl ?_
    refine aw_iconst (v := 1) C dL_law_788 (by decide) ?_
    refine aw_iadd C dL_law_789 ?_
    refine aw_sld C dL_law_790 hX hbl hbA hv1 hx1 ?_
    refine aw_callV C dL_law_791 (t_X11_start shOK_B  x1 _ _ hw) mM_L_129 bX11_start (sA_46 shOK_B) rfl rfl ⟨Nat.le_of_ble_eq_true rfl, Nat.le_of_ble_eq_true rfl, by show _ ≤ 601024; omega, by show _ ≤ 7293034; omega⟩ _ rfl (Nat.le_of_ble_eq_true rfl) (fun r791 G57 hq => ?_)
    obtain ⟨rfl, hw⟩ := hq
    refine aw_aloadn C dL_law_794 rfl ?_
    refine aw_callV C dL_law_795 (t_X11_thrown shOK_B  _ _ hw) mM_L_97 bX11_thrown (sA_46 shOK_B) rfl rfl ⟨Nat.le_of_ble_eq_true rfl, Nat.le_of_ble_eq_true rfl, by show _ ≤ 601024; omega, by show _ ≤ 7293034; omega⟩ _ rfl (Nat.le_of_ble_eq_true rfl) (fun r795 G58 hq => ?_)
    obtain ⟨v59, rfl, hw⟩ := hq
    refine aw_iload C dL_law_798 rfl ?_
    refine aw_ic_eq C dL_law_800 805 (by decide) hw (fun hc800 hw => ?_) (fun hc800 hw => ?_)
    · refine aw_goto (tgt := 1631) C dL_law_805 (by decide) ?_
      exact aw_msk [true, true, true, true, true, false, false] (hendB _ G58 _ _ (by omega) (by omega) hw)
    · exact hw.elim
  refine sw_if hw (fun ha39_10 hw => ?_) (fun ha39_10 hw => ?_)
  · refine aw_tab C 808 dL_law_39 ha39_10 (by decide) (by decide) rfl (by decide) ?_
    refine aw_aloadn C dL_law_808 rfl ?_
    refine aw_aloadnR C dL_law_809 rfl ?_
    refine aw_iload C dL_law_810 rfl ?_
    refine aw_iconst (v := 1) C dL_law_812 (by decide) ?_
    refine aw_iadd C dL_law_813 ?_
    refine aw_sld C dL_law_814 hX hbl hbA hv1 hx1 ?_
    refine aw_aloadn C dL_law_815 rfl ?_
    refine aw_callW (na := 3) C dL_law_816 (t_L_step_B hlf x1 _ _ hw) mM_L_130 mW_step mT_step mI_L (by decide +kernel) rfl ⟨Nat.le_of_ble_eq_true rfl, Nat.le_of_ble_eq_true rfl, by show _ ≤ 601024; omega, by show _ ≤ 7293034; omega⟩ [] rfl (Nat.le_of_ble_eq_true rfl) ⟨by decide, by decide, by decide, trivial⟩ trivial (fun r816 ad816 s1 G61 hE816 hq => ?_)
    obtain ⟨v60, rfl, rfl, hw⟩ := hq
    refine aw_istore C dL_law_819 (by decide) rfl ?_
    refine aw_aloadn C dL_law_821 rfl ?_
    refine aw_aloadnR C dL_law_822 rfl ?_
    refine aw_iload C dL_law_823 rfl ?_
    refine aw_iconst (v := 1) C dL_law_825 (by decide) ?_
    refine aw_iadd C dL_law_826 ?_
    refine aw_sld C dL_law_827 hX hbl hbA hv1 hx1 ?_
    refine aw_callV C dL_law_828 (t_X11_step shOK_B  x1 _ _ hw) mM_L_132 bX11_step (sA_46 shOK_B) rfl rfl ⟨Nat.le_of_ble_eq_true rfl, Nat.le_of_ble_eq_true rfl, by show _ ≤ 601024; omega, by show _ ≤ 7293034; omega⟩ _ rfl (Nat.le_of_ble_eq_true rfl) (fun r828 G62 hq => ?_)
    obtain ⟨v63, rfl, hw⟩ := hq
    refine aw_istore C dL_law_831 (by decide) rfl ?_
    refine aw_aloadn C dL_law_833 rfl ?_
    refine aw_callV C dL_law_834 (t_X11_thrown shOK_B  _ _ hw) mM_L_97 bX11_thrown (sA_46 shOK_B) rfl rfl ⟨Nat.le_of_ble_eq_true rfl, Nat.le_of_ble_eq_true rfl, by show _ ≤ 601024; omega, by show _ ≤ 7293034; omega⟩ _ rfl (Nat.le_of_ble_eq_true rfl) (fun r834 G64 hq => ?_)
    obtain ⟨v65, rfl, hw⟩ := hq
    refine aw_iload C dL_law_837 rfl ?_
    refine aw_ic_eq C dL_law_839 844 (by decide) hw (fun hc839 hw => ?_) (fun hc839 hw => ?_)
    · refine aw_iload C dL_law_844 rfl ?_
      refine aw_if_ne C dL_law_846 861 (by decide) hw (fun hc846 hw => ?_) (fun hc846 hw => ?_)
      · refine aw_goto (tgt := 1631) C dL_law_861 (by decide) ?_
        exact aw_msk [true, true, true, true, true, false, false] (hendB _ G64 _ _ (by omega) (by omega) hw)
      · refine aw_aloadn C dL_law_849 rfl ?_
        refine aw_iconst (v := 0) C dL_law_850 (by decide) ?_
        refine aw_lald (N := 1) C dL_law_851 (sA_83 shOK_B) (by unfold vp_in; decide) ?_
        refine aw_iload C dL_law_852 rfl ?_
        refine aw_i2l C dL_law_854 ?_
        refine aw_lcmpE C dL_law_855 dL_law_856 861 (by decide) hw (fun hc855 hw => ?_) (fun hc855 hw => ?_)
        · refine aw_goto (tgt := 1631) C dL_law_861 (by decide) ?_
          exact aw_msk [true, true, true, true, true, false, false] (hendB _ G64 _ _ (by omega) (by omega) hw)
        · exact hw.elim
    · exact hw.elim
  refine sw_if hw (fun ha39_11 hw => ?_) (fun ha39_11 hw => ?_)
  · refine aw_tab C 864 dL_law_39 ha39_11 (by decide) (by decide) rfl (by decide) ?_
    refine aw_aloadn C dL_law_864 rfl ?_
    refine aw_aloadn C dL_law_865 rfl ?_
    refine aw_callW (na := 2) C dL_law_866 (t_L_giveUp_B hlf _ _ hw) mM_L_133 mW_giveUp mT_giveUp mI_L (by decide +kernel) rfl ⟨Nat.le_of_ble_eq_true rfl, Nat.le_of_ble_eq_true rfl, by show _ ≤ 601024; omega, by show _ ≤ 7293034; omega⟩ [] rfl (Nat.le_of_ble_eq_true rfl) ⟨by decide, by decide, by decide, trivial⟩ trivial (fun r866 ad866 s1 G67 hE866 hq => ?_)
    obtain ⟨v66, rfl, rfl, hw⟩ := hq
    refine aw_istore C dL_law_869 (by decide) rfl ?_
    refine aw_aloadn C dL_law_871 rfl ?_
    refine aw_callV C dL_law_872 (t_X11_giveUp shOK_B  _ _ hw) mM_L_136 bX11_giveUp (sA_46 shOK_B) rfl rfl ⟨Nat.le_of_ble_eq_true rfl, Nat.le_of_ble_eq_true rfl, by show _ ≤ 601024; omega, by show _ ≤ 7293034; omega⟩ _ rfl (Nat.le_of_ble_eq_true rfl) (fun r872 G68 hq => ?_)
    obtain ⟨v69, rfl, hw⟩ := hq
    refine aw_istore C dL_law_875 (by decide) rfl ?_
    refine aw_aloadn C dL_law_877 rfl ?_
    refine aw_callV C dL_law_878 (t_X11_thrown shOK_B  _ _ hw) mM_L_97 bX11_thrown (sA_46 shOK_B) rfl rfl ⟨Nat.le_of_ble_eq_true rfl, Nat.le_of_ble_eq_true rfl, by show _ ≤ 601024; omega, by show _ ≤ 7293034; omega⟩ _ rfl (Nat.le_of_ble_eq_true rfl) (fun r878 G70 hq => ?_)
    obtain ⟨v71, rfl, hw⟩ := hq
    refine aw_iload C dL_law_881 rfl ?_
    refine aw_ic_eq C dL_law_883 888 (by decide) hw (fun hc883 hw => ?_) (fun hc883 hw => ?_)
    · refine aw_iload C dL_law_888 rfl ?_
      refine aw_if_ne C dL_law_890 905 (by decide) hw (fun hc890 hw => ?_) (fun hc890 hw => ?_)
      · refine aw_goto (tgt := 1631) C dL_law_905 (by decide) ?_
        exact aw_msk [true, true, true, true, true, false, false] (hendB _ G70 _ _ (by omega) (by omega) hw)
      · refine aw_aloadn C dL_law_893 rfl ?_
        refine aw_iconst (v := 0) C dL_law_894 (by decide) ?_
        refine aw_lald (N := 1) C dL_law_895 (sA_83 shOK_B) (by unfold vp_in; decide) ?_
        refine aw_iload C dL_law_896 rfl ?_
        refine aw_i2l C dL_law_898 ?_
        refine aw_lcmpE C dL_law_899 dL_law_900 905 (by decide) hw (fun hc899 hw => ?_) (fun hc899 hw => ?_)
        · refine aw_goto (tgt := 1631) C dL_law_905 (by decide) ?_
          exact aw_msk [true, true, true, true, true, false, false] (hendB _ G70 _ _ (by omega) (by omega) hw)
        · exact hw.elim
    · exact hw.elim
  refine sw_if hw (fun ha39_12 hw => ?_) (fun ha39_12 hw => ?_)
  · refine aw_tab C 908 dL_law_39 ha39_12 (by decide) (by decide) rfl (by decide) ?_
    refine aw_aloadn C dL_law_908 rfl ?_
    refine aw_aloadnR C dL_law_909 rfl ?_
    refine aw_iload C dL_law_910 rfl ?_
    refine aw_iconst (v := 1) C dL_law_912 (by decide) ?_
    refine aw_iadd C dL_law_913 ?_
    refine aw_sld C dL_law_914 hX hbl hbA hv1 hx1 ?_
    refine aw_aloadnR C dL_law_915 rfl ?_
    refine aw_iload C dL_law_916 rfl ?_
    refine aw_iconst (v := 2) C dL_law_918 (by decide) ?_
    refine aw_iadd C dL_law_919 ?_
    refine aw_sld C dL_law_920 hX hbl hbA hv2 hx2 ?_
    refine aw_if_eq C dL_law_921 928 (by decide) hw (fun hc921 hw => ?_) (fun hc921 hw => ?_)
    · refine aw_iconst (v := 0) C dL_law_928 (by decide) ?_
      refine aw_aloadn C dL_law_929 rfl ?_
      refine aw_callW (na := 4) C dL_law_930 (t_L_breakAt_B hlf x1 0 _ _ hw) mM_L_137 mW_breakAt mT_breakAt mI_L (by decide +kernel) rfl ⟨Nat.le_of_ble_eq_true rfl, Nat.le_of_ble_eq_true rfl, by show _ ≤ 601024; omega, by show _ ≤ 7293034; omega⟩ [] rfl (Nat.le_of_ble_eq_true rfl) ⟨by decide, by decide, by decide, trivial⟩ trivial (fun r930 ad930 s1 G73 hE930 hq => ?_)
      obtain ⟨v72, rfl, rfl, hw⟩ := hq
      refine aw_istore C dL_law_933 (by decide) rfl ?_
      refine aw_aloadn C dL_law_935 rfl ?_
      refine aw_aloadnR C dL_law_936 rfl ?_
      refine aw_iload C dL_law_937 rfl ?_
      refine aw_iconst (v := 1) C dL_law_939 (by decide) ?_
      refine aw_iadd C dL_law_940 ?_
      refine aw_sld C dL_law_941 hX hbl hbA hv1 hx1 ?_
      refine aw_aloadnR C dL_law_942 rfl ?_
      refine aw_iload C dL_law_943 rfl ?_
      refine aw_iconst (v := 2) C dL_law_945 (by decide) ?_
      refine aw_iadd C dL_law_946 ?_
      refine aw_sld C dL_law_947 hX hbl hbA hv2 hx2 ?_
      refine aw_if_eq C dL_law_948 955 (by decide) hw (fun hc948 hw => ?_) (fun hc948 hw => ?_)
      · refine aw_iconst (v := 0) C dL_law_955 (by decide) ?_
        refine aw_callV C dL_law_956 (t_X11_breakAt shOK_B  x1 0 _ _ hw) mM_L_140 bX11_breakAt (sA_46 shOK_B) rfl rfl ⟨Nat.le_of_ble_eq_true rfl, Nat.le_of_ble_eq_true rfl, by show _ ≤ 601024; omega, by show _ ≤ 7293034; omega⟩ _ rfl (Nat.le_of_ble_eq_true rfl) (fun r956 G74 hq => ?_)
        obtain ⟨v75, rfl, hw⟩ := hq
        refine aw_istore C dL_law_959 (by decide) rfl ?_
        refine aw_aloadn C dL_law_961 rfl ?_
        refine aw_callV C dL_law_962 (t_X11_thrown shOK_B  _ _ hw) mM_L_97 bX11_thrown (sA_46 shOK_B) rfl rfl ⟨Nat.le_of_ble_eq_true rfl, Nat.le_of_ble_eq_true rfl, by show _ ≤ 601024; omega, by show _ ≤ 7293034; omega⟩ _ rfl (Nat.le_of_ble_eq_true rfl) (fun r962 G76 hq => ?_)
        obtain ⟨v77, rfl, hw⟩ := hq
        refine aw_iload C dL_law_965 rfl ?_
        refine aw_ic_eq C dL_law_967 972 (by decide) hw (fun hc967 hw => ?_) (fun hc967 hw => ?_)
        · refine aw_iload C dL_law_972 rfl ?_
          refine aw_if_ne C dL_law_974 996 (by decide) hw (fun hc974 hw => ?_) (fun hc974 hw => ?_)
          · refine aw_goto (tgt := 1631) C dL_law_996 (by decide) ?_
            exact aw_msk [true, true, true, true, true, false, false] (hendB _ G76 _ _ (by omega) (by omega) hw)
          · refine aw_aloadn C dL_law_977 rfl ?_
            refine aw_iconst (v := 0) C dL_law_978 (by decide) ?_
            refine aw_lald (N := 1) C dL_law_979 (sA_83 shOK_B) (by unfold vp_in; decide) ?_
            refine aw_iload C dL_law_980 rfl ?_
            refine aw_if_eq C dL_law_982 989 (by decide) hw (fun hc982 hw => ?_) (fun hc982 hw => ?_)
            · refine aw_lconst (v := (0 : Int32).toInt64) C dL_law_989 (by decide) ?_
              refine aw_lcmpE C dL_law_990 dL_law_991 996 (by decide) hw (fun hc990 hw => ?_) (fun hc990 hw => ?_)
              · refine aw_goto (tgt := 1631) C dL_law_996 (by decide) ?_
                exact aw_msk [true, true, true, true, true, false, false] (hendB _ G76 _ _ (by omega) (by omega) hw)
              · exact hw.elim
            · refine aw_lconst (v := (1 : Int32).toInt64) C dL_law_985 (by decide) ?_
              refine aw_goto (tgt := 990) C dL_law_986 (by decide) ?_
              refine aw_lcmpE C dL_law_990 dL_law_991 996 (by decide) hw (fun hc990 hw => ?_) (fun hc990 hw => ?_)
              · refine aw_goto (tgt := 1631) C dL_law_996 (by decide) ?_
                exact aw_msk [true, true, true, true, true, false, false] (hendB _ G76 _ _ (by omega) (by omega) hw)
              · exact hw.elim
        · exact hw.elim
      · refine aw_iconst (v := 1) C dL_law_951 (by decide) ?_
        refine aw_goto (tgt := 956) C dL_law_952 (by decide) ?_
        refine aw_callV C dL_law_956 (t_X11_breakAt shOK_B  x1 1 _ _ hw) mM_L_140 bX11_breakAt (sA_46 shOK_B) rfl rfl ⟨Nat.le_of_ble_eq_true rfl, Nat.le_of_ble_eq_true rfl, by show _ ≤ 601024; omega, by show _ ≤ 7293034; omega⟩ _ rfl (Nat.le_of_ble_eq_true rfl) (fun r956 G78 hq => ?_)
        obtain ⟨v79, rfl, hw⟩ := hq
        refine aw_istore C dL_law_959 (by decide) rfl ?_
        refine aw_aloadn C dL_law_961 rfl ?_
        refine aw_callV C dL_law_962 (t_X11_thrown shOK_B  _ _ hw) mM_L_97 bX11_thrown (sA_46 shOK_B) rfl rfl ⟨Nat.le_of_ble_eq_true rfl, Nat.le_of_ble_eq_true rfl, by show _ ≤ 601024; omega, by show _ ≤ 7293034; omega⟩ _ rfl (Nat.le_of_ble_eq_true rfl) (fun r962 G80 hq => ?_)
        obtain ⟨v81, rfl, hw⟩ := hq
        refine aw_iload C dL_law_965 rfl ?_
        refine aw_ic_eq C dL_law_967 972 (by decide) hw (fun hc967 hw => ?_) (fun hc967 hw => ?_)
        · refine aw_iload C dL_law_972 rfl ?_
          refine aw_if_ne C dL_law_974 996 (by decide) hw (fun hc974 hw => ?_) (fun hc974 hw => ?_)
          · refine aw_goto (tgt := 1631) C dL_law_996 (by decide) ?_
            exact aw_msk [true, true, true, true, true, false, false] (hendB _ G80 _ _ (by omega) (by omega) hw)
          · refine aw_aloadn C dL_law_977 rfl ?_
            refine aw_iconst (v := 0) C dL_law_978 (by decide) ?_
            refine aw_lald (N := 1) C dL_law_979 (sA_83 shOK_B) (by unfold vp_in; decide) ?_
            refine aw_iload C dL_law_980 rfl ?_
            refine aw_if_eq C dL_law_982 989 (by decide) hw (fun hc982 hw => ?_) (fun hc982 hw => ?_)
            · refine aw_lconst (v := (0 : Int32).toInt64) C dL_law_989 (by decide) ?_
              refine aw_lcmpE C dL_law_990 dL_law_991 996 (by decide) hw (fun hc990 hw => ?_) (fun hc990 hw => ?_)
              · refine aw_goto (tgt := 1631) C dL_law_996 (by decide) ?_
                exact aw_msk [true, true, true, true, true, false, false] (hendB _ G80 _ _ (by omega) (by omega) hw)
              · exact hw.elim
            · refine aw_lconst (v := (1 : Int32).toInt64) C dL_law_985 (by decide) ?_
              refine aw_goto (tgt := 990) C dL_law_986 (by decide) ?_
              refine aw_lcmpE C dL_law_990 dL_law_991 996 (by decide) hw (fun hc990 hw => ?_) (fun hc990 hw => ?_)
              · refine aw_goto (tgt := 1631) C dL_law_996 (by decide) ?_
                exact aw_msk [true, true, true, true, true, false, false] (hendB _ G80 _ _ (by omega) (by omega) hw)
              · exact hw.elim
        · exact hw.elim
    · refine aw_iconst (v := 1) C dL_law_924 (by decide) ?_
      refine aw_goto (tgt := 929) C dL_law_925 (by decide) ?_
      refine aw_aloadn C dL_law_929 rfl ?_
      refine aw_callW (na := 4) C dL_law_930 (t_L_breakAt_B hlf x1 1 _ _ hw) mM_L_137 mW_breakAt mT_breakAt mI_L (by decide +kernel) rfl ⟨Nat.le_of_ble_eq_true rfl, Nat.le_of_ble_eq_true rfl, by show _ ≤ 601024; omega, by show _ ≤ 7293034; omega⟩ [] rfl (Nat.le_of_ble_eq_true rfl) ⟨by decide, by decide, by decide, trivial⟩ trivial (fun r930 ad930 s1 G83 hE930 hq => ?_)
      obtain ⟨v82, rfl, rfl, hw⟩ := hq
      refine aw_istore C dL_law_933 (by decide) rfl ?_
      refine aw_aloadn C dL_law_935 rfl ?_
      refine aw_aloadnR C dL_law_936 rfl ?_
      refine aw_iload C dL_law_937 rfl ?_
      refine aw_iconst (v := 1) C dL_law_939 (by decide) ?_
      refine aw_iadd C dL_law_940 ?_
      refine aw_sld C dL_law_941 hX hbl hbA hv1 hx1 ?_
      refine aw_aloadnR C dL_law_942 rfl ?_
      refine aw_iload C dL_law_943 rfl ?_
      refine aw_iconst (v := 2) C dL_law_945 (by decide) ?_
      refine aw_iadd C dL_law_946 ?_
      refine aw_sld C dL_law_947 hX hbl hbA hv2 hx2 ?_
      refine aw_if_eq C dL_law_948 955 (by decide) hw (fun hc948 hw => ?_) (fun hc948 hw => ?_)
      · refine aw_iconst (v := 0) C dL_law_955 (by decide) ?_
        refine aw_callV C dL_law_956 (t_X11_breakAt shOK_B  x1 0 _ _ hw) mM_L_140 bX11_breakAt (sA_46 shOK_B) rfl rfl ⟨Nat.le_of_ble_eq_true rfl, Nat.le_of_ble_eq_true rfl, by show _ ≤ 601024; omega, by show _ ≤ 7293034; omega⟩ _ rfl (Nat.le_of_ble_eq_true rfl) (fun r956 G84 hq => ?_)
        obtain ⟨v85, rfl, hw⟩ := hq
        refine aw_istore C dL_law_959 (by decide) rfl ?_
        refine aw_aloadn C dL_law_961 rfl ?_
        refine aw_callV C dL_law_962 (t_X11_thrown shOK_B  _ _ hw) mM_L_97 bX11_thrown (sA_46 shOK_B) rfl rfl ⟨Nat.le_of_ble_eq_true rfl, Nat.le_of_ble_eq_true rfl, by show _ ≤ 601024; omega, by show _ ≤ 7293034; omega⟩ _ rfl (Nat.le_of_ble_eq_true rfl) (fun r962 G86 hq => ?_)
        obtain ⟨v87, rfl, hw⟩ := hq
        refine aw_iload C dL_law_965 rfl ?_
        refine aw_ic_eq C dL_law_967 972 (by decide) hw (fun hc967 hw => ?_) (fun hc967 hw => ?_)
        · refine aw_iload C dL_law_972 rfl ?_
          refine aw_if_ne C dL_law_974 996 (by decide) hw (fun hc974 hw => ?_) (fun hc974 hw => ?_)
          · refine aw_goto (tgt := 1631) C dL_law_996 (by decide) ?_
            exact aw_msk [true, true, true, true, true, false, false] (hendB _ G86 _ _ (by omega) (by omega) hw)
          · refine aw_aloadn C dL_law_977 rfl ?_
            refine aw_iconst (v := 0) C dL_law_978 (by decide) ?_
            refine aw_lald (N := 1) C dL_law_979 (sA_83 shOK_B) (by unfold vp_in; decide) ?_
            refine aw_iload C dL_law_980 rfl ?_
            refine aw_if_eq C dL_law_982 989 (by decide) hw (fun hc982 hw => ?_) (fun hc982 hw => ?_)
            · refine aw_lconst (v := (0 : Int32).toInt64) C dL_law_989 (by decide) ?_
              refine aw_lcmpE C dL_law_990 dL_law_991 996 (by decide) hw (fun hc990 hw => ?_) (fun hc990 hw => ?_)
              · refine aw_goto (tgt := 1631) C dL_law_996 (by decide) ?_
                exact aw_msk [true, true, true, true, true, false, false] (hendB _ G86 _ _ (by omega) (by omega) hw)
              · exact hw.elim
            · refine aw_lconst (v := (1 : Int32).toInt64) C dL_law_985 (by decide) ?_
              refine aw_goto (tgt := 990) C dL_law_986 (by decide) ?_
              refine aw_lcmpE C dL_law_990 dL_law_991 996 (by decide) hw (fun hc990 hw => ?_) (fun hc990 hw => ?_)
              · refine aw_goto (tgt := 1631) C dL_law_996 (by decide) ?_
                exact aw_msk [true, true, true, true, true, false, false] (hendB _ G86 _ _ (by omega) (by omega) hw)
              · exact hw.elim
        · exact hw.elim
      · refine aw_iconst (v := 1) C dL_law_951 (by decide) ?_
        refine aw_goto (tgt := 956) C dL_law_952 (by decide) ?_
        refine aw_callV C dL_law_956 (t_X11_breakAt shOK_B  x1 1 _ _ hw) mM_L_140 bX11_breakAt (sA_46 shOK_B) rfl rfl ⟨Nat.le_of_ble_eq_true rfl, Nat.le_of_ble_eq_true rfl, by show _ ≤ 601024; omega, by show _ ≤ 7293034; omega⟩ _ rfl (Nat.le_of_ble_eq_true rfl) (fun r956 G88 hq => ?_)
        obtain ⟨v89, rfl, hw⟩ := hq
        refine aw_istore C dL_law_959 (by decide) rfl ?_
        refine aw_aloadn C dL_law_961 rfl ?_
        refine aw_callV C dL_law_962 (t_X11_thrown shOK_B  _ _ hw) mM_L_97 bX11_thrown (sA_46 shOK_B) rfl rfl ⟨Nat.le_of_ble_eq_true rfl, Nat.le_of_ble_eq_true rfl, by show _ ≤ 601024; omega, by show _ ≤ 7293034; omega⟩ _ rfl (Nat.le_of_ble_eq_true rfl) (fun r962 G90 hq => ?_)
        obtain ⟨v91, rfl, hw⟩ := hq
        refine aw_iload C dL_law_965 rfl ?_
        refine aw_ic_eq C dL_law_967 972 (by decide) hw (fun hc967 hw => ?_) (fun hc967 hw => ?_)
        · refine aw_iload C dL_law_972 rfl ?_
          refine aw_if_ne C dL_law_974 996 (by decide) hw (fun hc974 hw => ?_) (fun hc974 hw => ?_)
          · refine aw_goto (tgt := 1631) C dL_law_996 (by decide) ?_
            exact aw_msk [true, true, true, true, true, false, false] (hendB _ G90 _ _ (by omega) (by omega) hw)
          · refine aw_aloadn C dL_law_977 rfl ?_
            refine aw_iconst (v := 0) C dL_law_978 (by decide) ?_
            refine aw_lald (N := 1) C dL_law_979 (sA_83 shOK_B) (by unfold vp_in; decide) ?_
            refine aw_iload C dL_law_980 rfl ?_
            refine aw_if_eq C dL_law_982 989 (by decide) hw (fun hc982 hw => ?_) (fun hc982 hw => ?_)
            · refine aw_lconst (v := (0 : Int32).toInt64) C dL_law_989 (by decide) ?_
              refine aw_lcmpE C dL_law_990 dL_law_991 996 (by decide) hw (fun hc990 hw => ?_) (fun hc990 hw => ?_)
              · refine aw_goto (tgt := 1631) C dL_law_996 (by decide) ?_
                exact aw_msk [true, true, true, true, true, false, false] (hendB _ G90 _ _ (by omega) (by omega) hw)
              · exact hw.elim
            · refine aw_lconst (v := (1 : Int32).toInt64) C dL_law_985 (by decide) ?_
              refine aw_goto (tgt := 990) C dL_law_986 (by decide) ?_
              refine aw_lcmpE C dL_law_990 dL_law_991 996 (by decide) hw (fun hc990 hw => ?_) (fun hc990 hw => ?_)
              · refine aw_goto (tgt := 1631) C dL_law_996 (by decide) ?_
                exact aw_msk [true, true, true, true, true, false, false] (hendB _ G90 _ _ (by omega) (by omega) hw)
              · exact hw.elim
        · exact hw.elim
  refine sw_if hw (fun ha39_13 hw => ?_) (fun ha39_13 hw => ?_)
  · refine aw_tab C 999 dL_law_39 ha39_13 (by decide) (by decide) rfl (by decide) ?_
    refine aw_aloadn C dL_law_999 rfl ?_
    refine aw_callV C dL_law_1000 (t_X10_next_B  _ _ hw) mM_L_141 bX10_next shB_0 rfl rfl ⟨Nat.le_of_ble_eq_true rfl, Nat.le_of_ble_eq_true rfl, by show _ ≤ 601024; omega, by show _ ≤ 7293034; omega⟩ _ rfl (Nat.le_of_ble_eq_true rfl) (fun r1000 G92 hq => ?_)
    obtain ⟨v93, rfl, hw⟩ := hq
    refine aw_aloadn C dL_law_1003 rfl ?_
    refine aw_callV C dL_law_1004 (t_X11_next shOK_B  _ _ hw) mM_L_144 bX11_next (sA_46 shOK_B) rfl rfl ⟨Nat.le_of_ble_eq_true rfl, Nat.le_of_ble_eq_true rfl, by show _ ≤ 601024; omega, by show _ ≤ 7293034; omega⟩ _ rfl (Nat.le_of_ble_eq_true rfl) (fun r1004 G94 hq => ?_)
    obtain ⟨v95, rfl, hw⟩ := hq
    refine aw_ic_eq C dL_law_1007 1631 (by decide) hw (fun hc1007 hw => ?_) (fun hc1007 hw => ?_)
    · exact aw_msk [true, true, true, true, true, false, false] (hendB _ G94 _ _ (by omega) (by omega) hw)
    · exact hw.elim
  refine sw_if hw (fun ha39_14 hw => ?_) (fun ha39_14 hw => ?_)
  · refine aw_tab C 1012 dL_law_39 ha39_14 (by decide) (by decide) rfl (by decide) ?_
    refine aw_aloadn C dL_law_1012 rfl ?_
    refine aw_aloadnR C dL_law_1013 rfl ?_
    refine aw_iload C dL_law_1014 rfl ?_
    refine aw_iconst (v := 1) C dL_law_1016 (by decide) ?_
    refine aw_iadd C dL_law_1017 ?_
    refine aw_sld C dL_law_1018 hX hbl hbA hv1 hx1 ?_
    refine aw_aloadn C dL_law_1019 rfl ?_
    refine aw_callW (na := 3) C dL_law_1020 (t_L_look_B hlf x1 _ _ hw) mM_L_145 mW_look mT_look mI_L (by decide +kernel) rfl ⟨Nat.le_of_ble_eq_true rfl, Nat.le_of_ble_eq_true rfl, by show _ ≤ 601024; omega, by show _ ≤ 7293034; omega⟩ [] rfl (Nat.le_of_ble_eq_true rfl) ⟨by decide, by decide, by decide, trivial⟩ trivial (fun r1020 ad1020 s1 G97 hE1020 hq => ?_)
    obtain ⟨v96, rfl, rfl, hw⟩ := hq
    refine aw_istore C dL_law_1023 (by decide) rfl ?_
    refine aw_aloadn C dL_law_1025 rfl ?_
    refine aw_aloadnR C dL_law_1026 rfl ?_
    refine aw_iload C dL_law_1027 rfl ?_
    refine aw_iconst (v := 1) C dL_law_1029 (by decide) ?_
    refine aw_iadd C dL_law_1030 ?_
    refine aw_sld C dL_law_1031 hX hbl hbA hv1 hx1 ?_
    refine aw_callV C dL_law_1032 (t_X11_look shOK_B  x1 _ _ hw) mM_L_147 bX11_look (sA_46 shOK_B) rfl rfl ⟨Nat.le_of_ble_eq_true rfl, Nat.le_of_ble_eq_true rfl, by show _ ≤ 601024; omega, by show _ ≤ 7293034; omega⟩ _ rfl (Nat.le_of_ble_eq_true rfl) (fun r1032 G98 hq => ?_)
    obtain ⟨v99, rfl, hw⟩ := hq
    refine aw_istore C dL_law_1035 (by decide) rfl ?_
    refine aw_aloadn C dL_law_1037 rfl ?_
    refine aw_callV C dL_law_1038 (t_X11_thrown shOK_B  _ _ hw) mM_L_97 bX11_thrown (sA_46 shOK_B) rfl rfl ⟨Nat.le_of_ble_eq_true rfl, Nat.le_of_ble_eq_true rfl, by show _ ≤ 601024; omega, by show _ ≤ 7293034; omega⟩ _ rfl (Nat.le_of_ble_eq_true rfl) (fun r1038 G100 hq => ?_)
    obtain ⟨v101, rfl, hw⟩ := hq
    refine aw_iload C dL_law_1041 rfl ?_
    refine aw_ic_eq C dL_law_1043 1048 (by decide) hw (fun hc1043 hw => ?_) (fun hc1043 hw => ?_)
    · refine aw_iload C dL_law_1048 rfl ?_
      refine aw_if_ne C dL_law_1050 1065 (by decide) hw (fun hc1050 hw => ?_) (fun hc1050 hw => ?_)
      · refine aw_goto (tgt := 1631) C dL_law_1065 (by decide) ?_
        exact aw_msk [true, true, true, true, true, false, false] (hendB _ G100 _ _ (by omega) (by omega) hw)
      · refine aw_aloadn C dL_law_1053 rfl ?_
        refine aw_iconst (v := 0) C dL_law_1054 (by decide) ?_
        refine aw_lald (N := 1) C dL_law_1055 (sA_83 shOK_B) (by unfold vp_in; decide) ?_
        refine aw_iload C dL_law_1056 rfl ?_
        refine aw_i2l C dL_law_1058 ?_
        refine aw_lcmpE C dL_law_1059 dL_law_1060 1065 (by decide) hw (fun hc1059 hw => ?_) (fun hc1059 hw => ?_)
        · refine aw_goto (tgt := 1631) C dL_law_1065 (by decide) ?_
          exact aw_msk [true, true, true, true, true, false, false] (hendB _ G100 _ _ (by omega) (by omega) hw)
        · exact hw.elim
    · exact hw.elim
  refine sw_if hw (fun ha39_15 hw => ?_) (fun ha39_15 hw => ?_)
  · refine aw_tab C 1068 dL_law_39 ha39_15 (by decide) (by decide) rfl (by decide) ?_
    refine aw_aloadn C dL_law_1068 rfl ?_
    refine aw_callV C dL_law_1069 (t_X10_active_B  _ _ hw) mM_L_148 bX10_active shB_0 rfl rfl ⟨Nat.le_of_ble_eq_true rfl, Nat.le_of_ble_eq_true rfl, by show _ ≤ 601024; omega, by show _ ≤ 7293034; omega⟩ _ rfl (Nat.le_of_ble_eq_true rfl) (fun r1069 G102 hq => ?_)
    obtain ⟨v103, rfl, hw⟩ := hq
    refine aw_aloadn C dL_law_1072 rfl ?_
    refine aw_callV C dL_law_1073 (t_X11_active shOK_B  _ _ hw) mM_L_151 bX11_active (sA_46 shOK_B) rfl rfl ⟨Nat.le_of_ble_eq_true rfl, Nat.le_of_ble_eq_true rfl, by show _ ≤ 601024; omega, by show _ ≤ 7293034; omega⟩ _ rfl (Nat.le_of_ble_eq_true rfl) (fun r1073 G104 hq => ?_)
    obtain ⟨v105, rfl, hw⟩ := hq
    refine aw_ic_eq C dL_law_1076 1631 (by decide) hw (fun hc1076 hw => ?_) (fun hc1076 hw => ?_)
    · exact aw_msk [true, true, true, true, true, false, false] (hendB _ G104 _ _ (by omega) (by omega) hw)
    · exact hw.elim
  refine sw_if hw (fun ha39_16 hw => ?_) (fun ha39_16 hw => ?_)
  · refine aw_tab C 1081 dL_law_39 ha39_16 (by decide) (by decide) rfl (by decide) ?_
    refine aw_aloadn C dL_law_1081 rfl ?_
    refine aw_callV C dL_law_1082 (t_X10_outcome_B  _ _ hw) mM_L_152 bX10_outcome shB_0 rfl rfl ⟨Nat.le_of_ble_eq_true rfl, Nat.le_of_ble_eq_true rfl, by show _ ≤ 601024; omega, by show _ ≤ 7293034; omega⟩ _ rfl (Nat.le_of_ble_eq_true rfl) (fun r1082 G106 hq => ?_)
    obtain ⟨v107, rfl, hw⟩ := hq
    refine aw_aloadn C dL_law_1085 rfl ?_
    refine aw_callV C dL_law_1086 (t_X11_outcome shOK_B  _ _ hw) mM_L_155 bX11_outcome (sA_46 shOK_B) rfl rfl ⟨Nat.le_of_ble_eq_true rfl, Nat.le_of_ble_eq_true rfl, by show _ ≤ 601024; omega, by show _ ≤ 7293034; omega⟩ _ rfl (Nat.le_of_ble_eq_true rfl) (fun r1086 G108 hq => ?_)
    obtain ⟨v109, rfl, hw⟩ := hq
    refine aw_ic_eq C dL_law_1089 1631 (by decide) hw (fun hc1089 hw => ?_) (fun hc1089 hw => ?_)
    · exact aw_msk [true, true, true, true, true, false, false] (hendB _ G108 _ _ (by omega) (by omega) hw)
    · exact hw.elim
  refine sw_if hw (fun ha39_17 hw => ?_) (fun ha39_17 hw => ?_)
  · refine aw_tab C 1094 dL_law_39 ha39_17 (by decide) (by decide) rfl (by decide) ?_
    refine aw_aloadn C dL_law_1094 rfl ?_
    refine aw_callV C dL_law_1095 (t_X10_steps_B  _ _ hw) mM_L_156 bX10_steps shB_0 rfl rfl ⟨Nat.le_of_ble_eq_true rfl, Nat.le_of_ble_eq_true rfl, by show _ ≤ 601024; omega, by show _ ≤ 7293034; omega⟩ _ rfl (Nat.le_of_ble_eq_true rfl) (fun r1095 G110 hq => ?_)
    obtain ⟨v111, rfl, hw⟩ := hq
    refine aw_aloadn C dL_law_1098 rfl ?_
    refine aw_callV C dL_law_1099 (t_X11_steps shOK_B  _ _ hw) mM_L_159 bX11_steps (sA_46 shOK_B) rfl rfl ⟨Nat.le_of_ble_eq_true rfl, Nat.le_of_ble_eq_true rfl, by show _ ≤ 601024; omega, by show _ ≤ 7293034; omega⟩ _ rfl (Nat.le_of_ble_eq_true rfl) (fun r1099 G112 hq => ?_)
    obtain ⟨v113, rfl, hw⟩ := hq
    refine aw_ic_eq C dL_law_1102 1631 (by decide) hw (fun hc1102 hw => ?_) (fun hc1102 hw => ?_)
    · exact aw_msk [true, true, true, true, true, false, false] (hendB _ G112 _ _ (by omega) (by omega) hw)
    · exact hw.elim
  refine sw_if hw (fun ha39_18 hw => ?_) (fun ha39_18 hw => ?_)
  · refine aw_tab C 1107 dL_law_39 ha39_18 (by decide) (by decide) rfl (by decide) ?_
    refine aw_aloadn C dL_law_1107 rfl ?_
    refine aw_callV C dL_law_1108 (t_X10_cause_B  _ _ hw) mM_L_160 bX10_cause shB_0 rfl rfl ⟨Nat.le_of_ble_eq_true rfl, Nat.le_of_ble_eq_true rfl, by show _ ≤ 601024; omega, by show _ ≤ 7293034; omega⟩ _ rfl (Nat.le_of_ble_eq_true rfl) (fun r1108 G114 hq => ?_)
    obtain ⟨v115, rfl, hw⟩ := hq
    refine aw_aloadn C dL_law_1111 rfl ?_
    refine aw_callV C dL_law_1112 (t_X11_cause shOK_B  _ _ hw) mM_L_163 bX11_cause (sA_46 shOK_B) rfl rfl ⟨Nat.le_of_ble_eq_true rfl, Nat.le_of_ble_eq_true rfl, by show _ ≤ 601024; omega, by show _ ≤ 7293034; omega⟩ _ rfl (Nat.le_of_ble_eq_true rfl) (fun r1112 G116 hq => ?_)
    obtain ⟨v117, rfl, hw⟩ := hq
    refine aw_ic_eq C dL_law_1115 1631 (by decide) hw (fun hc1115 hw => ?_) (fun hc1115 hw => ?_)
    · exact aw_msk [true, true, true, true, true, false, false] (hendB _ G116 _ _ (by omega) (by omega) hw)
    · exact hw.elim
  refine sw_if hw (fun ha39_19 hw => ?_) (fun ha39_19 hw => ?_)
  · refine aw_tab C 1120 dL_law_39 ha39_19 (by decide) (by decide) rfl (by decide) ?_
    refine aw_aloadn C dL_law_1120 rfl ?_
    refine aw_callV C dL_law_1121 (t_X10_traced_B  _ _ hw) mM_L_164 bX10_traced shB_0 rfl rfl ⟨Nat.le_of_ble_eq_true rfl, Nat.le_of_ble_eq_true rfl, by show _ ≤ 601024; omega, by show _ ≤ 7293034; omega⟩ _ rfl (Nat.le_of_ble_eq_true rfl) (fun r1121 G118 hq => ?_)
    obtain ⟨v119, rfl, hw⟩ := hq
    refine aw_aloadn C dL_law_1124 rfl ?_
    refine aw_callV C dL_law_1125 (t_X11_traced shOK_B  _ _ hw) mM_L_167 bX11_traced (sA_46 shOK_B) rfl rfl ⟨Nat.le_of_ble_eq_true rfl, Nat.le_of_ble_eq_true rfl, by show _ ≤ 601024; omega, by show _ ≤ 7293034; omega⟩ _ rfl (Nat.le_of_ble_eq_true rfl) (fun r1125 G120 hq => ?_)
    obtain ⟨v121, rfl, hw⟩ := hq
    refine aw_ic_eq C dL_law_1128 1631 (by decide) hw (fun hc1128 hw => ?_) (fun hc1128 hw => ?_)
    · exact aw_msk [true, true, true, true, true, false, false] (hendB _ G120 _ _ (by omega) (by omega) hw)
    · exact hw.elim
  refine sw_if hw (fun ha39_20 hw => ?_) (fun ha39_20 hw => ?_)
  · refine aw_tab C 1133 dL_law_39 ha39_20 (by decide) (by decide) rfl (by decide) ?_
    refine aw_aloadn C dL_law_1133 rfl ?_
    refine aw_aloadnR C dL_law_1134 rfl ?_
    refine aw_iload C dL_law_1135 rfl ?_
    refine aw_iconst (v := 1) C dL_law_1137 (by decide) ?_
    refine aw_iadd C dL_law_1138 ?_
    refine aw_sld C dL_law_1139 hX hbl hbA hv1 hx1 ?_
    refine aw_aloadn C dL_law_1140 rfl ?_
    refine aw_callW (na := 3) C dL_law_1141 (t_L_traceAt_B hlf x1 _ _ hw) mM_L_168 mW_traceAt mT_traceAt mI_L (by decide +kernel) rfl ⟨Nat.le_of_ble_eq_true rfl, Nat.le_of_ble_eq_true rfl, by show _ ≤ 601024; omega, by show _ ≤ 7293034; omega⟩ [] rfl (Nat.le_of_ble_eq_true rfl) ⟨by decide, by decide, by decide, trivial⟩ trivial (fun r1141 ad1141 s1 G123 hE1141 hq => ?_)
    obtain ⟨v122, rfl, rfl, hw⟩ := hq
    refine aw_istore C dL_law_1144 (by decide) rfl ?_
    refine aw_aloadn C dL_law_1146 rfl ?_
    refine aw_aloadnR C dL_law_1147 rfl ?_
    refine aw_iload C dL_law_1148 rfl ?_
    refine aw_iconst (v := 1) C dL_law_1150 (by decide) ?_
    refine aw_iadd C dL_law_1151 ?_
    refine aw_sld C dL_law_1152 hX hbl hbA hv1 hx1 ?_
    refine aw_callV C dL_law_1153 (t_X11_traceAt shOK_B  x1 _ _ hw) mM_L_170 bX11_traceAt (sA_46 shOK_B) rfl rfl ⟨Nat.le_of_ble_eq_true rfl, Nat.le_of_ble_eq_true rfl, by show _ ≤ 601024; omega, by show _ ≤ 7293034; omega⟩ _ rfl (Nat.le_of_ble_eq_true rfl) (fun r1153 G124 hq => ?_)
    obtain ⟨v125, rfl, hw⟩ := hq
    refine aw_istore C dL_law_1156 (by decide) rfl ?_
    refine aw_aloadn C dL_law_1158 rfl ?_
    refine aw_callV C dL_law_1159 (t_X11_thrown shOK_B  _ _ hw) mM_L_97 bX11_thrown (sA_46 shOK_B) rfl rfl ⟨Nat.le_of_ble_eq_true rfl, Nat.le_of_ble_eq_true rfl, by show _ ≤ 601024; omega, by show _ ≤ 7293034; omega⟩ _ rfl (Nat.le_of_ble_eq_true rfl) (fun r1159 G126 hq => ?_)
    obtain ⟨v127, rfl, hw⟩ := hq
    refine aw_iload C dL_law_1162 rfl ?_
    refine aw_ic_eq C dL_law_1164 1169 (by decide) hw (fun hc1164 hw => ?_) (fun hc1164 hw => ?_)
    · refine aw_iload C dL_law_1169 rfl ?_
      refine aw_if_ne C dL_law_1171 1186 (by decide) hw (fun hc1171 hw => ?_) (fun hc1171 hw => ?_)
      · refine aw_goto (tgt := 1631) C dL_law_1186 (by decide) ?_
        exact aw_msk [true, true, true, true, true, false, false] (hendB _ G126 _ _ (by omega) (by omega) hw)
      · refine aw_aloadn C dL_law_1174 rfl ?_
        refine aw_iconst (v := 0) C dL_law_1175 (by decide) ?_
        refine aw_lald (N := 1) C dL_law_1176 (sA_83 shOK_B) (by unfold vp_in; decide) ?_
        refine aw_iload C dL_law_1177 rfl ?_
        refine aw_i2l C dL_law_1179 ?_
        refine aw_lcmpE C dL_law_1180 dL_law_1181 1186 (by decide) hw (fun hc1180 hw => ?_) (fun hc1180 hw => ?_)
        · refine aw_goto (tgt := 1631) C dL_law_1186 (by decide) ?_
          exact aw_msk [true, true, true, true, true, false, false] (hendB _ G126 _ _ (by omega) (by omega) hw)
        · exact hw.elim
    · exact hw.elim
  refine sw_if hw (fun ha39_21 hw => ?_) (fun ha39_21 hw => ?_)
  · refine aw_tab C 1189 dL_law_39 ha39_21 (by decide) (by decide) rfl (by decide) ?_
    refine aw_aloadn C dL_law_1189 rfl ?_
    refine aw_callV C dL_law_1190 (t_X10_buffer_B  _ _ hw) mM_L_171 bX10_buffer shB_0 rfl rfl ⟨Nat.le_of_ble_eq_true rfl, Nat.le_of_ble_eq_true rfl, by show _ ≤ 601024; omega, by show _ ≤ 7293034; omega⟩ _ rfl (Nat.le_of_ble_eq_true rfl) (fun r1190 G128 hq => ?_)
    obtain ⟨v129, rfl, hw⟩ := hq
    refine aw_aloadn C dL_law_1193 rfl ?_
    refine aw_callV C dL_law_1194 (t_X11_buffer shOK_B  _ _ hw) mM_L_174 bX11_buffer (sA_46 shOK_B) rfl rfl ⟨Nat.le_of_ble_eq_true rfl, Nat.le_of_ble_eq_true rfl, by show _ ≤ 601024; omega, by show _ ≤ 7293034; omega⟩ _ rfl (Nat.le_of_ble_eq_true rfl) (fun r1194 G130 hq => ?_)
    obtain ⟨v131, rfl, hw⟩ := hq
    refine aw_ic_eq C dL_law_1197 1631 (by decide) hw (fun hc1197 hw => ?_) (fun hc1197 hw => ?_)
    · exact aw_msk [true, true, true, true, true, false, false] (hendB _ G130 _ _ (by omega) (by omega) hw)
    · exact hw.elim
  refine sw_if hw (fun ha39_22 hw => ?_) (fun ha39_22 hw => ?_)
  · refine aw_tab C 1202 dL_law_39 ha39_22 (by decide) (by decide) rfl (by decide) ?_
    refine aw_aloadn C dL_law_1202 rfl ?_
    refine aw_aloadnR C dL_law_1203 rfl ?_
    refine aw_iload C dL_law_1204 rfl ?_
    refine aw_iconst (v := 1) C dL_law_1206 (by decide) ?_
    refine aw_iadd C dL_law_1207 ?_
    refine aw_sld C dL_law_1208 hX hbl hbA hv1 hx1 ?_
    refine aw_aloadn C dL_law_1209 rfl ?_
    refine aw_callW (na := 3) C dL_law_1210 (t_L_length_B hlf x1 _ _ hw) mM_L_175 mW_length mT_length mI_L (by decide +kernel) rfl ⟨Nat.le_of_ble_eq_true rfl, Nat.le_of_ble_eq_true rfl, by show _ ≤ 601024; omega, by show _ ≤ 7293034; omega⟩ [] rfl (Nat.le_of_ble_eq_true rfl) ⟨by decide, by decide, by decide, trivial⟩ trivial (fun r1210 ad1210 s1 G133 hE1210 hq => ?_)
    obtain ⟨v132, rfl, rfl, hw⟩ := hq
    refine aw_istore C dL_law_1213 (by decide) rfl ?_
    refine aw_aloadn C dL_law_1215 rfl ?_
    refine aw_aloadnR C dL_law_1216 rfl ?_
    refine aw_iload C dL_law_1217 rfl ?_
    refine aw_iconst (v := 1) C dL_law_1219 (by decide) ?_
    refine aw_iadd C dL_law_1220 ?_
    refine aw_sld C dL_law_1221 hX hbl hbA hv1 hx1 ?_
    refine aw_callV C dL_law_1222 (t_X11_length shOK_B  x1 _ _ hw) mM_L_177 bX11_length (sA_46 shOK_B) rfl rfl ⟨Nat.le_of_ble_eq_true rfl, Nat.le_of_ble_eq_true rfl, by show _ ≤ 601024; omega, by show _ ≤ 7293034; omega⟩ _ rfl (Nat.le_of_ble_eq_true rfl) (fun r1222 G134 hq => ?_)
    obtain ⟨v135, rfl, hw⟩ := hq
    refine aw_istore C dL_law_1225 (by decide) rfl ?_
    refine aw_aloadn C dL_law_1227 rfl ?_
    refine aw_callV C dL_law_1228 (t_X11_thrown shOK_B  _ _ hw) mM_L_97 bX11_thrown (sA_46 shOK_B) rfl rfl ⟨Nat.le_of_ble_eq_true rfl, Nat.le_of_ble_eq_true rfl, by show _ ≤ 601024; omega, by show _ ≤ 7293034; omega⟩ _ rfl (Nat.le_of_ble_eq_true rfl) (fun r1228 G136 hq => ?_)
    obtain ⟨v137, rfl, hw⟩ := hq
    refine aw_iload C dL_law_1231 rfl ?_
    refine aw_ic_eq C dL_law_1233 1238 (by decide) hw (fun hc1233 hw => ?_) (fun hc1233 hw => ?_)
    · refine aw_iload C dL_law_1238 rfl ?_
      refine aw_if_ne C dL_law_1240 1255 (by decide) hw (fun hc1240 hw => ?_) (fun hc1240 hw => ?_)
      · refine aw_goto (tgt := 1631) C dL_law_1255 (by decide) ?_
        exact aw_msk [true, true, true, true, true, false, false] (hendB _ G136 _ _ (by omega) (by omega) hw)
      · refine aw_aloadn C dL_law_1243 rfl ?_
        refine aw_iconst (v := 0) C dL_law_1244 (by decide) ?_
        refine aw_lald (N := 1) C dL_law_1245 (sA_83 shOK_B) (by unfold vp_in; decide) ?_
        refine aw_iload C dL_law_1246 rfl ?_
        refine aw_i2l C dL_law_1248 ?_
        refine aw_lcmpE C dL_law_1249 dL_law_1250 1255 (by decide) hw (fun hc1249 hw => ?_) (fun hc1249 hw => ?_)
        · refine aw_goto (tgt := 1631) C dL_law_1255 (by decide) ?_
          exact aw_msk [true, true, true, true, true, false, false] (hendB _ G136 _ _ (by omega) (by omega) hw)
        · exact hw.elim
    · exact hw.elim
  refine sw_if hw (fun ha39_23 hw => ?_) (fun ha39_23 hw => ?_)
  · refine aw_tab C 1258 dL_law_39 ha39_23 (by decide) (by decide) rfl (by decide) ?_
    refine aw_aloadn C dL_law_1258 rfl ?_
    refine aw_aloadnR C dL_law_1259 rfl ?_
    refine aw_iload C dL_law_1260 rfl ?_
    refine aw_iconst (v := 1) C dL_law_1262 (by decide) ?_
    refine aw_iadd C dL_law_1263 ?_
    refine aw_sld C dL_law_1264 hX hbl hbA hv1 hx1 ?_
    refine aw_aloadnR C dL_law_1265 rfl ?_
    refine aw_iload C dL_law_1266 rfl ?_
    refine aw_iconst (v := 2) C dL_law_1268 (by decide) ?_
    refine aw_iadd C dL_law_1269 ?_
    refine aw_sld C dL_law_1270 hX hbl hbA hv2 hx2 ?_
    refine aw_aloadn C dL_law_1271 rfl ?_
    refine aw_callW (na := 4) C dL_law_1272 (t_L_letter_B hlf x1 x2 _ _ hw) mM_L_178 mW_letter mT_letter mI_L (by decide +kernel) rfl ⟨Nat.le_of_ble_eq_true rfl, Nat.le_of_ble_eq_true rfl, by show _ ≤ 601024; omega, by show _ ≤ 7293034; omega⟩ [] rfl (Nat.le_of_ble_eq_true rfl) ⟨by decide, by decide, by decide, trivial⟩ trivial (fun r1272 ad1272 s1 G139 hE1272 hq => ?_)
    obtain ⟨v138, rfl, rfl, hw⟩ := hq
    refine aw_istore C dL_law_1275 (by decide) rfl ?_
    refine aw_aloadn C dL_law_1277 rfl ?_
    refine aw_aloadnR C dL_law_1278 rfl ?_
    refine aw_iload C dL_law_1279 rfl ?_
    refine aw_iconst (v := 1) C dL_law_1281 (by decide) ?_
    refine aw_iadd C dL_law_1282 ?_
    refine aw_sld C dL_law_1283 hX hbl hbA hv1 hx1 ?_
    refine aw_aloadnR C dL_law_1284 rfl ?_
    refine aw_iload C dL_law_1285 rfl ?_
    refine aw_iconst (v := 2) C dL_law_1287 (by decide) ?_
    refine aw_iadd C dL_law_1288 ?_
    refine aw_sld C dL_law_1289 hX hbl hbA hv2 hx2 ?_
    refine aw_callV C dL_law_1290 (t_X11_letter shOK_B  x1 x2 _ _ hw) mM_L_180 bX11_letter (sA_46 shOK_B) rfl rfl ⟨Nat.le_of_ble_eq_true rfl, Nat.le_of_ble_eq_true rfl, by show _ ≤ 601024; omega, by show _ ≤ 7293034; omega⟩ _ rfl (Nat.le_of_ble_eq_true rfl) (fun r1290 G140 hq => ?_)
    obtain ⟨v141, rfl, hw⟩ := hq
    refine aw_istore C dL_law_1293 (by decide) rfl ?_
    refine aw_aloadn C dL_law_1295 rfl ?_
    refine aw_callV C dL_law_1296 (t_X11_thrown shOK_B  _ _ hw) mM_L_97 bX11_thrown (sA_46 shOK_B) rfl rfl ⟨Nat.le_of_ble_eq_true rfl, Nat.le_of_ble_eq_true rfl, by show _ ≤ 601024; omega, by show _ ≤ 7293034; omega⟩ _ rfl (Nat.le_of_ble_eq_true rfl) (fun r1296 G142 hq => ?_)
    obtain ⟨v143, rfl, hw⟩ := hq
    refine aw_iload C dL_law_1299 rfl ?_
    refine aw_ic_eq C dL_law_1301 1306 (by decide) hw (fun hc1301 hw => ?_) (fun hc1301 hw => ?_)
    · refine aw_iload C dL_law_1306 rfl ?_
      refine aw_if_ne C dL_law_1308 1323 (by decide) hw (fun hc1308 hw => ?_) (fun hc1308 hw => ?_)
      · refine aw_goto (tgt := 1631) C dL_law_1323 (by decide) ?_
        exact aw_msk [true, true, true, true, true, false, false] (hendB _ G142 _ _ (by omega) (by omega) hw)
      · refine aw_aloadn C dL_law_1311 rfl ?_
        refine aw_iconst (v := 0) C dL_law_1312 (by decide) ?_
        refine aw_lald (N := 1) C dL_law_1313 (sA_83 shOK_B) (by unfold vp_in; decide) ?_
        refine aw_iload C dL_law_1314 rfl ?_
        refine aw_i2l C dL_law_1316 ?_
        refine aw_lcmpE C dL_law_1317 dL_law_1318 1323 (by decide) hw (fun hc1317 hw => ?_) (fun hc1317 hw => ?_)
        · refine aw_goto (tgt := 1631) C dL_law_1323 (by decide) ?_
          exact aw_msk [true, true, true, true, true, false, false] (hendB _ G142 _ _ (by omega) (by omega) hw)
        · exact hw.elim
    · exact hw.elim
  refine sw_if hw (fun ha39_24 hw => ?_) (fun ha39_24 hw => ?_)
  · refine aw_tab C 1326 dL_law_39 ha39_24 (by decide) (by decide) rfl (by decide) ?_
    refine aw_aloadn C dL_law_1326 rfl ?_
    refine aw_aloadnR C dL_law_1327 rfl ?_
    refine aw_iload C dL_law_1328 rfl ?_
    refine aw_iconst (v := 1) C dL_law_1330 (by decide) ?_
    refine aw_iadd C dL_law_1331 ?_
    refine aw_sld C dL_law_1332 hX hbl hbA hv1 hx1 ?_
    refine aw_aloadnR C dL_law_1333 rfl ?_
    refine aw_iload C dL_law_1334 rfl ?_
    refine aw_iconst (v := 2) C dL_law_1336 (by decide) ?_
    refine aw_iadd C dL_law_1337 ?_
    refine aw_sld C dL_law_1338 hX hbl hbA hv2 hx2 ?_
    refine aw_aloadn C dL_law_1339 rfl ?_
    refine aw_callW (na := 4) C dL_law_1340 (t_L_cursor_B hlf x1 x2 _ _ hw) mM_L_181 mW_cursor mT_cursor mI_L (by decide +kernel) rfl ⟨Nat.le_of_ble_eq_true rfl, Nat.le_of_ble_eq_true rfl, by show _ ≤ 601024; omega, by show _ ≤ 7293034; omega⟩ [] rfl (Nat.le_of_ble_eq_true rfl) ⟨by decide, by decide, by decide, trivial⟩ trivial (fun r1340 ad1340 s1 G145 hE1340 hq => ?_)
    obtain ⟨v144, rfl, rfl, hw⟩ := hq
    refine aw_istore C dL_law_1343 (by decide) rfl ?_
    refine aw_aloadn C dL_law_1345 rfl ?_
    refine aw_aloadnR C dL_law_1346 rfl ?_
    refine aw_iload C dL_law_1347 rfl ?_
    refine aw_iconst (v := 1) C dL_law_1349 (by decide) ?_
    refine aw_iadd C dL_law_1350 ?_
    refine aw_sld C dL_law_1351 hX hbl hbA hv1 hx1 ?_
    refine aw_aloadnR C dL_law_1352 rfl ?_
    refine aw_iload C dL_law_1353 rfl ?_
    refine aw_iconst (v := 2) C dL_law_1355 (by decide) ?_
    refine aw_iadd C dL_law_1356 ?_
    refine aw_sld C dL_law_1357 hX hbl hbA hv2 hx2 ?_
    refine aw_callV C dL_law_1358 (t_X11_cursor shOK_B  x1 x2 _ _ hw) mM_L_183 bX11_cursor (sA_46 shOK_B) rfl rfl ⟨Nat.le_of_ble_eq_true rfl, Nat.le_of_ble_eq_true rfl, by show _ ≤ 601024; omega, by show _ ≤ 7293034; omega⟩ _ rfl (Nat.le_of_ble_eq_true rfl) (fun r1358 G146 hq => ?_)
    obtain ⟨v147, rfl, hw⟩ := hq
    refine aw_istore C dL_law_1361 (by decide) rfl ?_
    refine aw_aloadn C dL_law_1363 rfl ?_
    refine aw_callV C dL_law_1364 (t_X11_thrown shOK_B  _ _ hw) mM_L_97 bX11_thrown (sA_46 shOK_B) rfl rfl ⟨Nat.le_of_ble_eq_true rfl, Nat.le_of_ble_eq_true rfl, by show _ ≤ 601024; omega, by show _ ≤ 7293034; omega⟩ _ rfl (Nat.le_of_ble_eq_true rfl) (fun r1364 G148 hq => ?_)
    obtain ⟨v149, rfl, hw⟩ := hq
    refine aw_iload C dL_law_1367 rfl ?_
    refine aw_ic_eq C dL_law_1369 1374 (by decide) hw (fun hc1369 hw => ?_) (fun hc1369 hw => ?_)
    · refine aw_iload C dL_law_1374 rfl ?_
      refine aw_if_ne C dL_law_1376 1391 (by decide) hw (fun hc1376 hw => ?_) (fun hc1376 hw => ?_)
      · refine aw_goto (tgt := 1631) C dL_law_1391 (by decide) ?_
        exact aw_msk [true, true, true, true, true, false, false] (hendB _ G148 _ _ (by omega) (by omega) hw)
      · refine aw_aloadn C dL_law_1379 rfl ?_
        refine aw_iconst (v := 0) C dL_law_1380 (by decide) ?_
        refine aw_lald (N := 1) C dL_law_1381 (sA_83 shOK_B) (by unfold vp_in; decide) ?_
        refine aw_iload C dL_law_1382 rfl ?_
        refine aw_i2l C dL_law_1384 ?_
        refine aw_lcmpE C dL_law_1385 dL_law_1386 1391 (by decide) hw (fun hc1385 hw => ?_) (fun hc1385 hw => ?_)
        · refine aw_goto (tgt := 1631) C dL_law_1391 (by decide) ?_
          exact aw_msk [true, true, true, true, true, false, false] (hendB _ G148 _ _ (by omega) (by omega) hw)
        · exact hw.elim
    · exact hw.elim
  refine sw_if hw (fun ha39_25 hw => ?_) (fun ha39_25 hw => ?_)
  · refine aw_tab C 1394 dL_law_39 ha39_25 (by decide) (by decide) rfl (by decide) ?_
    refine aw_aloadn C dL_law_1394 rfl ?_
    refine aw_aloadnR C dL_law_1395 rfl ?_
    refine aw_iload C dL_law_1396 rfl ?_
    refine aw_iconst (v := 1) C dL_law_1398 (by decide) ?_
    refine aw_iadd C dL_law_1399 ?_
    refine aw_sld C dL_law_1400 hX hbl hbA hv1 hx1 ?_
    refine aw_aloadn C dL_law_1401 rfl ?_
    refine aw_callW (na := 3) C dL_law_1402 (t_L_activeCursor_B hlf x1 _ _ hw) mM_L_184 mW_activeCursor mT_activeCursor mI_L (by decide +kernel) rfl ⟨Nat.le_of_ble_eq_true rfl, Nat.le_of_ble_eq_true rfl, by show _ ≤ 601024; omega, by show _ ≤ 7293034; omega⟩ [] rfl (Nat.le_of_ble_eq_true rfl) ⟨by decide, by decide, by decide, trivial⟩ trivial (fun r1402 ad1402 s1 G151 hE1402 hq => ?_)
    obtain ⟨v150, rfl, rfl, hw⟩ := hq
    refine aw_istore C dL_law_1405 (by decide) rfl ?_
    refine aw_aloadn C dL_law_1407 rfl ?_
    refine aw_aloadnR C dL_law_1408 rfl ?_
    refine aw_iload C dL_law_1409 rfl ?_
    refine aw_iconst (v := 1) C dL_law_1411 (by decide) ?_
    refine aw_iadd C dL_law_1412 ?_
    refine aw_sld C dL_law_1413 hX hbl hbA hv1 hx1 ?_
    refine aw_callV C dL_law_1414 (t_X11_activeCursor shOK_B  x1 _ _ hw) mM_L_186 bX11_activeCursor (sA_46 shOK_B) rfl rfl ⟨Nat.le_of_ble_eq_true rfl, Nat.le_of_ble_eq_true rfl, by show _ ≤ 601024; omega, by show _ ≤ 7293034; omega⟩ _ rfl (Nat.le_of_ble_eq_true rfl) (fun r1414 G152 hq => ?_)
    obtain ⟨v153, rfl, hw⟩ := hq
    refine aw_istore C dL_law_1417 (by decide) rfl ?_
    refine aw_aloadn C dL_law_1419 rfl ?_
    refine aw_callV C dL_law_1420 (t_X11_thrown shOK_B  _ _ hw) mM_L_97 bX11_thrown (sA_46 shOK_B) rfl rfl ⟨Nat.le_of_ble_eq_true rfl, Nat.le_of_ble_eq_true rfl, by show _ ≤ 601024; omega, by show _ ≤ 7293034; omega⟩ _ rfl (Nat.le_of_ble_eq_true rfl) (fun r1420 G154 hq => ?_)
    obtain ⟨v155, rfl, hw⟩ := hq
    refine aw_iload C dL_law_1423 rfl ?_
    refine aw_ic_eq C dL_law_1425 1430 (by decide) hw (fun hc1425 hw => ?_) (fun hc1425 hw => ?_)
    · refine aw_iload C dL_law_1430 rfl ?_
      refine aw_if_ne C dL_law_1432 1447 (by decide) hw (fun hc1432 hw => ?_) (fun hc1432 hw => ?_)
      · refine aw_goto (tgt := 1631) C dL_law_1447 (by decide) ?_
        exact aw_msk [true, true, true, true, true, false, false] (hendB _ G154 _ _ (by omega) (by omega) hw)
      · refine aw_aloadn C dL_law_1435 rfl ?_
        refine aw_iconst (v := 0) C dL_law_1436 (by decide) ?_
        refine aw_lald (N := 1) C dL_law_1437 (sA_83 shOK_B) (by unfold vp_in; decide) ?_
        refine aw_iload C dL_law_1438 rfl ?_
        refine aw_i2l C dL_law_1440 ?_
        refine aw_lcmpE C dL_law_1441 dL_law_1442 1447 (by decide) hw (fun hc1441 hw => ?_) (fun hc1441 hw => ?_)
        · refine aw_goto (tgt := 1631) C dL_law_1447 (by decide) ?_
          exact aw_msk [true, true, true, true, true, false, false] (hendB _ G154 _ _ (by omega) (by omega) hw)
        · exact hw.elim
    · exact hw.elim
  refine sw_if hw (fun ha39_26 hw => ?_) (fun ha39_26 hw => ?_)
  · refine aw_tab C 1450 dL_law_39 ha39_26 (by decide) (by decide) rfl (by decide) ?_
    refine aw_aloadn C dL_law_1450 rfl ?_
    refine aw_aloadnR C dL_law_1451 rfl ?_
    refine aw_iload C dL_law_1452 rfl ?_
    refine aw_iconst (v := 1) C dL_law_1454 (by decide) ?_
    refine aw_iadd C dL_law_1455 ?_
    refine aw_sld C dL_law_1456 hX hbl hbA hv1 hx1 ?_
    refine aw_aloadn C dL_law_1457 rfl ?_
    refine aw_callW (na := 3) C dL_law_1458 (t_L_option_B hlf x1 _ _ hw) mM_L_187 mW_option mT_option mI_L (by decide +kernel) rfl ⟨Nat.le_of_ble_eq_true rfl, Nat.le_of_ble_eq_true rfl, by show _ ≤ 601024; omega, by show _ ≤ 7293034; omega⟩ [] rfl (Nat.le_of_ble_eq_true rfl) ⟨by decide, by decide, by decide, trivial⟩ trivial (fun r1458 ad1458 s1 G157 hE1458 hq => ?_)
    obtain ⟨v156, rfl, rfl, hw⟩ := hq
    refine aw_istore C dL_law_1461 (by decide) rfl ?_
    refine aw_aloadn C dL_law_1463 rfl ?_
    refine aw_aloadnR C dL_law_1464 rfl ?_
    refine aw_iload C dL_law_1465 rfl ?_
    refine aw_iconst (v := 1) C dL_law_1467 (by decide) ?_
    refine aw_iadd C dL_law_1468 ?_
    refine aw_sld C dL_law_1469 hX hbl hbA hv1 hx1 ?_
    refine aw_callV C dL_law_1470 (t_X11_option shOK_B  x1 _ _ hw) mM_L_189 bX11_option (sA_46 shOK_B) rfl rfl ⟨Nat.le_of_ble_eq_true rfl, Nat.le_of_ble_eq_true rfl, by show _ ≤ 601024; omega, by show _ ≤ 7293034; omega⟩ _ rfl (Nat.le_of_ble_eq_true rfl) (fun r1470 G158 hq => ?_)
    obtain ⟨v159, rfl, hw⟩ := hq
    refine aw_istore C dL_law_1473 (by decide) rfl ?_
    refine aw_aloadn C dL_law_1475 rfl ?_
    refine aw_callV C dL_law_1476 (t_X11_thrown shOK_B  _ _ hw) mM_L_97 bX11_thrown (sA_46 shOK_B) rfl rfl ⟨Nat.le_of_ble_eq_true rfl, Nat.le_of_ble_eq_true rfl, by show _ ≤ 601024; omega, by show _ ≤ 7293034; omega⟩ _ rfl (Nat.le_of_ble_eq_true rfl) (fun r1476 G160 hq => ?_)
    obtain ⟨v161, rfl, hw⟩ := hq
    refine aw_iload C dL_law_1479 rfl ?_
    refine aw_ic_eq C dL_law_1481 1486 (by decide) hw (fun hc1481 hw => ?_) (fun hc1481 hw => ?_)
    · refine aw_iload C dL_law_1486 rfl ?_
      refine aw_if_ne C dL_law_1488 1503 (by decide) hw (fun hc1488 hw => ?_) (fun hc1488 hw => ?_)
      · refine aw_goto (tgt := 1631) C dL_law_1503 (by decide) ?_
        exact aw_msk [true, true, true, true, true, false, false] (hendB _ G160 _ _ (by omega) (by omega) hw)
      · refine aw_aloadn C dL_law_1491 rfl ?_
        refine aw_iconst (v := 0) C dL_law_1492 (by decide) ?_
        refine aw_lald (N := 1) C dL_law_1493 (sA_83 shOK_B) (by unfold vp_in; decide) ?_
        refine aw_iload C dL_law_1494 rfl ?_
        refine aw_i2l C dL_law_1496 ?_
        refine aw_lcmpE C dL_law_1497 dL_law_1498 1503 (by decide) hw (fun hc1497 hw => ?_) (fun hc1497 hw => ?_)
        · refine aw_goto (tgt := 1631) C dL_law_1503 (by decide) ?_
          exact aw_msk [true, true, true, true, true, false, false] (hendB _ G160 _ _ (by omega) (by omega) hw)
        · exact hw.elim
    · exact hw.elim
  refine sw_if hw (fun ha39_27 hw => ?_) (fun ha39_27 hw => ?_)
  · refine aw_tab C 1506 dL_law_39 ha39_27 (by decide) (by decide) rfl (by decide) ?_
    refine aw_aloadn C dL_law_1506 rfl ?_
    refine aw_aloadnR C dL_law_1507 rfl ?_
    refine aw_iload C dL_law_1508 rfl ?_
    refine aw_iconst (v := 1) C dL_law_1510 (by decide) ?_
    refine aw_iadd C dL_law_1511 ?_
    refine aw_sld C dL_law_1512 hX hbl hbA hv1 hx1 ?_
    refine aw_aloadn C dL_law_1513 rfl ?_
    refine aw_callW (na := 3) C dL_law_1514 (t_L_register_B hlf x1 _ _ hw) mM_L_190 mW_register mT_register mI_L (by decide +kernel) rfl ⟨Nat.le_of_ble_eq_true rfl, Nat.le_of_ble_eq_true rfl, by show _ ≤ 601024; omega, by show _ ≤ 7293034; omega⟩ [] rfl (Nat.le_of_ble_eq_true rfl) ⟨by decide, by decide, by decide, trivial⟩ trivial (fun r1514 ad1514 s1 G163 hE1514 hq => ?_)
    obtain ⟨v162, rfl, rfl, hw⟩ := hq
    refine aw_istore C dL_law_1517 (by decide) rfl ?_
    refine aw_aloadn C dL_law_1519 rfl ?_
    refine aw_aloadnR C dL_law_1520 rfl ?_
    refine aw_iload C dL_law_1521 rfl ?_
    refine aw_iconst (v := 1) C dL_law_1523 (by decide) ?_
    refine aw_iadd C dL_law_1524 ?_
    refine aw_sld C dL_law_1525 hX hbl hbA hv1 hx1 ?_
    refine aw_callV C dL_law_1526 (t_X11_register shOK_B  x1 _ _ hw) mM_L_192 bX11_register (sA_46 shOK_B) rfl rfl ⟨Nat.le_of_ble_eq_true rfl, Nat.le_of_ble_eq_true rfl, by show _ ≤ 601024; omega, by show _ ≤ 7293034; omega⟩ _ rfl (Nat.le_of_ble_eq_true rfl) (fun r1526 G164 hq => ?_)
    obtain ⟨v165, rfl, hw⟩ := hq
    refine aw_istore C dL_law_1529 (by decide) rfl ?_
    refine aw_aloadn C dL_law_1531 rfl ?_
    refine aw_callV C dL_law_1532 (t_X11_thrown shOK_B  _ _ hw) mM_L_97 bX11_thrown (sA_46 shOK_B) rfl rfl ⟨Nat.le_of_ble_eq_true rfl, Nat.le_of_ble_eq_true rfl, by show _ ≤ 601024; omega, by show _ ≤ 7293034; omega⟩ _ rfl (Nat.le_of_ble_eq_true rfl) (fun r1532 G166 hq => ?_)
    obtain ⟨v167, rfl, hw⟩ := hq
    refine aw_iload C dL_law_1535 rfl ?_
    refine aw_ic_eq C dL_law_1537 1542 (by decide) hw (fun hc1537 hw => ?_) (fun hc1537 hw => ?_)
    · refine aw_iload C dL_law_1542 rfl ?_
      refine aw_if_ne C dL_law_1544 1559 (by decide) hw (fun hc1544 hw => ?_) (fun hc1544 hw => ?_)
      · refine aw_goto (tgt := 1631) C dL_law_1559 (by decide) ?_
        exact aw_msk [true, true, true, true, true, false, false] (hendB _ G166 _ _ (by omega) (by omega) hw)
      · refine aw_aloadn C dL_law_1547 rfl ?_
        refine aw_iconst (v := 0) C dL_law_1548 (by decide) ?_
        refine aw_lald (N := 1) C dL_law_1549 (sA_83 shOK_B) (by unfold vp_in; decide) ?_
        refine aw_iload C dL_law_1550 rfl ?_
        refine aw_i2l C dL_law_1552 ?_
        refine aw_lcmpE C dL_law_1553 dL_law_1554 1559 (by decide) hw (fun hc1553 hw => ?_) (fun hc1553 hw => ?_)
        · refine aw_goto (tgt := 1631) C dL_law_1559 (by decide) ?_
          exact aw_msk [true, true, true, true, true, false, false] (hendB _ G166 _ _ (by omega) (by omega) hw)
        · exact hw.elim
    · exact hw.elim
  refine sw_if hw (fun ha39_28 hw => ?_) (fun ha39_28 hw => ?_)
  · refine aw_tab C 1562 dL_law_39 ha39_28 (by decide) (by decide) rfl (by decide) ?_
    refine aw_aloadn C dL_law_1562 rfl ?_
    refine aw_aloadnR C dL_law_1563 rfl ?_
    refine aw_iload C dL_law_1564 rfl ?_
    refine aw_iconst (v := 1) C dL_law_1566 (by decide) ?_
    refine aw_iadd C dL_law_1567 ?_
    refine aw_sld C dL_law_1568 hX hbl hbA hv1 hx1 ?_
    refine aw_aloadn C dL_law_1569 rfl ?_
    refine aw_callW (na := 3) C dL_law_1570 (t_L_body_B hlf x1 _ _ hw) mM_L_193 mW_body mT_body mI_L (by decide +kernel) rfl ⟨Nat.le_of_ble_eq_true rfl, Nat.le_of_ble_eq_true rfl, by show _ ≤ 601024; omega, by show _ ≤ 7293034; omega⟩ [] rfl (Nat.le_of_ble_eq_true rfl) ⟨by decide, by decide, by decide, trivial⟩ trivial (fun r1570 ad1570 s1 G169 hE1570 hq => ?_)
    obtain ⟨v168, rfl, rfl, hw⟩ := hq
    refine aw_istore C dL_law_1573 (by decide) rfl ?_
    refine aw_aloadn C dL_law_1575 rfl ?_
    refine aw_aloadnR C dL_law_1576 rfl ?_
    refine aw_iload C dL_law_1577 rfl ?_
    refine aw_iconst (v := 1) C dL_law_1579 (by decide) ?_
    refine aw_iadd C dL_law_1580 ?_
    refine aw_sld C dL_law_1581 hX hbl hbA hv1 hx1 ?_
    refine aw_callV C dL_law_1582 (t_X11_body shOK_B  x1 _ _ hw) mM_L_195 bX11_body (sA_46 shOK_B) rfl rfl ⟨Nat.le_of_ble_eq_true rfl, Nat.le_of_ble_eq_true rfl, by show _ ≤ 601024; omega, by show _ ≤ 7293034; omega⟩ _ rfl (Nat.le_of_ble_eq_true rfl) (fun r1582 G170 hq => ?_)
    obtain ⟨v171, rfl, hw⟩ := hq
    refine aw_istore C dL_law_1585 (by decide) rfl ?_
    refine aw_aloadn C dL_law_1587 rfl ?_
    refine aw_callV C dL_law_1588 (t_X11_thrown shOK_B  _ _ hw) mM_L_97 bX11_thrown (sA_46 shOK_B) rfl rfl ⟨Nat.le_of_ble_eq_true rfl, Nat.le_of_ble_eq_true rfl, by show _ ≤ 601024; omega, by show _ ≤ 7293034; omega⟩ _ rfl (Nat.le_of_ble_eq_true rfl) (fun r1588 G172 hq => ?_)
    obtain ⟨v173, rfl, hw⟩ := hq
    refine aw_iload C dL_law_1591 rfl ?_
    refine aw_ic_eq C dL_law_1593 1598 (by decide) hw (fun hc1593 hw => ?_) (fun hc1593 hw => ?_)
    · refine aw_iload C dL_law_1598 rfl ?_
      refine aw_if_ne C dL_law_1600 1615 (by decide) hw (fun hc1600 hw => ?_) (fun hc1600 hw => ?_)
      · refine aw_goto (tgt := 1631) C dL_law_1615 (by decide) ?_
        exact aw_msk [true, true, true, true, true, false, false] (hendB _ G172 _ _ (by omega) (by omega) hw)
      · refine aw_aloadn C dL_law_1603 rfl ?_
        refine aw_iconst (v := 0) C dL_law_1604 (by decide) ?_
        refine aw_lald (N := 1) C dL_law_1605 (sA_83 shOK_B) (by unfold vp_in; decide) ?_
        refine aw_iload C dL_law_1606 rfl ?_
        refine aw_i2l C dL_law_1608 ?_
        refine aw_lcmpE C dL_law_1609 dL_law_1610 1615 (by decide) hw (fun hc1609 hw => ?_) (fun hc1609 hw => ?_)
        · refine aw_goto (tgt := 1631) C dL_law_1615 (by decide) ?_
          exact aw_msk [true, true, true, true, true, false, false] (hendB _ G172 _ _ (by omega) (by omega) hw)
        · exact hw.elim
    · exact hw.elim
  refine sw_if hw (fun ha39_29 hw => ?_) (fun ha39_29 hw => ?_)
  · refine aw_tab C 1618 dL_law_39 ha39_29 (by decide) (by decide) rfl (by decide) ?_
    refine aw_aloadn C dL_law_1618 rfl ?_
    refine aw_callV C dL_law_1619 (t_X10_hook_B  _ _ hw) mM_L_196 bX10_hook shB_0 rfl rfl ⟨Nat.le_of_ble_eq_true rfl, Nat.le_of_ble_eq_true rfl, by show _ ≤ 601024; omega, by show _ ≤ 7293034; omega⟩ _ rfl (Nat.le_of_ble_eq_true rfl) (fun r1619 G174 hq => ?_)
    obtain ⟨v175, rfl, hw⟩ := hq
    refine aw_aloadn C dL_law_1622 rfl ?_
    refine aw_callV C dL_law_1623 (t_X11_hook shOK_B  _ _ hw) mM_L_199 bX11_hook (sA_46 shOK_B) rfl rfl ⟨Nat.le_of_ble_eq_true rfl, Nat.le_of_ble_eq_true rfl, by show _ ≤ 601024; omega, by show _ ≤ 7293034; omega⟩ _ rfl (Nat.le_of_ble_eq_true rfl) (fun r1623 G176 hq => ?_)
    obtain ⟨v177, rfl, hw⟩ := hq
    refine aw_ic_eq C dL_law_1626 1631 (by decide) hw (fun hc1626 hw => ?_) (fun hc1626 hw => ?_)
    · exact aw_msk [true, true, true, true, true, false, false] (hendB _ G176 _ _ (by omega) (by omega) hw)
    · exact hw.elim
  refine aw_tabDef C 1631 dL_law_39 29 (by decide) (by decide) (by decide) (fun i hi h => ?_) (by decide) ?_
  · exact match i, hi, h with
      | 0, _, h => absurd (h.trans (by decide)) ha39_0
      | 1, _, h => absurd (h.trans (by decide)) ha39_1
      | 2, _, h => absurd (h.trans (by decide)) ha39_2
      | 3, _, h => absurd (h.trans (by decide)) ha39_3
      | 4, _, h => absurd (h.trans (by decide)) ha39_4
      | 5, _, h => absurd (h.trans (by decide)) ha39_5
      | 6, _, h => absurd (h.trans (by decide)) ha39_6
      | 7, _, h => absurd (h.trans (by decide)) ha39_7
      | 8, _, h => absurd (h.trans (by decide)) ha39_8
      | 9, _, h => absurd (h.trans (by decide)) ha39_9
      | 10, _, h => absurd (h.trans (by decide)) ha39_10
      | 11, _, h => absurd (h.trans (by decide)) ha39_11
      | 12, _, h => absurd (h.trans (by decide)) ha39_12
      | 13, _, h => absurd (h.trans (by decide)) ha39_13
      | 14, _, h => absurd (h.trans (by decide)) ha39_14
      | 15, _, h => absurd (h.trans (by decide)) ha39_15
      | 16, _, h => absurd (h.trans (by decide)) ha39_16
      | 17, _, h => absurd (h.trans (by decide)) ha39_17
      | 18, _, h => absurd (h.trans (by decide)) ha39_18
      | 19, _, h => absurd (h.trans (by decide)) ha39_19
      | 20, _, h => absurd (h.trans (by decide)) ha39_20
      | 21, _, h => absurd (h.trans (by decide)) ha39_21
      | 22, _, h => absurd (h.trans (by decide)) ha39_22
      | 23, _, h => absurd (h.trans (by decide)) ha39_23
      | 24, _, h => absurd (h.trans (by decide)) ha39_24
      | 25, _, h => absurd (h.trans (by decide)) ha39_25
      | 26, _, h => absurd (h.trans (by decide)) ha39_26
      | 27, _, h => absurd (h.trans (by decide)) ha39_27
      | 28, _, h => absurd (h.trans (by decide)) ha39_28
      | 29, _, h => absurd (h.trans (by decide)) ha39_29
      | i + 30, hi, _ => absurd hi (by omega)
  exact aw_msk [true, true, true, true, true, false, false] (hendB _ G0 _ _ (by omega) (by omega) hw)
