def w_L_makes_A_j371 (K : Sh → Gt → Prop) (G0 : Gt) : Prop :=
  vp_in 0 7 ∧
  w_L_size_A (fun v14 s1 G13 => s1 = shA ∧
    pif (v14 = (-1000001)) (
      w_L_node_A (fun v17 s1 G16 => s1 = shA ∧
        pif (v17 = (-1000002)) (
          vp_in 0 7 ∧
          w_L_node_A (fun v20 s1 G19 => s1 = shA ∧
            pif (v20 = (-1000001)) (
              w_L_node_A (fun v23 s1 G22 => s1 = shA ∧
                pif (v23 = (-1000002)) (
                  K shA G22) (
                  False)) 1 8 (-1) (-1) G19) (
              False)) 4 (G16 47 (0 : Int32).toNatClampNeg) 0 (-1) G16) (
          False)) 40 0 0 0 G13) (
      False)) (G0 47 (0 : Int32).toNatClampNeg) G0
def w_L_makes_A_j352 (K : Sh → Gt → Prop) (x10 : Int32) (x11 : Int32) (x12 : Int32) (y0 : Int32) (y1 : Int32) (G0 : Gt) : Prop :=
  pif (y0 = y1) (
    pif (x11 = 0) (
      w_L_makes_A_j371 K G0) (
      w_L_size_A (fun v26 s1 G25 => s1 = shA ∧
        pif (v26 = x10) (
          w_L_makes_A_j371 K G25) (
          False)) x12 G0)) (
    False)
def w_L_makes_A_j350 (K : Sh → Gt → Prop) (x10 : Int32) (x11 : Int32) (x12 : Int32) (y0 : Int32) (G0 : Gt) : Prop :=
  w_L_makes_A_j352 K x10 x11 x12 y0 (-1000003) G0
def w_L_makes_A_j335 (K : Sh → Gt → Prop) (x10 : Int32) (x11 : Int32) (x12 : Int32) (G0 : Gt) : Prop :=
  pif (x11 = 0) (
    w_L_makes_A_j350 K x10 x11 x12 x12 G0) (
    vp_in 0 7 ∧
    w_L_makes_A_j352 K x10 x11 x12 x12 ((G0 47 (0 : Int32).toNatClampNeg) - 1) G0)
def w_L_makes_A_j300 (K : Sh → Gt → Prop) (x5 : Int32) (x6 : Int32) (x7 : Int32) (x8 : Int32) (x10 : Int32) (y0 : Int32) (G0 : Gt) : Prop :=
  w_L_node_A (fun v11 s1 G10 => s1 = shA ∧
    pif (y0 = 0) (
      w_L_makes_A_j335 K x10 y0 v11 G10) (
      vp_in 0 7 ∧
      vp_in (G10 47 (0 : Int32).toNatClampNeg) 60 ∧
      pt (gu G10 46 ((G10 47 (0 : Int32).toNatClampNeg) : Int32).toNatClampNeg x10) fun G27 =>
      vp_in 0 7 ∧
      vp_in 0 7 ∧
      pt (gu G27 47 (0 : Int32).toNatClampNeg ((G27 47 (0 : Int32).toNatClampNeg) + 1)) fun G28 =>
      w_L_makes_A_j335 K x10 y0 v11 G28)) x5 x6 x7 x8 G0
def w_L_makes_A_j299 (K : Sh → Gt → Prop) (x5 : Int32) (x6 : Int32) (x7 : Int32) (x8 : Int32) (x10 : Int32) (G0 : Gt) : Prop :=
  w_L_makes_A_j300 K x5 x6 x7 x8 x10 0 G0
def w_L_makes_A_j284 (K : Sh → Gt → Prop) (x5 : Int32) (x6 : Int32) (x7 : Int32) (x8 : Int32) (y0 : Int32) (y1 : Int32) (G0 : Gt) : Prop :=
  pif (150 < (y0 + y1)) (
    w_L_makes_A_j299 K x5 x6 x7 x8 (y0 + y1) G0) (
    w_L_makes_A_j300 K x5 x6 x7 x8 (y0 + y1) 1 G0)
def w_L_makes_A_j283 (K : Sh → Gt → Prop) (x5 : Int32) (x6 : Int32) (x7 : Int32) (x8 : Int32) (y0 : Int32) (G0 : Gt) : Prop :=
  w_L_makes_A_j284 K x5 x6 x7 x8 y0 0 G0
def w_L_makes_A_j270 (K : Sh → Gt → Prop) (x5 : Int32) (x6 : Int32) (x7 : Int32) (x8 : Int32) (y0 : Int32) (y1 : Int32) (G0 : Gt) : Prop :=
  pif (x8 < 0) (
    w_L_makes_A_j283 K x5 x6 x7 x8 (y0 + y1) G0) (
    vp_in x8 60 ∧
    w_L_makes_A_j284 K x5 x6 x7 x8 (y0 + y1) (G0 46 (x8 : Int32).toNatClampNeg) G0)
def w_L_makes_A_j269 (K : Sh → Gt → Prop) (x5 : Int32) (x6 : Int32) (x7 : Int32) (x8 : Int32) (y0 : Int32) (G0 : Gt) : Prop :=
  w_L_makes_A_j270 K x5 x6 x7 x8 y0 0 G0
def w_L_makes_A_j249 (K : Sh → Gt → Prop) (x5 : Int32) (x6 : Int32) (x7 : Int32) (x8 : Int32) (y0 : Int32) (y1 : Int32) (G0 : Gt) : Prop :=
  pif (x7 < 0) (
    w_L_makes_A_j269 K x5 x6 x7 x8 (y0 + y1) G0) (
    pif (x5 = 38) (
      w_L_makes_A_j269 K x5 x6 x7 x8 (y0 + y1) G0) (
      vp_in x7 60 ∧
      w_L_makes_A_j270 K x5 x6 x7 x8 (y0 + y1) (G0 46 (x7 : Int32).toNatClampNeg) G0))
def w_L_makes_A_j248 (K : Sh → Gt → Prop) (x5 : Int32) (x6 : Int32) (x7 : Int32) (x8 : Int32) (y0 : Int32) (G0 : Gt) : Prop :=
  w_L_makes_A_j249 K x5 x6 x7 x8 y0 0 G0
def w_L_makes_A_j228 (K : Sh → Gt → Prop) (x5 : Int32) (x6 : Int32) (x7 : Int32) (x8 : Int32) (y0 : Int32) (G0 : Gt) : Prop :=
  pif (y0 = 0) (
    w_L_makes_A_j248 K x5 x6 x7 x8 1 G0) (
    pif (x6 < 0) (
      w_L_makes_A_j248 K x5 x6 x7 x8 1 G0) (
      vp_in x6 60 ∧
      w_L_makes_A_j249 K x5 x6 x7 x8 1 (G0 46 (x6 : Int32).toNatClampNeg) G0))
def w_L_makes_A_j223 (K : Sh → Gt → Prop) (x5 : Int32) (x6 : Int32) (x7 : Int32) (x8 : Int32) (G0 : Gt) : Prop :=
  w_L_makes_A_j228 K x5 x6 x7 x8 1 G0
def w_L_makes_A_j227 (K : Sh → Gt → Prop) (x5 : Int32) (x6 : Int32) (x7 : Int32) (x8 : Int32) (G0 : Gt) : Prop :=
  w_L_makes_A_j228 K x5 x6 x7 x8 0 G0
def w_L_makes_A_j152 (K : Sh → Gt → Prop) (x5 : Int32) (x6 : Int32) (x7 : Int32) (y0 : Int32) (G0 : Gt) : Prop :=
  pif (x5 ≤ 3) (
    pif (x5 = 17) (
      w_L_makes_A_j223 K x5 x6 x7 y0 G0) (
      pif (x5 = 19) (
        w_L_makes_A_j223 K x5 x6 x7 y0 G0) (
        pif (x5 ≤ 20) (
          pif (x5 = 29) (
            w_L_makes_A_j223 K x5 x6 x7 y0 G0) (
            pif (x5 = 31) (
              w_L_makes_A_j223 K x5 x6 x7 y0 G0) (
              pif (x5 ≤ 34) (
                w_L_makes_A_j227 K x5 x6 x7 y0 G0) (
                pif (38 ≤ x5) (
                  w_L_makes_A_j227 K x5 x6 x7 y0 G0) (
                  w_L_makes_A_j223 K x5 x6 x7 y0 G0))))) (
          pif (x5 < 26) (
            w_L_makes_A_j223 K x5 x6 x7 y0 G0) (
            pif (x5 = 29) (
              w_L_makes_A_j223 K x5 x6 x7 y0 G0) (
              pif (x5 = 31) (
                w_L_makes_A_j223 K x5 x6 x7 y0 G0) (
                pif (x5 ≤ 34) (
                  w_L_makes_A_j227 K x5 x6 x7 y0 G0) (
                  pif (38 ≤ x5) (
                    w_L_makes_A_j227 K x5 x6 x7 y0 G0) (
                    w_L_makes_A_j223 K x5 x6 x7 y0 G0))))))))) (
    pif (x5 < 13) (
      w_L_makes_A_j223 K x5 x6 x7 y0 G0) (
      pif (x5 = 17) (
        w_L_makes_A_j223 K x5 x6 x7 y0 G0) (
        pif (x5 = 19) (
          w_L_makes_A_j223 K x5 x6 x7 y0 G0) (
          pif (x5 ≤ 20) (
            pif (x5 = 29) (
              w_L_makes_A_j223 K x5 x6 x7 y0 G0) (
              pif (x5 = 31) (
                w_L_makes_A_j223 K x5 x6 x7 y0 G0) (
                pif (x5 ≤ 34) (
                  w_L_makes_A_j227 K x5 x6 x7 y0 G0) (
                  pif (38 ≤ x5) (
                    w_L_makes_A_j227 K x5 x6 x7 y0 G0) (
                    w_L_makes_A_j223 K x5 x6 x7 y0 G0))))) (
            pif (x5 < 26) (
              w_L_makes_A_j223 K x5 x6 x7 y0 G0) (
              pif (x5 = 29) (
                w_L_makes_A_j223 K x5 x6 x7 y0 G0) (
                pif (x5 = 31) (
                  w_L_makes_A_j223 K x5 x6 x7 y0 G0) (
                  pif (x5 ≤ 34) (
                    w_L_makes_A_j227 K x5 x6 x7 y0 G0) (
                    pif (38 ≤ x5) (
                      w_L_makes_A_j227 K x5 x6 x7 y0 G0) (
                      w_L_makes_A_j223 K x5 x6 x7 y0 G0))))))))))
def w_L_makes_A_j139 (K : Sh → Gt → Prop) (x4 : Int32) (x5 : Int32) (x6 : Int32) (x7 : Int32) (G0 : Gt) : Prop :=
  w_L_part (fun v7 G8 =>
    w_L_makes_A_j152 K x5 x6 x7 v7 G8) (x4 >>> (11 &&& 31)) G0
def w_L_makes_A_j151 (K : Sh → Gt → Prop) (x5 : Int32) (x6 : Int32) (x7 : Int32) (G0 : Gt) : Prop :=
  w_L_makes_A_j152 K x5 x6 x7 (-1) G0
def w_L_makes_A_j93 (K : Sh → Gt → Prop) (x4 : Int32) (x5 : Int32) (x6 : Int32) (y0 : Int32) (G0 : Gt) : Prop :=
  pif (x5 = 10) (
    w_L_makes_A_j139 K x4 x5 x6 y0 G0) (
    pif (x5 = 20) (
      w_L_makes_A_j139 K x4 x5 x6 y0 G0) (
      pif (x5 = 26) (
        w_L_makes_A_j139 K x4 x5 x6 y0 G0) (
        pif (x5 = 18) (
          pif (y0 < 0) (
            w_L_makes_A_j151 K x5 x6 y0 G0) (
            w_L_low (fun v29 G30 =>
              pif (v29 = 0) (
                w_L_makes_A_j139 K x4 x5 x6 y0 G30) (
                w_L_makes_A_j151 K x5 x6 y0 G30)) (x4 >>> (4 &&& 31)) 3 G0)) (
          w_L_makes_A_j151 K x5 x6 y0 G0))))
def w_L_makes_A_j81 (K : Sh → Gt → Prop) (x4 : Int32) (x5 : Int32) (x6 : Int32) (G0 : Gt) : Prop :=
  w_L_part (fun v5 G6 =>
    w_L_makes_A_j93 K x4 x5 x6 v5 G6) (x4 >>> (5 &&& 31)) G0
def w_L_makes_A_j92 (K : Sh → Gt → Prop) (x4 : Int32) (x5 : Int32) (x6 : Int32) (G0 : Gt) : Prop :=
  w_L_makes_A_j93 K x4 x5 x6 (-1) G0
def w_L_makes_A_j43 (K : Sh → Gt → Prop) (x4 : Int32) (y0 : Int32) (G0 : Gt) : Prop :=
  w_L_firstOf (fun v1 G2 =>
    w_L_hasSecond (fun v3 G4 =>
      pif (v3 = 0) (
        pif (y0 = 18) (
          w_L_low (fun v31 G32 =>
            pif (v31 ≤ 0) (
              w_L_makes_A_j92 K x4 y0 v1 G32) (
              w_L_makes_A_j81 K x4 y0 v1 G32)) (x4 >>> (3 &&& 31)) 3 G4) (
          w_L_makes_A_j92 K x4 y0 v1 G4)) (
        w_L_makes_A_j81 K x4 y0 v1 G4)) y0 G2) y0 x4 G0
def w_L_makes_A_j35 (K : Sh → Gt → Prop) (x3 : Int32) (x4 : Int32) (G0 : Gt) : Prop :=
  w_L_low (fun v37 G38 =>
    w_L_makes_A_j43 K x4 v37 G38) (x3 >>> (4 &&& 31)) 40 G0
def w_L_makes_A_j20 (K : Sh → Gt → Prop) (x3 : Int32) (x4 : Int32) (G0 : Gt) : Prop :=
  w_L_low (fun v35 G36 =>
    pif (v35 = 2) (
      w_L_makes_A_j43 K x4 29 G36) (
      w_L_makes_A_j35 K x3 x4 G36)) x3 9 G0
def w_L_makes_A (K : Sh → Gt → Prop) (p3 : Int32) (p4 : Int32) (G0 : Gt) : Prop :=
  vp_in 0 7 ∧
  pif ((G0 47 (0 : Int32).toNatClampNeg) = 0) (
    w_L_makes_A_j43 K p4 0 G0) (
    w_L_low (fun v33 G34 =>
      pif (2 ≤ v33) (
        w_L_makes_A_j20 K p3 p4 G34) (
        w_L_makes_A_j43 K p4 0 G34)) p3 9 G0)
set_option maxHeartbeats 4000000 in
set_option maxRecDepth 100000 in
theorem t_L_makes_A {l : Launch} (hlf : l.stackTraces = false) (p3 : Int32) (p4 : Int32) (G0 : Gt) (K : Sh → Gt → Prop) (hw : w_L_makes_A K p3 p4 G0) : CV l yL_makes cL_makes 13 (some .boolean) 9 211 6 36 [.ref 0, .ref 46, .ref 47, .int p3, .int p4] shA G0 (fun r s' G' => r = some (.int 1) ∧ K s' G') := by
  refine CV_of (by decide) (Nat.le_of_ble_eq_true rfl) rfl ?_
  intro p e s m args below meth c D tA ad A C hr
  have hF0 : ∀ j, j < 84 → ad j = ad j := fun _ _ => rfl
  have h371 : ∀ (ad1 : Nat → Nat) (k n : Nat) (G0 : Gt), (∀ j, j < 84 → ad1 j = ad j) → k + 4 ≤ 6 → n + 24 ≤ 36 → w_L_makes_A_j371 K  G0 → aw p l e { frames := 9, cells := 6, slots := 36, locals := 211 } s m args below meth c 13 D tA A (MQ below (QL D tA ad A shA (fun r s' G' => r = some (.int 1) ∧ K s' G')) args s 6 36 A) k n ad1 371 [some (.ref 0), none, some (.ref 47), none, none, none, none, none, none, none, none, none, none] [] shA G0 := by
    intro ad1 k n  G0 hF hk hn hw
    unfold w_L_makes_A_j371 at hw
    refine aw_aloadn C dL_makes_371 rfl ?_
    refine aw_aloadn C dL_makes_372 rfl ?_
    refine aw_iconst (v := 0) C dL_makes_373 (by decide) ?_
    refine aw_iald C dL_makes_374 (sA_47 shOK_A) hw.1 ?_
    replace hw := hw.2
    refine aw_runQ (mc := 1) (ms := 6) (rest := []) C (run_W (na := 2) C dL_makes_375 (t_L_size_A hlf (G0 47 (0 : Int32).toNatClampNeg) _ _ hw) mM_L_113 mW_size mT_size mI_L (by decide +kernel) rfl ⟨Nat.le_of_ble_eq_true rfl, Nat.le_of_ble_eq_true rfl, by show _ ≤ 6; omega, by show _ ≤ 36; omega⟩ [] rfl (Nat.le_of_ble_eq_true rfl)) ⟨by decide, by decide, trivial⟩ trivial (fun r375 ad_12 s375 G13 hEad_12 hq => ?_)
    obtain ⟨v14, rfl, rfl, hw⟩ := hq
    have hFad_12 : (∀ j, j < 84 → ad_12 j = ad j) := fun j hj => (hEad_12 j (ltAA hj)).trans (hF j hj)
    refine aw_ldc (v := (-1000001)) C dL_makes_378 mK_L_18 ?_
    refine aw_ic_ne C dL_makes_380 430 (by decide) hw (fun hc380 hw => ?_) (fun hc380 hw => ?_)
    · exact hw.elim
    · refine aw_aloadn C dL_makes_383 rfl ?_
      refine aw_bipush (v := 40) C dL_makes_384 (by decide) ?_
      refine aw_iconst (v := 0) C dL_makes_386 (by decide) ?_
      refine aw_iconst (v := 0) C dL_makes_387 (by decide) ?_
      refine aw_iconst (v := 0) C dL_makes_388 (by decide) ?_
      refine aw_runQ (mc := 1) (ms := 6) (rest := []) C (run_W (na := 5) C dL_makes_389 (t_L_node_A hlf 40 0 0 0 _ _ hw) mM_L_110 mW_node mT_node mI_L (by decide +kernel) rfl ⟨Nat.le_of_ble_eq_true rfl, Nat.le_of_ble_eq_true rfl, by show _ ≤ 6; omega, by show _ ≤ 36; omega⟩ [] rfl (Nat.le_of_ble_eq_true rfl)) ⟨by decide, by decide, trivial⟩ trivial (fun r389 ad_15 s389 G16 hEad_15 hq => ?_)
      obtain ⟨v17, rfl, rfl, hw⟩ := hq
      have hFad_15 : (∀ j, j < 84 → ad_15 j = ad j) := fun j hj => (hEad_15 j (ltAA hj)).trans (hFad_12 j hj)
      refine aw_ldc (v := (-1000002)) C dL_makes_392 mK_L_21 ?_
      refine aw_ic_ne C dL_makes_394 430 (by decide) hw (fun hc394 hw => ?_) (fun hc394 hw => ?_)
      · exact hw.elim
      · refine aw_aloadn C dL_makes_397 rfl ?_
        refine aw_iconst (v := 4) C dL_makes_398 (by decide) ?_
        refine aw_aloadn C dL_makes_399 rfl ?_
        refine aw_iconst (v := 0) C dL_makes_400 (by decide) ?_
        refine aw_iald C dL_makes_401 (sA_47 shOK_A) hw.1 ?_
        replace hw := hw.2
        refine aw_iconst (v := 0) C dL_makes_402 (by decide) ?_
        refine aw_iconst (v := (-1)) C dL_makes_403 (by decide) ?_
        refine aw_runQ (mc := 1) (ms := 6) (rest := []) C (run_W (na := 5) C dL_makes_404 (t_L_node_A hlf 4 (G16 47 (0 : Int32).toNatClampNeg) 0 (-1) _ _ hw) mM_L_110 mW_node mT_node mI_L (by decide +kernel) rfl ⟨Nat.le_of_ble_eq_true rfl, Nat.le_of_ble_eq_true rfl, by show _ ≤ 6; omega, by show _ ≤ 36; omega⟩ [] rfl (Nat.le_of_ble_eq_true rfl)) ⟨by decide, by decide, trivial⟩ trivial (fun r404 ad_18 s404 G19 hEad_18 hq => ?_)
        obtain ⟨v20, rfl, rfl, hw⟩ := hq
        have hFad_18 : (∀ j, j < 84 → ad_18 j = ad j) := fun j hj => (hEad_18 j (ltAA hj)).trans (hFad_15 j hj)
        refine aw_ldc (v := (-1000001)) C dL_makes_407 mK_L_18 ?_
        refine aw_ic_ne C dL_makes_409 430 (by decide) hw (fun hc409 hw => ?_) (fun hc409 hw => ?_)
        · exact hw.elim
        · refine aw_aloadn C dL_makes_412 rfl ?_
          refine aw_iconst (v := 1) C dL_makes_413 (by decide) ?_
          refine aw_bipush (v := 8) C dL_makes_414 (by decide) ?_
          refine aw_iconst (v := (-1)) C dL_makes_416 (by decide) ?_
          refine aw_iconst (v := (-1)) C dL_makes_417 (by decide) ?_
          refine aw_runQ (mc := 1) (ms := 6) (rest := []) C (run_W (na := 5) C dL_makes_418 (t_L_node_A hlf 1 8 (-1) (-1) _ _ hw) mM_L_110 mW_node mT_node mI_L (by decide +kernel) rfl ⟨Nat.le_of_ble_eq_true rfl, Nat.le_of_ble_eq_true rfl, by show _ ≤ 6; omega, by show _ ≤ 36; omega⟩ [] rfl (Nat.le_of_ble_eq_true rfl)) ⟨by decide, by decide, trivial⟩ trivial (fun r418 ad_21 s418 G22 hEad_21 hq => ?_)
          obtain ⟨v23, rfl, rfl, hw⟩ := hq
          have hFad_21 : (∀ j, j < 84 → ad_21 j = ad j) := fun j hj => (hEad_21 j (ltAA hj)).trans (hFad_18 j hj)
          refine aw_ldc (v := (-1000002)) C dL_makes_421 mK_L_21 ?_
          refine aw_ic_ne C dL_makes_423 430 (by decide) hw (fun hc423 hw => ?_) (fun hc423 hw => ?_)
          · exact hw.elim
          · refine aw_iconst (v := 1) C dL_makes_426 (by decide) ?_
            refine aw_goto (tgt := 431) C dL_makes_427 (by decide) ?_
            exact aw_lzreturn C hr dL_makes_431 rfl (by omega) (by omega) (fun j hj => hFad_21 j (ltA_ hj)) ⟨rfl, hw⟩
  have h352 : ∀ (ad1 : Nat → Nat) (k n : Nat) (x10 : Int32) (x11 : Int32) (x12 : Int32) (y0 : Int32) (y1 : Int32) (G0 : Gt), (∀ j, j < 84 → ad1 j = ad j) → k + 5 ≤ 6 → n + 30 ≤ 36 → w_L_makes_A_j352 K x10 x11 x12 y0 y1 G0 → aw p l e { frames := 9, cells := 6, slots := 36, locals := 211 } s m args below meth c 13 D tA A (MQ below (QL D tA ad A shA (fun r s' G' => r = some (.int 1) ∧ K s' G')) args s 6 36 A) k n ad1 352 [some (.ref 0), none, some (.ref 47), none, none, none, none, none, none, none, some (.int x10), some (.int x11), some (.int x12)] [.int y1, .int y0] shA G0 := by
    intro ad1 k n x10 x11 x12 y0 y1 G0 hF hk hn hw
    unfold w_L_makes_A_j352 at hw
    refine aw_ic_ne C dL_makes_352 430 (by decide) hw (fun hc352 hw => ?_) (fun hc352 hw => ?_)
    · exact hw.elim
    · refine aw_iload C dL_makes_355 rfl ?_
      refine aw_if_eq C dL_makes_357 371 (by decide) hw (fun hc357 hw => ?_) (fun hc357 hw => ?_)
      · exact aw_msk [true, false, true, false, false, false, false, false, false, false, false, false, false] (h371 ad1 _ _ _ hF (by omega) (by omega) hw)
      · refine aw_aloadn C dL_makes_360 rfl ?_
        refine aw_iload C dL_makes_361 rfl ?_
        refine aw_runQ (mc := 1) (ms := 6) (rest := []) C (run_W (na := 2) C dL_makes_363 (t_L_size_A hlf x12 _ _ hw) mM_L_113 mW_size mT_size mI_L (by decide +kernel) rfl ⟨Nat.le_of_ble_eq_true rfl, Nat.le_of_ble_eq_true rfl, by show _ ≤ 6; omega, by show _ ≤ 36; omega⟩ [] rfl (Nat.le_of_ble_eq_true rfl)) ⟨by decide, by decide, trivial⟩ trivial (fun r363 ad_24 s363 G25 hEad_24 hq => ?_)
        obtain ⟨v26, rfl, rfl, hw⟩ := hq
        have hFad_24 : (∀ j, j < 84 → ad_24 j = ad j) := fun j hj => (hEad_24 j (ltAA hj)).trans (hF j hj)
        refine aw_iload C dL_makes_366 rfl ?_
        refine aw_ic_ne C dL_makes_368 430 (by decide) hw (fun hc368 hw => ?_) (fun hc368 hw => ?_)
        · exact hw.elim
        · exact aw_msk [true, false, true, false, false, false, false, false, false, false, false, false, false] (h371 ad_24 _ _ _ hFad_24 (by omega) (by omega) hw)
  have h350 : ∀ (ad1 : Nat → Nat) (k n : Nat) (x10 : Int32) (x11 : Int32) (x12 : Int32) (y0 : Int32) (G0 : Gt), (∀ j, j < 84 → ad1 j = ad j) → k + 5 ≤ 6 → n + 30 ≤ 36 → w_L_makes_A_j350 K x10 x11 x12 y0 G0 → aw p l e { frames := 9, cells := 6, slots := 36, locals := 211 } s m args below meth c 13 D tA A (MQ below (QL D tA ad A shA (fun r s' G' => r = some (.int 1) ∧ K s' G')) args s 6 36 A) k n ad1 350 [some (.ref 0), none, some (.ref 47), none, none, none, none, none, none, none, some (.int x10), some (.int x11), some (.int x12)] [.int y0] shA G0 := by
    intro ad1 k n x10 x11 x12 y0 G0 hF hk hn hw
    unfold w_L_makes_A_j350 at hw
    refine aw_ldc (v := (-1000003)) C dL_makes_350 mK_L_24 ?_
    exact aw_msk [true, false, true, false, false, false, false, false, false, false, true, true, true] (h352 ad1 _ _ x10 x11 x12 y0 (-1000003) _ hF (by omega) (by omega) hw)
  have h335 : ∀ (ad1 : Nat → Nat) (k n : Nat) (x10 : Int32) (x11 : Int32) (x12 : Int32) (G0 : Gt), (∀ j, j < 84 → ad1 j = ad j) → k + 5 ≤ 6 → n + 30 ≤ 36 → w_L_makes_A_j335 K x10 x11 x12 G0 → aw p l e { frames := 9, cells := 6, slots := 36, locals := 211 } s m args below meth c 13 D tA A (MQ below (QL D tA ad A shA (fun r s' G' => r = some (.int 1) ∧ K s' G')) args s 6 36 A) k n ad1 335 [some (.ref 0), none, some (.ref 47), none, none, none, none, none, none, none, some (.int x10), some (.int x11), some (.int x12)] [] shA G0 := by
    intro ad1 k n x10 x11 x12 G0 hF hk hn hw
    unfold w_L_makes_A_j335 at hw
    refine aw_iload C dL_makes_335 rfl ?_
    refine aw_iload C dL_makes_337 rfl ?_
    refine aw_if_eq C dL_makes_339 350 (by decide) hw (fun hc339 hw => ?_) (fun hc339 hw => ?_)
    · exact aw_msk [true, false, true, false, false, false, false, false, false, false, true, true, true] (h350 ad1 _ _ x10 x11 x12 x12 _ hF (by omega) (by omega) hw)
    · refine aw_aloadn C dL_makes_342 rfl ?_
      refine aw_iconst (v := 0) C dL_makes_343 (by decide) ?_
      refine aw_iald C dL_makes_344 (sA_47 shOK_A) hw.1 ?_
      replace hw := hw.2
      refine aw_iconst (v := 1) C dL_makes_345 (by decide) ?_
      refine aw_isub C dL_makes_346 ?_
      refine aw_goto (tgt := 352) C dL_makes_347 (by decide) ?_
      exact aw_msk [true, false, true, false, false, false, false, false, false, false, true, true, true] (h352 ad1 _ _ x10 x11 x12 x12 ((G0 47 (0 : Int32).toNatClampNeg) - 1) _ hF (by omega) (by omega) hw)
  have h300 : ∀ (ad1 : Nat → Nat) (k n : Nat) (x5 : Int32) (x6 : Int32) (x7 : Int32) (x8 : Int32) (x10 : Int32) (y0 : Int32) (G0 : Gt), (∀ j, j < 84 → ad1 j = ad j) → k + 6 ≤ 6 → n + 36 ≤ 36 → w_L_makes_A_j300 K x5 x6 x7 x8 x10 y0 G0 → aw p l e { frames := 9, cells := 6, slots := 36, locals := 211 } s m args below meth c 13 D tA A (MQ below (QL D tA ad A shA (fun r s' G' => r = some (.int 1) ∧ K s' G')) args s 6 36 A) k n ad1 300 [some (.ref 0), some (.ref 46), some (.ref 47), none, none, some (.int x5), some (.int x6), some (.int x7), some (.int x8), none, some (.int x10), none, none] [.int y0] shA G0 := by
    intro ad1 k n x5 x6 x7 x8 x10 y0 G0 hF hk hn hw
    unfold w_L_makes_A_j300 at hw
    refine aw_istore C dL_makes_300 (by decide) rfl ?_
    refine aw_aloadn C dL_makes_302 rfl ?_
    refine aw_iload C dL_makes_303 rfl ?_
    refine aw_iload C dL_makes_305 rfl ?_
    refine aw_iload C dL_makes_307 rfl ?_
    refine aw_iload C dL_makes_309 rfl ?_
    refine aw_runQ (mc := 1) (ms := 6) (rest := []) C (run_W (na := 5) C dL_makes_311 (t_L_node_A hlf x5 x6 x7 x8 _ _ hw) mM_L_110 mW_node mT_node mI_L (by decide +kernel) rfl ⟨Nat.le_of_ble_eq_true rfl, Nat.le_of_ble_eq_true rfl, by show _ ≤ 6; omega, by show _ ≤ 36; omega⟩ [] rfl (Nat.le_of_ble_eq_true rfl)) ⟨by decide, by decide, by decide, trivial⟩ trivial (fun r311 ad_9 s311 G10 hEad_9 hq => ?_)
    obtain ⟨v11, rfl, rfl, hw⟩ := hq
    have hFad_9 : (∀ j, j < 84 → ad_9 j = ad j) := fun j hj => (hEad_9 j (ltAA hj)).trans (hF j hj)
    refine aw_istore C dL_makes_314 (by decide) rfl ?_
    refine aw_iload C dL_makes_316 rfl ?_
    refine aw_if_eq C dL_makes_318 335 (by decide) hw (fun hc318 hw => ?_) (fun hc318 hw => ?_)
    · exact aw_msk [true, false, true, false, false, false, false, false, false, false, true, true, true] (h335 ad_9 _ _ x10 y0 v11 _ hFad_9 (by omega) (by omega) hw)
    · refine aw_aloadn C dL_makes_321 rfl ?_
      refine aw_aloadn C dL_makes_322 rfl ?_
      refine aw_iconst (v := 0) C dL_makes_323 (by decide) ?_
      refine aw_iald C dL_makes_324 (sA_47 shOK_A) hw.1 ?_
      replace hw := hw.2
      refine aw_iload C dL_makes_325 rfl ?_
      refine aw_iast C dL_makes_327 (sA_46 shOK_A) hw.1 hw.2 (fun G27 hw => ?_)
      refine aw_aloadn C dL_makes_328 rfl ?_
      refine aw_iconst (v := 0) C dL_makes_329 (by decide) ?_
      refine aw_dup2 C dL_makes_330 rfl rfl ?_
      refine aw_iald C dL_makes_331 (sA_47 shOK_A) hw.1 ?_
      replace hw := hw.2
      refine aw_iconst (v := 1) C dL_makes_332 (by decide) ?_
      refine aw_iadd C dL_makes_333 ?_
      refine aw_iast C dL_makes_334 (sA_47 shOK_A) hw.1 hw.2 (fun G28 hw => ?_)
      exact aw_msk [true, false, true, false, false, false, false, false, false, false, true, true, true] (h335 ad_9 _ _ x10 y0 v11 _ hFad_9 (by omega) (by omega) hw)
  have h299 : ∀ (ad1 : Nat → Nat) (k n : Nat) (x5 : Int32) (x6 : Int32) (x7 : Int32) (x8 : Int32) (x10 : Int32) (G0 : Gt), (∀ j, j < 84 → ad1 j = ad j) → k + 6 ≤ 6 → n + 36 ≤ 36 → w_L_makes_A_j299 K x5 x6 x7 x8 x10 G0 → aw p l e { frames := 9, cells := 6, slots := 36, locals := 211 } s m args below meth c 13 D tA A (MQ below (QL D tA ad A shA (fun r s' G' => r = some (.int 1) ∧ K s' G')) args s 6 36 A) k n ad1 299 [some (.ref 0), some (.ref 46), some (.ref 47), none, none, some (.int x5), some (.int x6), some (.int x7), some (.int x8), none, some (.int x10), none, none] [] shA G0 := by
    intro ad1 k n x5 x6 x7 x8 x10 G0 hF hk hn hw
    unfold w_L_makes_A_j299 at hw
    refine aw_iconst (v := 0) C dL_makes_299 (by decide) ?_
    exact aw_msk [true, true, true, false, false, true, true, true, true, false, true, false, false] (h300 ad1 _ _ x5 x6 x7 x8 x10 0 _ hF (by omega) (by omega) hw)
  have h284 : ∀ (ad1 : Nat → Nat) (k n : Nat) (x5 : Int32) (x6 : Int32) (x7 : Int32) (x8 : Int32) (y0 : Int32) (y1 : Int32) (G0 : Gt), (∀ j, j < 84 → ad1 j = ad j) → k + 6 ≤ 6 → n + 36 ≤ 36 → w_L_makes_A_j284 K x5 x6 x7 x8 y0 y1 G0 → aw p l e { frames := 9, cells := 6, slots := 36, locals := 211 } s m args below meth c 13 D tA A (MQ below (QL D tA ad A shA (fun r s' G' => r = some (.int 1) ∧ K s' G')) args s 6 36 A) k n ad1 284 [some (.ref 0), some (.ref 46), some (.ref 47), none, none, some (.int x5), some (.int x6), some (.int x7), some (.int x8), none, none, none, none] [.int y1, .int y0] shA G0 := by
    intro ad1 k n x5 x6 x7 x8 y0 y1 G0 hF hk hn hw
    unfold w_L_makes_A_j284 at hw
    refine aw_iadd C dL_makes_284 ?_
    refine aw_istore C dL_makes_285 (by decide) rfl ?_
    refine aw_iload C dL_makes_287 rfl ?_
    refine aw_sipush (v := 150) C dL_makes_289 (by decide) ?_
    refine aw_ic_gt C dL_makes_292 299 (by decide) hw (fun hc292 hw => ?_) (fun hc292 hw => ?_)
    · exact aw_msk [true, true, true, false, false, true, true, true, true, false, true, false, false] (h299 ad1 _ _ x5 x6 x7 x8 (y0 + y1) _ hF (by omega) (by omega) hw)
    · refine aw_iconst (v := 1) C dL_makes_295 (by decide) ?_
      refine aw_goto (tgt := 300) C dL_makes_296 (by decide) ?_
      exact aw_msk [true, true, true, false, false, true, true, true, true, false, true, false, false] (h300 ad1 _ _ x5 x6 x7 x8 (y0 + y1) 1 _ hF (by omega) (by omega) hw)
  have h283 : ∀ (ad1 : Nat → Nat) (k n : Nat) (x5 : Int32) (x6 : Int32) (x7 : Int32) (x8 : Int32) (y0 : Int32) (G0 : Gt), (∀ j, j < 84 → ad1 j = ad j) → k + 6 ≤ 6 → n + 36 ≤ 36 → w_L_makes_A_j283 K x5 x6 x7 x8 y0 G0 → aw p l e { frames := 9, cells := 6, slots := 36, locals := 211 } s m args below meth c 13 D tA A (MQ below (QL D tA ad A shA (fun r s' G' => r = some (.int 1) ∧ K s' G')) args s 6 36 A) k n ad1 283 [some (.ref 0), some (.ref 46), some (.ref 47), none, none, some (.int x5), some (.int x6), some (.int x7), some (.int x8), none, none, none, none] [.int y0] shA G0 := by
    intro ad1 k n x5 x6 x7 x8 y0 G0 hF hk hn hw
    unfold w_L_makes_A_j283 at hw
    refine aw_iconst (v := 0) C dL_makes_283 (by decide) ?_
    exact aw_msk [true, true, true, false, false, true, true, true, true, false, false, false, false] (h284 ad1 _ _ x5 x6 x7 x8 y0 0 _ hF (by omega) (by omega) hw)
  have h270 : ∀ (ad1 : Nat → Nat) (k n : Nat) (x5 : Int32) (x6 : Int32) (x7 : Int32) (x8 : Int32) (y0 : Int32) (y1 : Int32) (G0 : Gt), (∀ j, j < 84 → ad1 j = ad j) → k + 6 ≤ 6 → n + 36 ≤ 36 → w_L_makes_A_j270 K x5 x6 x7 x8 y0 y1 G0 → aw p l e { frames := 9, cells := 6, slots := 36, locals := 211 } s m args below meth c 13 D tA A (MQ below (QL D tA ad A shA (fun r s' G' => r = some (.int 1) ∧ K s' G')) args s 6 36 A) k n ad1 270 [some (.ref 0), some (.ref 46), some (.ref 47), none, none, some (.int x5), some (.int x6), some (.int x7), some (.int x8), none, none, none, none] [.int y1, .int y0] shA G0 := by
    intro ad1 k n x5 x6 x7 x8 y0 y1 G0 hF hk hn hw
    unfold w_L_makes_A_j270 at hw
    refine aw_iadd C dL_makes_270 ?_
    refine aw_iload C dL_makes_271 rfl ?_
    refine aw_if_lt C dL_makes_273 283 (by decide) hw (fun hc273 hw => ?_) (fun hc273 hw => ?_)
    · exact aw_msk [true, true, true, false, false, true, true, true, true, false, false, false, false] (h283 ad1 _ _ x5 x6 x7 x8 (y0 + y1) _ hF (by omega) (by omega) hw)
    · refine aw_aloadn C dL_makes_276 rfl ?_
      refine aw_iload C dL_makes_277 rfl ?_
      refine aw_iald C dL_makes_279 (sA_46 shOK_A) hw.1 ?_
      replace hw := hw.2
      refine aw_goto (tgt := 284) C dL_makes_280 (by decide) ?_
      exact aw_msk [true, true, true, false, false, true, true, true, true, false, false, false, false] (h284 ad1 _ _ x5 x6 x7 x8 (y0 + y1) (G0 46 (x8 : Int32).toNatClampNeg) _ hF (by omega) (by omega) hw)
  have h269 : ∀ (ad1 : Nat → Nat) (k n : Nat) (x5 : Int32) (x6 : Int32) (x7 : Int32) (x8 : Int32) (y0 : Int32) (G0 : Gt), (∀ j, j < 84 → ad1 j = ad j) → k + 6 ≤ 6 → n + 36 ≤ 36 → w_L_makes_A_j269 K x5 x6 x7 x8 y0 G0 → aw p l e { frames := 9, cells := 6, slots := 36, locals := 211 } s m args below meth c 13 D tA A (MQ below (QL D tA ad A shA (fun r s' G' => r = some (.int 1) ∧ K s' G')) args s 6 36 A) k n ad1 269 [some (.ref 0), some (.ref 46), some (.ref 47), none, none, some (.int x5), some (.int x6), some (.int x7), some (.int x8), none, none, none, none] [.int y0] shA G0 := by
    intro ad1 k n x5 x6 x7 x8 y0 G0 hF hk hn hw
    unfold w_L_makes_A_j269 at hw
    refine aw_iconst (v := 0) C dL_makes_269 (by decide) ?_
    exact aw_msk [true, true, true, false, false, true, true, true, true, false, false, false, false] (h270 ad1 _ _ x5 x6 x7 x8 y0 0 _ hF (by omega) (by omega) hw)
  have h249 : ∀ (ad1 : Nat → Nat) (k n : Nat) (x5 : Int32) (x6 : Int32) (x7 : Int32) (x8 : Int32) (y0 : Int32) (y1 : Int32) (G0 : Gt), (∀ j, j < 84 → ad1 j = ad j) → k + 6 ≤ 6 → n + 36 ≤ 36 → w_L_makes_A_j249 K x5 x6 x7 x8 y0 y1 G0 → aw p l e { frames := 9, cells := 6, slots := 36, locals := 211 } s m args below meth c 13 D tA A (MQ below (QL D tA ad A shA (fun r s' G' => r = some (.int 1) ∧ K s' G')) args s 6 36 A) k n ad1 249 [some (.ref 0), some (.ref 46), some (.ref 47), none, none, some (.int x5), some (.int x6), some (.int x7), some (.int x8), none, none, none, none] [.int y1, .int y0] shA G0 := by
    intro ad1 k n x5 x6 x7 x8 y0 y1 G0 hF hk hn hw
    unfold w_L_makes_A_j249 at hw
    refine aw_iadd C dL_makes_249 ?_
    refine aw_iload C dL_makes_250 rfl ?_
    refine aw_if_lt C dL_makes_252 269 (by decide) hw (fun hc252 hw => ?_) (fun hc252 hw => ?_)
    · exact aw_msk [true, true, true, false, false, true, true, true, true, false, false, false, false] (h269 ad1 _ _ x5 x6 x7 x8 (y0 + y1) _ hF (by omega) (by omega) hw)
    · refine aw_iload C dL_makes_255 rfl ?_
      refine aw_bipush (v := 38) C dL_makes_257 (by decide) ?_
      refine aw_ic_eq C dL_makes_259 269 (by decide) hw (fun hc259 hw => ?_) (fun hc259 hw => ?_)
      · exact aw_msk [true, true, true, false, false, true, true, true, true, false, false, false, false] (h269 ad1 _ _ x5 x6 x7 x8 (y0 + y1) _ hF (by omega) (by omega) hw)
      · refine aw_aloadn C dL_makes_262 rfl ?_
        refine aw_iload C dL_makes_263 rfl ?_
        refine aw_iald C dL_makes_265 (sA_46 shOK_A) hw.1 ?_
        replace hw := hw.2
        refine aw_goto (tgt := 270) C dL_makes_266 (by decide) ?_
        exact aw_msk [true, true, true, false, false, true, true, true, true, false, false, false, false] (h270 ad1 _ _ x5 x6 x7 x8 (y0 + y1) (G0 46 (x7 : Int32).toNatClampNeg) _ hF (by omega) (by omega) hw)
  have h248 : ∀ (ad1 : Nat → Nat) (k n : Nat) (x5 : Int32) (x6 : Int32) (x7 : Int32) (x8 : Int32) (y0 : Int32) (G0 : Gt), (∀ j, j < 84 → ad1 j = ad j) → k + 6 ≤ 6 → n + 36 ≤ 36 → w_L_makes_A_j248 K x5 x6 x7 x8 y0 G0 → aw p l e { frames := 9, cells := 6, slots := 36, locals := 211 } s m args below meth c 13 D tA A (MQ below (QL D tA ad A shA (fun r s' G' => r = some (.int 1) ∧ K s' G')) args s 6 36 A) k n ad1 248 [some (.ref 0), some (.ref 46), some (.ref 47), none, none, some (.int x5), some (.int x6), some (.int x7), some (.int x8), none, none, none, none] [.int y0] shA G0 := by
    intro ad1 k n x5 x6 x7 x8 y0 G0 hF hk hn hw
    unfold w_L_makes_A_j248 at hw
    refine aw_iconst (v := 0) C dL_makes_248 (by decide) ?_
    exact aw_msk [true, true, true, false, false, true, true, true, true, false, false, false, false] (h249 ad1 _ _ x5 x6 x7 x8 y0 0 _ hF (by omega) (by omega) hw)
  have h228 : ∀ (ad1 : Nat → Nat) (k n : Nat) (x5 : Int32) (x6 : Int32) (x7 : Int32) (x8 : Int32) (y0 : Int32) (G0 : Gt), (∀ j, j < 84 → ad1 j = ad j) → k + 6 ≤ 6 → n + 36 ≤ 36 → w_L_makes_A_j228 K x5 x6 x7 x8 y0 G0 → aw p l e { frames := 9, cells := 6, slots := 36, locals := 211 } s m args below meth c 13 D tA A (MQ below (QL D tA ad A shA (fun r s' G' => r = some (.int 1) ∧ K s' G')) args s 6 36 A) k n ad1 228 [some (.ref 0), some (.ref 46), some (.ref 47), none, none, some (.int x5), some (.int x6), some (.int x7), some (.int x8), none, none, none, none] [.int y0] shA G0 := by
    intro ad1 k n x5 x6 x7 x8 y0 G0 hF hk hn hw
    unfold w_L_makes_A_j228 at hw
    refine aw_istore C dL_makes_228 (by decide) rfl ?_
    refine aw_iconst (v := 1) C dL_makes_230 (by decide) ?_
    refine aw_iload C dL_makes_231 rfl ?_
    refine aw_if_eq C dL_makes_233 248 (by decide) hw (fun hc233 hw => ?_) (fun hc233 hw => ?_)
    · exact aw_msk [true, true, true, false, false, true, true, true, true, false, false, false, false] (h248 ad1 _ _ x5 x6 x7 x8 1 _ hF (by omega) (by omega) hw)
    · refine aw_iload C dL_makes_236 rfl ?_
      refine aw_if_lt C dL_makes_238 248 (by decide) hw (fun hc238 hw => ?_) (fun hc238 hw => ?_)
      · exact aw_msk [true, true, true, false, false, true, true, true, true, false, false, false, false] (h248 ad1 _ _ x5 x6 x7 x8 1 _ hF (by omega) (by omega) hw)
      · refine aw_aloadn C dL_makes_241 rfl ?_
        refine aw_iload C dL_makes_242 rfl ?_
        refine aw_iald C dL_makes_244 (sA_46 shOK_A) hw.1 ?_
        replace hw := hw.2
        refine aw_goto (tgt := 249) C dL_makes_245 (by decide) ?_
        exact aw_msk [true, true, true, false, false, true, true, true, true, false, false, false, false] (h249 ad1 _ _ x5 x6 x7 x8 1 (G0 46 (x6 : Int32).toNatClampNeg) _ hF (by omega) (by omega) hw)
  have h223 : ∀ (ad1 : Nat → Nat) (k n : Nat) (x5 : Int32) (x6 : Int32) (x7 : Int32) (x8 : Int32) (G0 : Gt), (∀ j, j < 84 → ad1 j = ad j) → k + 6 ≤ 6 → n + 36 ≤ 36 → w_L_makes_A_j223 K x5 x6 x7 x8 G0 → aw p l e { frames := 9, cells := 6, slots := 36, locals := 211 } s m args below meth c 13 D tA A (MQ below (QL D tA ad A shA (fun r s' G' => r = some (.int 1) ∧ K s' G')) args s 6 36 A) k n ad1 223 [some (.ref 0), some (.ref 46), some (.ref 47), none, none, some (.int x5), some (.int x6), some (.int x7), some (.int x8), none, none, none, none] [] shA G0 := by
    intro ad1 k n x5 x6 x7 x8 G0 hF hk hn hw
    unfold w_L_makes_A_j223 at hw
    refine aw_iconst (v := 1) C dL_makes_223 (by decide) ?_
    refine aw_goto (tgt := 228) C dL_makes_224 (by decide) ?_
    exact aw_msk [true, true, true, false, false, true, true, true, true, false, false, false, false] (h228 ad1 _ _ x5 x6 x7 x8 1 _ hF (by omega) (by omega) hw)
  have h227 : ∀ (ad1 : Nat → Nat) (k n : Nat) (x5 : Int32) (x6 : Int32) (x7 : Int32) (x8 : Int32) (G0 : Gt), (∀ j, j < 84 → ad1 j = ad j) → k + 6 ≤ 6 → n + 36 ≤ 36 → w_L_makes_A_j227 K x5 x6 x7 x8 G0 → aw p l e { frames := 9, cells := 6, slots := 36, locals := 211 } s m args below meth c 13 D tA A (MQ below (QL D tA ad A shA (fun r s' G' => r = some (.int 1) ∧ K s' G')) args s 6 36 A) k n ad1 227 [some (.ref 0), some (.ref 46), some (.ref 47), none, none, some (.int x5), some (.int x6), some (.int x7), some (.int x8), none, none, none, none] [] shA G0 := by
    intro ad1 k n x5 x6 x7 x8 G0 hF hk hn hw
    unfold w_L_makes_A_j227 at hw
    refine aw_iconst (v := 0) C dL_makes_227 (by decide) ?_
    exact aw_msk [true, true, true, false, false, true, true, true, true, false, false, false, false] (h228 ad1 _ _ x5 x6 x7 x8 0 _ hF (by omega) (by omega) hw)
  have h152 : ∀ (ad1 : Nat → Nat) (k n : Nat) (x5 : Int32) (x6 : Int32) (x7 : Int32) (y0 : Int32) (G0 : Gt), (∀ j, j < 84 → ad1 j = ad j) → k + 6 ≤ 6 → n + 36 ≤ 36 → w_L_makes_A_j152 K x5 x6 x7 y0 G0 → aw p l e { frames := 9, cells := 6, slots := 36, locals := 211 } s m args below meth c 13 D tA A (MQ below (QL D tA ad A shA (fun r s' G' => r = some (.int 1) ∧ K s' G')) args s 6 36 A) k n ad1 152 [some (.ref 0), some (.ref 46), some (.ref 47), none, none, some (.int x5), some (.int x6), some (.int x7), none, none, none, none, none] [.int y0] shA G0 := by
    intro ad1 k n x5 x6 x7 y0 G0 hF hk hn hw
    unfold w_L_makes_A_j152 at hw
    refine aw_istore C dL_makes_152 (by decide) rfl ?_
    refine aw_iload C dL_makes_154 rfl ?_
    refine aw_iconst (v := 3) C dL_makes_156 (by decide) ?_
    refine aw_ic_le C dL_makes_157 167 (by decide) hw (fun hc157 hw => ?_) (fun hc157 hw => ?_)
    · refine aw_iload C dL_makes_167 rfl ?_
      refine aw_bipush (v := 17) C dL_makes_169 (by decide) ?_
      refine aw_ic_eq C dL_makes_171 223 (by decide) hw (fun hc171 hw => ?_) (fun hc171 hw => ?_)
      · exact aw_msk [true, true, true, false, false, true, true, true, true, false, false, false, false] (h223 ad1 _ _ x5 x6 x7 y0 _ hF (by omega) (by omega) hw)
      · refine aw_iload C dL_makes_174 rfl ?_
        refine aw_bipush (v := 19) C dL_makes_176 (by decide) ?_
        refine aw_ic_eq C dL_makes_178 223 (by decide) hw (fun hc178 hw => ?_) (fun hc178 hw => ?_)
        · exact aw_msk [true, true, true, false, false, true, true, true, true, false, false, false, false] (h223 ad1 _ _ x5 x6 x7 y0 _ hF (by omega) (by omega) hw)
        · refine aw_iload C dL_makes_181 rfl ?_
          refine aw_bipush (v := 20) C dL_makes_183 (by decide) ?_
          refine aw_ic_le C dL_makes_185 195 (by decide) hw (fun hc185 hw => ?_) (fun hc185 hw => ?_)
          · refine aw_iload C dL_makes_195 rfl ?_
            refine aw_bipush (v := 29) C dL_makes_197 (by decide) ?_
            refine aw_ic_eq C dL_makes_199 223 (by decide) hw (fun hc199 hw => ?_) (fun hc199 hw => ?_)
            · exact aw_msk [true, true, true, false, false, true, true, true, true, false, false, false, false] (h223 ad1 _ _ x5 x6 x7 y0 _ hF (by omega) (by omega) hw)
            · refine aw_iload C dL_makes_202 rfl ?_
              refine aw_bipush (v := 31) C dL_makes_204 (by decide) ?_
              refine aw_ic_eq C dL_makes_206 223 (by decide) hw (fun hc206 hw => ?_) (fun hc206 hw => ?_)
              · exact aw_msk [true, true, true, false, false, true, true, true, true, false, false, false, false] (h223 ad1 _ _ x5 x6 x7 y0 _ hF (by omega) (by omega) hw)
              · refine aw_iload C dL_makes_209 rfl ?_
                refine aw_bipush (v := 34) C dL_makes_211 (by decide) ?_
                refine aw_ic_le C dL_makes_213 227 (by decide) hw (fun hc213 hw => ?_) (fun hc213 hw => ?_)
                · exact aw_msk [true, true, true, false, false, true, true, true, true, false, false, false, false] (h227 ad1 _ _ x5 x6 x7 y0 _ hF (by omega) (by omega) hw)
                · refine aw_iload C dL_makes_216 rfl ?_
                  refine aw_bipush (v := 38) C dL_makes_218 (by decide) ?_
                  refine aw_ic_ge C dL_makes_220 227 (by decide) hw (fun hc220 hw => ?_) (fun hc220 hw => ?_)
                  · exact aw_msk [true, true, true, false, false, true, true, true, true, false, false, false, false] (h227 ad1 _ _ x5 x6 x7 y0 _ hF (by omega) (by omega) hw)
                  · exact aw_msk [true, true, true, false, false, true, true, true, true, false, false, false, false] (h223 ad1 _ _ x5 x6 x7 y0 _ hF (by omega) (by omega) hw)
          · refine aw_iload C dL_makes_188 rfl ?_
            refine aw_bipush (v := 26) C dL_makes_190 (by decide) ?_
            refine aw_ic_lt C dL_makes_192 223 (by decide) hw (fun hc192 hw => ?_) (fun hc192 hw => ?_)
            · exact aw_msk [true, true, true, false, false, true, true, true, true, false, false, false, false] (h223 ad1 _ _ x5 x6 x7 y0 _ hF (by omega) (by omega) hw)
            · refine aw_iload C dL_makes_195 rfl ?_
              refine aw_bipush (v := 29) C dL_makes_197 (by decide) ?_
              refine aw_ic_eq C dL_makes_199 223 (by decide) hw (fun hc199 hw => ?_) (fun hc199 hw => ?_)
              · exact aw_msk [true, true, true, false, false, true, true, true, true, false, false, false, false] (h223 ad1 _ _ x5 x6 x7 y0 _ hF (by omega) (by omega) hw)
              · refine aw_iload C dL_makes_202 rfl ?_
                refine aw_bipush (v := 31) C dL_makes_204 (by decide) ?_
                refine aw_ic_eq C dL_makes_206 223 (by decide) hw (fun hc206 hw => ?_) (fun hc206 hw => ?_)
                · exact aw_msk [true, true, true, false, false, true, true, true, true, false, false, false, false] (h223 ad1 _ _ x5 x6 x7 y0 _ hF (by omega) (by omega) hw)
                · refine aw_iload C dL_makes_209 rfl ?_
                  refine aw_bipush (v := 34) C dL_makes_211 (by decide) ?_
                  refine aw_ic_le C dL_makes_213 227 (by decide) hw (fun hc213 hw => ?_) (fun hc213 hw => ?_)
                  · exact aw_msk [true, true, true, false, false, true, true, true, true, false, false, false, false] (h227 ad1 _ _ x5 x6 x7 y0 _ hF (by omega) (by omega) hw)
                  · refine aw_iload C dL_makes_216 rfl ?_
                    refine aw_bipush (v := 38) C dL_makes_218 (by decide) ?_
                    refine aw_ic_ge C dL_makes_220 227 (by decide) hw (fun hc220 hw => ?_) (fun hc220 hw => ?_)
                    · exact aw_msk [true, true, true, false, false, true, true, true, true, false, false, false, false] (h227 ad1 _ _ x5 x6 x7 y0 _ hF (by omega) (by omega) hw)
                    · exact aw_msk [true, true, true, false, false, true, true, true, true, false, false, false, false] (h223 ad1 _ _ x5 x6 x7 y0 _ hF (by omega) (by omega) hw)
    · refine aw_iload C dL_makes_160 rfl ?_
      refine aw_bipush (v := 13) C dL_makes_162 (by decide) ?_
      refine aw_ic_lt C dL_makes_164 223 (by decide) hw (fun hc164 hw => ?_) (fun hc164 hw => ?_)
      · exact aw_msk [true, true, true, false, false, true, true, true, true, false, false, false, false] (h223 ad1 _ _ x5 x6 x7 y0 _ hF (by omega) (by omega) hw)
      · refine aw_iload C dL_makes_167 rfl ?_
        refine aw_bipush (v := 17) C dL_makes_169 (by decide) ?_
        refine aw_ic_eq C dL_makes_171 223 (by decide) hw (fun hc171 hw => ?_) (fun hc171 hw => ?_)
        · exact aw_msk [true, true, true, false, false, true, true, true, true, false, false, false, false] (h223 ad1 _ _ x5 x6 x7 y0 _ hF (by omega) (by omega) hw)
        · refine aw_iload C dL_makes_174 rfl ?_
          refine aw_bipush (v := 19) C dL_makes_176 (by decide) ?_
          refine aw_ic_eq C dL_makes_178 223 (by decide) hw (fun hc178 hw => ?_) (fun hc178 hw => ?_)
          · exact aw_msk [true, true, true, false, false, true, true, true, true, false, false, false, false] (h223 ad1 _ _ x5 x6 x7 y0 _ hF (by omega) (by omega) hw)
          · refine aw_iload C dL_makes_181 rfl ?_
            refine aw_bipush (v := 20) C dL_makes_183 (by decide) ?_
            refine aw_ic_le C dL_makes_185 195 (by decide) hw (fun hc185 hw => ?_) (fun hc185 hw => ?_)
            · refine aw_iload C dL_makes_195 rfl ?_
              refine aw_bipush (v := 29) C dL_makes_197 (by decide) ?_
              refine aw_ic_eq C dL_makes_199 223 (by decide) hw (fun hc199 hw => ?_) (fun hc199 hw => ?_)
              · exact aw_msk [true, true, true, false, false, true, true, true, true, false, false, false, false] (h223 ad1 _ _ x5 x6 x7 y0 _ hF (by omega) (by omega) hw)
              · refine aw_iload C dL_makes_202 rfl ?_
                refine aw_bipush (v := 31) C dL_makes_204 (by decide) ?_
                refine aw_ic_eq C dL_makes_206 223 (by decide) hw (fun hc206 hw => ?_) (fun hc206 hw => ?_)
                · exact aw_msk [true, true, true, false, false, true, true, true, true, false, false, false, false] (h223 ad1 _ _ x5 x6 x7 y0 _ hF (by omega) (by omega) hw)
                · refine aw_iload C dL_makes_209 rfl ?_
                  refine aw_bipush (v := 34) C dL_makes_211 (by decide) ?_
                  refine aw_ic_le C dL_makes_213 227 (by decide) hw (fun hc213 hw => ?_) (fun hc213 hw => ?_)
                  · exact aw_msk [true, true, true, false, false, true, true, true, true, false, false, false, false] (h227 ad1 _ _ x5 x6 x7 y0 _ hF (by omega) (by omega) hw)
                  · refine aw_iload C dL_makes_216 rfl ?_
                    refine aw_bipush (v := 38) C dL_makes_218 (by decide) ?_
                    refine aw_ic_ge C dL_makes_220 227 (by decide) hw (fun hc220 hw => ?_) (fun hc220 hw => ?_)
                    · exact aw_msk [true, true, true, false, false, true, true, true, true, false, false, false, false] (h227 ad1 _ _ x5 x6 x7 y0 _ hF (by omega) (by omega) hw)
                    · exact aw_msk [true, true, true, false, false, true, true, true, true, false, false, false, false] (h223 ad1 _ _ x5 x6 x7 y0 _ hF (by omega) (by omega) hw)
            · refine aw_iload C dL_makes_188 rfl ?_
              refine aw_bipush (v := 26) C dL_makes_190 (by decide) ?_
              refine aw_ic_lt C dL_makes_192 223 (by decide) hw (fun hc192 hw => ?_) (fun hc192 hw => ?_)
              · exact aw_msk [true, true, true, false, false, true, true, true, true, false, false, false, false] (h223 ad1 _ _ x5 x6 x7 y0 _ hF (by omega) (by omega) hw)
              · refine aw_iload C dL_makes_195 rfl ?_
                refine aw_bipush (v := 29) C dL_makes_197 (by decide) ?_
                refine aw_ic_eq C dL_makes_199 223 (by decide) hw (fun hc199 hw => ?_) (fun hc199 hw => ?_)
                · exact aw_msk [true, true, true, false, false, true, true, true, true, false, false, false, false] (h223 ad1 _ _ x5 x6 x7 y0 _ hF (by omega) (by omega) hw)
                · refine aw_iload C dL_makes_202 rfl ?_
                  refine aw_bipush (v := 31) C dL_makes_204 (by decide) ?_
                  refine aw_ic_eq C dL_makes_206 223 (by decide) hw (fun hc206 hw => ?_) (fun hc206 hw => ?_)
                  · exact aw_msk [true, true, true, false, false, true, true, true, true, false, false, false, false] (h223 ad1 _ _ x5 x6 x7 y0 _ hF (by omega) (by omega) hw)
                  · refine aw_iload C dL_makes_209 rfl ?_
                    refine aw_bipush (v := 34) C dL_makes_211 (by decide) ?_
                    refine aw_ic_le C dL_makes_213 227 (by decide) hw (fun hc213 hw => ?_) (fun hc213 hw => ?_)
                    · exact aw_msk [true, true, true, false, false, true, true, true, true, false, false, false, false] (h227 ad1 _ _ x5 x6 x7 y0 _ hF (by omega) (by omega) hw)
                    · refine aw_iload C dL_makes_216 rfl ?_
                      refine aw_bipush (v := 38) C dL_makes_218 (by decide) ?_
                      refine aw_ic_ge C dL_makes_220 227 (by decide) hw (fun hc220 hw => ?_) (fun hc220 hw => ?_)
                      · exact aw_msk [true, true, true, false, false, true, true, true, true, false, false, false, false] (h227 ad1 _ _ x5 x6 x7 y0 _ hF (by omega) (by omega) hw)
                      · exact aw_msk [true, true, true, false, false, true, true, true, true, false, false, false, false] (h223 ad1 _ _ x5 x6 x7 y0 _ hF (by omega) (by omega) hw)
  have h139 : ∀ (ad1 : Nat → Nat) (k n : Nat) (x4 : Int32) (x5 : Int32) (x6 : Int32) (x7 : Int32) (G0 : Gt), (∀ j, j < 84 → ad1 j = ad j) → k + 6 ≤ 6 → n + 36 ≤ 36 → w_L_makes_A_j139 K x4 x5 x6 x7 G0 → aw p l e { frames := 9, cells := 6, slots := 36, locals := 211 } s m args below meth c 13 D tA A (MQ below (QL D tA ad A shA (fun r s' G' => r = some (.int 1) ∧ K s' G')) args s 6 36 A) k n ad1 139 [some (.ref 0), some (.ref 46), some (.ref 47), none, some (.int x4), some (.int x5), some (.int x6), some (.int x7), none, none, none, none, none] [] shA G0 := by
    intro ad1 k n x4 x5 x6 x7 G0 hF hk hn hw
    unfold w_L_makes_A_j139 at hw
    refine aw_aloadn C dL_makes_139 rfl ?_
    refine aw_iload C dL_makes_140 rfl ?_
    refine aw_bipush (v := 11) C dL_makes_142 (by decide) ?_
    refine aw_ishr C dL_makes_144 ?_
    refine aw_callS C dL_makes_145 (t_L_part shOK_A  (x4 >>> (11 &&& 31)) _ _ hw) mM_L_98 bL_part rfl rfl ⟨Nat.le_of_ble_eq_true rfl, Nat.le_of_ble_eq_true rfl, by show _ ≤ 6; omega, by show _ ≤ 36; omega⟩ _ rfl (Nat.le_of_ble_eq_true rfl) (fun r145 G8 hq => ?_)
    obtain ⟨v7, rfl, hw⟩ := hq
    refine aw_goto (tgt := 152) C dL_makes_148 (by decide) ?_
    exact aw_msk [true, true, true, false, false, true, true, true, false, false, false, false, false] (h152 ad1 _ _ x5 x6 x7 v7 _ hF (by omega) (by omega) hw)
  have h151 : ∀ (ad1 : Nat → Nat) (k n : Nat) (x5 : Int32) (x6 : Int32) (x7 : Int32) (G0 : Gt), (∀ j, j < 84 → ad1 j = ad j) → k + 6 ≤ 6 → n + 36 ≤ 36 → w_L_makes_A_j151 K x5 x6 x7 G0 → aw p l e { frames := 9, cells := 6, slots := 36, locals := 211 } s m args below meth c 13 D tA A (MQ below (QL D tA ad A shA (fun r s' G' => r = some (.int 1) ∧ K s' G')) args s 6 36 A) k n ad1 151 [some (.ref 0), some (.ref 46), some (.ref 47), none, none, some (.int x5), some (.int x6), some (.int x7), none, none, none, none, none] [] shA G0 := by
    intro ad1 k n x5 x6 x7 G0 hF hk hn hw
    unfold w_L_makes_A_j151 at hw
    refine aw_iconst (v := (-1)) C dL_makes_151 (by decide) ?_
    exact aw_msk [true, true, true, false, false, true, true, true, false, false, false, false, false] (h152 ad1 _ _ x5 x6 x7 (-1) _ hF (by omega) (by omega) hw)
  have h93 : ∀ (ad1 : Nat → Nat) (k n : Nat) (x4 : Int32) (x5 : Int32) (x6 : Int32) (y0 : Int32) (G0 : Gt), (∀ j, j < 84 → ad1 j = ad j) → k + 6 ≤ 6 → n + 36 ≤ 36 → w_L_makes_A_j93 K x4 x5 x6 y0 G0 → aw p l e { frames := 9, cells := 6, slots := 36, locals := 211 } s m args below meth c 13 D tA A (MQ below (QL D tA ad A shA (fun r s' G' => r = some (.int 1) ∧ K s' G')) args s 6 36 A) k n ad1 93 [some (.ref 0), some (.ref 46), some (.ref 47), none, some (.int x4), some (.int x5), some (.int x6), none, none, none, none, none, none] [.int y0] shA G0 := by
    intro ad1 k n x4 x5 x6 y0 G0 hF hk hn hw
    unfold w_L_makes_A_j93 at hw
    refine aw_istore C dL_makes_93 (by decide) rfl ?_
    refine aw_iload C dL_makes_95 rfl ?_
    refine aw_bipush (v := 10) C dL_makes_97 (by decide) ?_
    refine aw_ic_eq C dL_makes_99 139 (by decide) hw (fun hc99 hw => ?_) (fun hc99 hw => ?_)
    · exact aw_msk [true, true, true, false, true, true, true, true, false, false, false, false, false] (h139 ad1 _ _ x4 x5 x6 y0 _ hF (by omega) (by omega) hw)
    · refine aw_iload C dL_makes_102 rfl ?_
      refine aw_bipush (v := 20) C dL_makes_104 (by decide) ?_
      refine aw_ic_eq C dL_makes_106 139 (by decide) hw (fun hc106 hw => ?_) (fun hc106 hw => ?_)
      · exact aw_msk [true, true, true, false, true, true, true, true, false, false, false, false, false] (h139 ad1 _ _ x4 x5 x6 y0 _ hF (by omega) (by omega) hw)
      · refine aw_iload C dL_makes_109 rfl ?_
        refine aw_bipush (v := 26) C dL_makes_111 (by decide) ?_
        refine aw_ic_eq C dL_makes_113 139 (by decide) hw (fun hc113 hw => ?_) (fun hc113 hw => ?_)
        · exact aw_msk [true, true, true, false, true, true, true, true, false, false, false, false, false] (h139 ad1 _ _ x4 x5 x6 y0 _ hF (by omega) (by omega) hw)
        · refine aw_iload C dL_makes_116 rfl ?_
          refine aw_bipush (v := 18) C dL_makes_118 (by decide) ?_
          refine aw_ic_ne C dL_makes_120 151 (by decide) hw (fun hc120 hw => ?_) (fun hc120 hw => ?_)
          · exact aw_msk [true, true, true, false, false, true, true, true, false, false, false, false, false] (h151 ad1 _ _ x5 x6 y0 _ hF (by omega) (by omega) hw)
          · refine aw_iload C dL_makes_123 rfl ?_
            refine aw_if_lt C dL_makes_125 151 (by decide) hw (fun hc125 hw => ?_) (fun hc125 hw => ?_)
            · exact aw_msk [true, true, true, false, false, true, true, true, false, false, false, false, false] (h151 ad1 _ _ x5 x6 y0 _ hF (by omega) (by omega) hw)
            · refine aw_iload C dL_makes_128 rfl ?_
              refine aw_iconst (v := 4) C dL_makes_130 (by decide) ?_
              refine aw_ishr C dL_makes_131 ?_
              refine aw_iconst (v := 3) C dL_makes_132 (by decide) ?_
              refine aw_callS C dL_makes_133 (t_L_low  (x4 >>> (4 &&& 31)) 3 _ _ hw) mM_L_93 bL_low rfl rfl ⟨Nat.le_of_ble_eq_true rfl, Nat.le_of_ble_eq_true rfl, by show _ ≤ 6; omega, by show _ ≤ 36; omega⟩ _ rfl (Nat.le_of_ble_eq_true rfl) (fun r133 G30 hq => ?_)
              obtain ⟨v29, rfl, hw⟩ := hq
              refine aw_if_ne C dL_makes_136 151 (by decide) hw (fun hc136 hw => ?_) (fun hc136 hw => ?_)
              · exact aw_msk [true, true, true, false, false, true, true, true, false, false, false, false, false] (h151 ad1 _ _ x5 x6 y0 _ hF (by omega) (by omega) hw)
              · exact aw_msk [true, true, true, false, true, true, true, true, false, false, false, false, false] (h139 ad1 _ _ x4 x5 x6 y0 _ hF (by omega) (by omega) hw)
  have h81 : ∀ (ad1 : Nat → Nat) (k n : Nat) (x4 : Int32) (x5 : Int32) (x6 : Int32) (G0 : Gt), (∀ j, j < 84 → ad1 j = ad j) → k + 6 ≤ 6 → n + 36 ≤ 36 → w_L_makes_A_j81 K x4 x5 x6 G0 → aw p l e { frames := 9, cells := 6, slots := 36, locals := 211 } s m args below meth c 13 D tA A (MQ below (QL D tA ad A shA (fun r s' G' => r = some (.int 1) ∧ K s' G')) args s 6 36 A) k n ad1 81 [some (.ref 0), some (.ref 46), some (.ref 47), none, some (.int x4), some (.int x5), some (.int x6), none, none, none, none, none, none] [] shA G0 := by
    intro ad1 k n x4 x5 x6 G0 hF hk hn hw
    unfold w_L_makes_A_j81 at hw
    refine aw_aloadn C dL_makes_81 rfl ?_
    refine aw_iload C dL_makes_82 rfl ?_
    refine aw_iconst (v := 5) C dL_makes_84 (by decide) ?_
    refine aw_ishr C dL_makes_85 ?_
    refine aw_callS C dL_makes_86 (t_L_part shOK_A  (x4 >>> (5 &&& 31)) _ _ hw) mM_L_98 bL_part rfl rfl ⟨Nat.le_of_ble_eq_true rfl, Nat.le_of_ble_eq_true rfl, by show _ ≤ 6; omega, by show _ ≤ 36; omega⟩ _ rfl (Nat.le_of_ble_eq_true rfl) (fun r86 G6 hq => ?_)
    obtain ⟨v5, rfl, hw⟩ := hq
    refine aw_goto (tgt := 93) C dL_makes_89 (by decide) ?_
    exact aw_msk [true, true, true, false, true, true, true, false, false, false, false, false, false] (h93 ad1 _ _ x4 x5 x6 v5 _ hF (by omega) (by omega) hw)
  have h92 : ∀ (ad1 : Nat → Nat) (k n : Nat) (x4 : Int32) (x5 : Int32) (x6 : Int32) (G0 : Gt), (∀ j, j < 84 → ad1 j = ad j) → k + 6 ≤ 6 → n + 36 ≤ 36 → w_L_makes_A_j92 K x4 x5 x6 G0 → aw p l e { frames := 9, cells := 6, slots := 36, locals := 211 } s m args below meth c 13 D tA A (MQ below (QL D tA ad A shA (fun r s' G' => r = some (.int 1) ∧ K s' G')) args s 6 36 A) k n ad1 92 [some (.ref 0), some (.ref 46), some (.ref 47), none, some (.int x4), some (.int x5), some (.int x6), none, none, none, none, none, none] [] shA G0 := by
    intro ad1 k n x4 x5 x6 G0 hF hk hn hw
    unfold w_L_makes_A_j92 at hw
    refine aw_iconst (v := (-1)) C dL_makes_92 (by decide) ?_
    exact aw_msk [true, true, true, false, true, true, true, false, false, false, false, false, false] (h93 ad1 _ _ x4 x5 x6 (-1) _ hF (by omega) (by omega) hw)
  have h43 : ∀ (ad1 : Nat → Nat) (k n : Nat) (x4 : Int32) (y0 : Int32) (G0 : Gt), (∀ j, j < 84 → ad1 j = ad j) → k + 6 ≤ 6 → n + 36 ≤ 36 → w_L_makes_A_j43 K x4 y0 G0 → aw p l e { frames := 9, cells := 6, slots := 36, locals := 211 } s m args below meth c 13 D tA A (MQ below (QL D tA ad A shA (fun r s' G' => r = some (.int 1) ∧ K s' G')) args s 6 36 A) k n ad1 43 [some (.ref 0), some (.ref 46), some (.ref 47), none, some (.int x4), none, none, none, none, none, none, none, none] [.int y0] shA G0 := by
    intro ad1 k n x4 y0 G0 hF hk hn hw
    unfold w_L_makes_A_j43 at hw
    refine aw_istore C dL_makes_43 (by decide) rfl ?_
    refine aw_iload C dL_makes_45 rfl ?_
    refine aw_aloadn C dL_makes_47 rfl ?_
    refine aw_iload C dL_makes_48 rfl ?_
    refine aw_callS C dL_makes_50 (t_L_firstOf shOK_A  y0 x4 _ _ hw) mM_L_102 bL_firstOf rfl rfl ⟨Nat.le_of_ble_eq_true rfl, Nat.le_of_ble_eq_true rfl, by show _ ≤ 6; omega, by show _ ≤ 36; omega⟩ _ rfl (Nat.le_of_ble_eq_true rfl) (fun r50 G2 hq => ?_)
    obtain ⟨v1, rfl, hw⟩ := hq
    refine aw_istore C dL_makes_53 (by decide) rfl ?_
    refine aw_iload C dL_makes_55 rfl ?_
    refine aw_callS C dL_makes_57 (t_L_hasSecond  y0 _ _ hw) mM_L_106 bL_hasSecond rfl rfl ⟨Nat.le_of_ble_eq_true rfl, Nat.le_of_ble_eq_true rfl, by show _ ≤ 6; omega, by show _ ≤ 36; omega⟩ _ rfl (Nat.le_of_ble_eq_true rfl) (fun r57 G4 hq => ?_)
    obtain ⟨v3, rfl, hw⟩ := hq
    refine aw_if_ne C dL_makes_60 81 (by decide) hw (fun hc60 hw => ?_) (fun hc60 hw => ?_)
    · exact aw_msk [true, true, true, false, true, true, true, false, false, false, false, false, false] (h81 ad1 _ _ x4 y0 v1 _ hF (by omega) (by omega) hw)
    · refine aw_iload C dL_makes_63 rfl ?_
      refine aw_bipush (v := 18) C dL_makes_65 (by decide) ?_
      refine aw_ic_ne C dL_makes_67 92 (by decide) hw (fun hc67 hw => ?_) (fun hc67 hw => ?_)
      · exact aw_msk [true, true, true, false, true, true, true, false, false, false, false, false, false] (h92 ad1 _ _ x4 y0 v1 _ hF (by omega) (by omega) hw)
      · refine aw_iload C dL_makes_70 rfl ?_
        refine aw_iconst (v := 3) C dL_makes_72 (by decide) ?_
        refine aw_ishr C dL_makes_73 ?_
        refine aw_iconst (v := 3) C dL_makes_74 (by decide) ?_
        refine aw_callS C dL_makes_75 (t_L_low  (x4 >>> (3 &&& 31)) 3 _ _ hw) mM_L_93 bL_low rfl rfl ⟨Nat.le_of_ble_eq_true rfl, Nat.le_of_ble_eq_true rfl, by show _ ≤ 6; omega, by show _ ≤ 36; omega⟩ _ rfl (Nat.le_of_ble_eq_true rfl) (fun r75 G32 hq => ?_)
        obtain ⟨v31, rfl, hw⟩ := hq
        refine aw_if_le C dL_makes_78 92 (by decide) hw (fun hc78 hw => ?_) (fun hc78 hw => ?_)
        · exact aw_msk [true, true, true, false, true, true, true, false, false, false, false, false, false] (h92 ad1 _ _ x4 y0 v1 _ hF (by omega) (by omega) hw)
        · exact aw_msk [true, true, true, false, true, true, true, false, false, false, false, false, false] (h81 ad1 _ _ x4 y0 v1 _ hF (by omega) (by omega) hw)
  have h35 : ∀ (ad1 : Nat → Nat) (k n : Nat) (x3 : Int32) (x4 : Int32) (G0 : Gt), (∀ j, j < 84 → ad1 j = ad j) → k + 6 ≤ 6 → n + 36 ≤ 36 → w_L_makes_A_j35 K x3 x4 G0 → aw p l e { frames := 9, cells := 6, slots := 36, locals := 211 } s m args below meth c 13 D tA A (MQ below (QL D tA ad A shA (fun r s' G' => r = some (.int 1) ∧ K s' G')) args s 6 36 A) k n ad1 35 [some (.ref 0), some (.ref 46), some (.ref 47), some (.int x3), some (.int x4), none, none, none, none, none, none, none, none] [] shA G0 := by
    intro ad1 k n x3 x4 G0 hF hk hn hw
    unfold w_L_makes_A_j35 at hw
    refine aw_iloadn C dL_makes_35 rfl ?_
    refine aw_iconst (v := 4) C dL_makes_36 (by decide) ?_
    refine aw_ishr C dL_makes_37 ?_
    refine aw_bipush (v := 40) C dL_makes_38 (by decide) ?_
    refine aw_callS C dL_makes_40 (t_L_low  (x3 >>> (4 &&& 31)) 40 _ _ hw) mM_L_93 bL_low rfl rfl ⟨Nat.le_of_ble_eq_true rfl, Nat.le_of_ble_eq_true rfl, by show _ ≤ 6; omega, by show _ ≤ 36; omega⟩ _ rfl (Nat.le_of_ble_eq_true rfl) (fun r40 G38 hq => ?_)
    obtain ⟨v37, rfl, hw⟩ := hq
    exact aw_msk [true, true, true, false, true, false, false, false, false, false, false, false, false] (h43 ad1 _ _ x4 v37 _ hF (by omega) (by omega) hw)
  have h20 : ∀ (ad1 : Nat → Nat) (k n : Nat) (x3 : Int32) (x4 : Int32) (G0 : Gt), (∀ j, j < 84 → ad1 j = ad j) → k + 6 ≤ 6 → n + 36 ≤ 36 → w_L_makes_A_j20 K x3 x4 G0 → aw p l e { frames := 9, cells := 6, slots := 36, locals := 211 } s m args below meth c 13 D tA A (MQ below (QL D tA ad A shA (fun r s' G' => r = some (.int 1) ∧ K s' G')) args s 6 36 A) k n ad1 20 [some (.ref 0), some (.ref 46), some (.ref 47), some (.int x3), some (.int x4), none, none, none, none, none, none, none, none] [] shA G0 := by
    intro ad1 k n x3 x4 G0 hF hk hn hw
    unfold w_L_makes_A_j20 at hw
    refine aw_iloadn C dL_makes_20 rfl ?_
    refine aw_bipush (v := 9) C dL_makes_21 (by decide) ?_
    refine aw_callS C dL_makes_23 (t_L_low  x3 9 _ _ hw) mM_L_93 bL_low rfl rfl ⟨Nat.le_of_ble_eq_true rfl, Nat.le_of_ble_eq_true rfl, by show _ ≤ 6; omega, by show _ ≤ 36; omega⟩ _ rfl (Nat.le_of_ble_eq_true rfl) (fun r23 G36 hq => ?_)
    obtain ⟨v35, rfl, hw⟩ := hq
    refine aw_iconst (v := 2) C dL_makes_26 (by decide) ?_
    refine aw_ic_ne C dL_makes_27 35 (by decide) hw (fun hc27 hw => ?_) (fun hc27 hw => ?_)
    · exact aw_msk [true, true, true, true, true, false, false, false, false, false, false, false, false] (h35 ad1 _ _ x3 x4 _ hF (by omega) (by omega) hw)
    · refine aw_bipush (v := 29) C dL_makes_30 (by decide) ?_
      refine aw_goto (tgt := 43) C dL_makes_32 (by decide) ?_
      exact aw_msk [true, true, true, false, true, false, false, false, false, false, false, false, false] (h43 ad1 _ _ x4 29 _ hF (by omega) (by omega) hw)
  unfold w_L_makes_A at hw
  show aw p l e { frames := 9, cells := 6, slots := 36, locals := 211 } s m args below meth c 13 D tA A (MQ below (QL D tA ad A shA (fun r s' G' => r = some (.int 1) ∧ K s' G')) args s 6 36 A) 0 0 ad 0 [some (.ref 0), some (.ref 46), some (.ref 47), some (.int p3), some (.int p4), none, none, none, none, none, none, none, none] [] shA G0
  refine aw_aloadn C dL_makes_0 rfl ?_
  refine aw_iconst (v := 0) C dL_makes_1 (by decide) ?_
  refine aw_iald C dL_makes_2 (sA_47 shOK_A) hw.1 ?_
  replace hw := hw.2
  refine aw_if_eq C dL_makes_3 16 (by decide) hw (fun hc3 hw => ?_) (fun hc3 hw => ?_)
  · refine aw_iconst (v := 0) C dL_makes_16 (by decide) ?_
    refine aw_goto (tgt := 43) C dL_makes_17 (by decide) ?_
    exact aw_msk [true, true, true, false, true, false, false, false, false, false, false, false, false] (h43 ad _ _ p4 0 _ hF0 (by omega) (by omega) hw)
  · refine aw_iloadn C dL_makes_6 rfl ?_
    refine aw_bipush (v := 9) C dL_makes_7 (by decide) ?_
    refine aw_callS C dL_makes_9 (t_L_low  p3 9 _ _ hw) mM_L_93 bL_low rfl rfl ⟨Nat.le_of_ble_eq_true rfl, Nat.le_of_ble_eq_true rfl, by show _ ≤ 6; omega, by show _ ≤ 36; omega⟩ _ rfl (Nat.le_of_ble_eq_true rfl) (fun r9 G34 hq => ?_)
    obtain ⟨v33, rfl, hw⟩ := hq
    refine aw_iconst (v := 2) C dL_makes_12 (by decide) ?_
    refine aw_ic_ge C dL_makes_13 20 (by decide) hw (fun hc13 hw => ?_) (fun hc13 hw => ?_)
    · exact aw_msk [true, true, true, true, true, false, false, false, false, false, false, false, false] (h20 ad _ _ p3 p4 _ hF0 (by omega) (by omega) hw)
    · refine aw_iconst (v := 0) C dL_makes_16 (by decide) ?_
      refine aw_goto (tgt := 43) C dL_makes_17 (by decide) ?_
      exact aw_msk [true, true, true, false, true, false, false, false, false, false, false, false, false] (h43 ad _ _ p4 0 _ hF0 (by omega) (by omega) hw)
def w_L_makes_B_j371 (K : Sh → Gt → Prop) (G0 : Gt) : Prop :=
  vp_in 0 7 ∧
  w_L_size_B (fun v14 s1 G13 => s1 = shB ∧
    pif (v14 = (-1000001)) (
      w_L_node_B (fun v17 s1 G16 => s1 = shB ∧
        pif (v17 = (-1000002)) (
          vp_in 0 7 ∧
          w_L_node_B (fun v20 s1 G19 => s1 = shB ∧
            pif (v20 = (-1000001)) (
              w_L_node_B (fun v23 s1 G22 => s1 = shB ∧
                pif (v23 = (-1000002)) (
                  K shB G22) (
                  False)) 1 8 (-1) (-1) G19) (
              False)) 4 (G16 47 (0 : Int32).toNatClampNeg) 0 (-1) G16) (
          False)) 40 0 0 0 G13) (
      False)) (G0 47 (0 : Int32).toNatClampNeg) G0
def w_L_makes_B_j352 (K : Sh → Gt → Prop) (x10 : Int32) (x11 : Int32) (x12 : Int32) (y0 : Int32) (y1 : Int32) (G0 : Gt) : Prop :=
  pif (y0 = y1) (
    pif (x11 = 0) (
      w_L_makes_B_j371 K G0) (
      w_L_size_B (fun v26 s1 G25 => s1 = shB ∧
        pif (v26 = x10) (
          w_L_makes_B_j371 K G25) (
          False)) x12 G0)) (
    False)
def w_L_makes_B_j350 (K : Sh → Gt → Prop) (x10 : Int32) (x11 : Int32) (x12 : Int32) (y0 : Int32) (G0 : Gt) : Prop :=
  w_L_makes_B_j352 K x10 x11 x12 y0 (-1000003) G0
def w_L_makes_B_j335 (K : Sh → Gt → Prop) (x10 : Int32) (x11 : Int32) (x12 : Int32) (G0 : Gt) : Prop :=
  pif (x11 = 0) (
    w_L_makes_B_j350 K x10 x11 x12 x12 G0) (
    vp_in 0 7 ∧
    w_L_makes_B_j352 K x10 x11 x12 x12 ((G0 47 (0 : Int32).toNatClampNeg) - 1) G0)
def w_L_makes_B_j300 (K : Sh → Gt → Prop) (x5 : Int32) (x6 : Int32) (x7 : Int32) (x8 : Int32) (x10 : Int32) (y0 : Int32) (G0 : Gt) : Prop :=
  w_L_node_B (fun v11 s1 G10 => s1 = shB ∧
    pif (y0 = 0) (
      w_L_makes_B_j335 K x10 y0 v11 G10) (
      vp_in 0 7 ∧
      vp_in (G10 47 (0 : Int32).toNatClampNeg) 60 ∧
      pt (gu G10 46 ((G10 47 (0 : Int32).toNatClampNeg) : Int32).toNatClampNeg x10) fun G27 =>
      vp_in 0 7 ∧
      vp_in 0 7 ∧
      pt (gu G27 47 (0 : Int32).toNatClampNeg ((G27 47 (0 : Int32).toNatClampNeg) + 1)) fun G28 =>
      w_L_makes_B_j335 K x10 y0 v11 G28)) x5 x6 x7 x8 G0
def w_L_makes_B_j299 (K : Sh → Gt → Prop) (x5 : Int32) (x6 : Int32) (x7 : Int32) (x8 : Int32) (x10 : Int32) (G0 : Gt) : Prop :=
  w_L_makes_B_j300 K x5 x6 x7 x8 x10 0 G0
def w_L_makes_B_j284 (K : Sh → Gt → Prop) (x5 : Int32) (x6 : Int32) (x7 : Int32) (x8 : Int32) (y0 : Int32) (y1 : Int32) (G0 : Gt) : Prop :=
  pif (150 < (y0 + y1)) (
    w_L_makes_B_j299 K x5 x6 x7 x8 (y0 + y1) G0) (
    w_L_makes_B_j300 K x5 x6 x7 x8 (y0 + y1) 1 G0)
def w_L_makes_B_j283 (K : Sh → Gt → Prop) (x5 : Int32) (x6 : Int32) (x7 : Int32) (x8 : Int32) (y0 : Int32) (G0 : Gt) : Prop :=
  w_L_makes_B_j284 K x5 x6 x7 x8 y0 0 G0
def w_L_makes_B_j270 (K : Sh → Gt → Prop) (x5 : Int32) (x6 : Int32) (x7 : Int32) (x8 : Int32) (y0 : Int32) (y1 : Int32) (G0 : Gt) : Prop :=
  pif (x8 < 0) (
    w_L_makes_B_j283 K x5 x6 x7 x8 (y0 + y1) G0) (
    vp_in x8 60 ∧
    w_L_makes_B_j284 K x5 x6 x7 x8 (y0 + y1) (G0 46 (x8 : Int32).toNatClampNeg) G0)
def w_L_makes_B_j269 (K : Sh → Gt → Prop) (x5 : Int32) (x6 : Int32) (x7 : Int32) (x8 : Int32) (y0 : Int32) (G0 : Gt) : Prop :=
  w_L_makes_B_j270 K x5 x6 x7 x8 y0 0 G0
def w_L_makes_B_j249 (K : Sh → Gt → Prop) (x5 : Int32) (x6 : Int32) (x7 : Int32) (x8 : Int32) (y0 : Int32) (y1 : Int32) (G0 : Gt) : Prop :=
  pif (x7 < 0) (
    w_L_makes_B_j269 K x5 x6 x7 x8 (y0 + y1) G0) (
    pif (x5 = 38) (
      w_L_makes_B_j269 K x5 x6 x7 x8 (y0 + y1) G0) (
      vp_in x7 60 ∧
      w_L_makes_B_j270 K x5 x6 x7 x8 (y0 + y1) (G0 46 (x7 : Int32).toNatClampNeg) G0))
def w_L_makes_B_j248 (K : Sh → Gt → Prop) (x5 : Int32) (x6 : Int32) (x7 : Int32) (x8 : Int32) (y0 : Int32) (G0 : Gt) : Prop :=
  w_L_makes_B_j249 K x5 x6 x7 x8 y0 0 G0
def w_L_makes_B_j228 (K : Sh → Gt → Prop) (x5 : Int32) (x6 : Int32) (x7 : Int32) (x8 : Int32) (y0 : Int32) (G0 : Gt) : Prop :=
  pif (y0 = 0) (
    w_L_makes_B_j248 K x5 x6 x7 x8 1 G0) (
    pif (x6 < 0) (
      w_L_makes_B_j248 K x5 x6 x7 x8 1 G0) (
      vp_in x6 60 ∧
      w_L_makes_B_j249 K x5 x6 x7 x8 1 (G0 46 (x6 : Int32).toNatClampNeg) G0))
def w_L_makes_B_j223 (K : Sh → Gt → Prop) (x5 : Int32) (x6 : Int32) (x7 : Int32) (x8 : Int32) (G0 : Gt) : Prop :=
  w_L_makes_B_j228 K x5 x6 x7 x8 1 G0
def w_L_makes_B_j227 (K : Sh → Gt → Prop) (x5 : Int32) (x6 : Int32) (x7 : Int32) (x8 : Int32) (G0 : Gt) : Prop :=
  w_L_makes_B_j228 K x5 x6 x7 x8 0 G0
def w_L_makes_B_j152 (K : Sh → Gt → Prop) (x5 : Int32) (x6 : Int32) (x7 : Int32) (y0 : Int32) (G0 : Gt) : Prop :=
  pif (x5 ≤ 3) (
    pif (x5 = 17) (
      w_L_makes_B_j223 K x5 x6 x7 y0 G0) (
      pif (x5 = 19) (
        w_L_makes_B_j223 K x5 x6 x7 y0 G0) (
        pif (x5 ≤ 20) (
          pif (x5 = 29) (
            w_L_makes_B_j223 K x5 x6 x7 y0 G0) (
            pif (x5 = 31) (
              w_L_makes_B_j223 K x5 x6 x7 y0 G0) (
              pif (x5 ≤ 34) (
                w_L_makes_B_j227 K x5 x6 x7 y0 G0) (
                pif (38 ≤ x5) (
                  w_L_makes_B_j227 K x5 x6 x7 y0 G0) (
                  w_L_makes_B_j223 K x5 x6 x7 y0 G0))))) (
          pif (x5 < 26) (
            w_L_makes_B_j223 K x5 x6 x7 y0 G0) (
            pif (x5 = 29) (
              w_L_makes_B_j223 K x5 x6 x7 y0 G0) (
              pif (x5 = 31) (
                w_L_makes_B_j223 K x5 x6 x7 y0 G0) (
                pif (x5 ≤ 34) (
                  w_L_makes_B_j227 K x5 x6 x7 y0 G0) (
                  pif (38 ≤ x5) (
                    w_L_makes_B_j227 K x5 x6 x7 y0 G0) (
                    w_L_makes_B_j223 K x5 x6 x7 y0 G0))))))))) (
    pif (x5 < 13) (
      w_L_makes_B_j223 K x5 x6 x7 y0 G0) (
      pif (x5 = 17) (
        w_L_makes_B_j223 K x5 x6 x7 y0 G0) (
        pif (x5 = 19) (
          w_L_makes_B_j223 K x5 x6 x7 y0 G0) (
          pif (x5 ≤ 20) (
            pif (x5 = 29) (
              w_L_makes_B_j223 K x5 x6 x7 y0 G0) (
              pif (x5 = 31) (
                w_L_makes_B_j223 K x5 x6 x7 y0 G0) (
                pif (x5 ≤ 34) (
                  w_L_makes_B_j227 K x5 x6 x7 y0 G0) (
                  pif (38 ≤ x5) (
                    w_L_makes_B_j227 K x5 x6 x7 y0 G0) (
                    w_L_makes_B_j223 K x5 x6 x7 y0 G0))))) (
            pif (x5 < 26) (
              w_L_makes_B_j223 K x5 x6 x7 y0 G0) (
              pif (x5 = 29) (
                w_L_makes_B_j223 K x5 x6 x7 y0 G0) (
                pif (x5 = 31) (
                  w_L_makes_B_j223 K x5 x6 x7 y0 G0) (
                  pif (x5 ≤ 34) (
                    w_L_makes_B_j227 K x5 x6 x7 y0 G0) (
                    pif (38 ≤ x5) (
                      w_L_makes_B_j227 K x5 x6 x7 y0 G0) (
                      w_L_makes_B_j223 K x5 x6 x7 y0 G0))))))))))
def w_L_makes_B_j139 (K : Sh → Gt → Prop) (x4 : Int32) (x5 : Int32) (x6 : Int32) (x7 : Int32) (G0 : Gt) : Prop :=
  w_L_part (fun v7 G8 =>
    w_L_makes_B_j152 K x5 x6 x7 v7 G8) (x4 >>> (11 &&& 31)) G0
def w_L_makes_B_j151 (K : Sh → Gt → Prop) (x5 : Int32) (x6 : Int32) (x7 : Int32) (G0 : Gt) : Prop :=
  w_L_makes_B_j152 K x5 x6 x7 (-1) G0
def w_L_makes_B_j93 (K : Sh → Gt → Prop) (x4 : Int32) (x5 : Int32) (x6 : Int32) (y0 : Int32) (G0 : Gt) : Prop :=
  pif (x5 = 10) (
    w_L_makes_B_j139 K x4 x5 x6 y0 G0) (
    pif (x5 = 20) (
      w_L_makes_B_j139 K x4 x5 x6 y0 G0) (
      pif (x5 = 26) (
        w_L_makes_B_j139 K x4 x5 x6 y0 G0) (
        pif (x5 = 18) (
          pif (y0 < 0) (
            w_L_makes_B_j151 K x5 x6 y0 G0) (
            w_L_low (fun v29 G30 =>
              pif (v29 = 0) (
                w_L_makes_B_j139 K x4 x5 x6 y0 G30) (
                w_L_makes_B_j151 K x5 x6 y0 G30)) (x4 >>> (4 &&& 31)) 3 G0)) (
          w_L_makes_B_j151 K x5 x6 y0 G0))))
def w_L_makes_B_j81 (K : Sh → Gt → Prop) (x4 : Int32) (x5 : Int32) (x6 : Int32) (G0 : Gt) : Prop :=
  w_L_part (fun v5 G6 =>
    w_L_makes_B_j93 K x4 x5 x6 v5 G6) (x4 >>> (5 &&& 31)) G0
def w_L_makes_B_j92 (K : Sh → Gt → Prop) (x4 : Int32) (x5 : Int32) (x6 : Int32) (G0 : Gt) : Prop :=
  w_L_makes_B_j93 K x4 x5 x6 (-1) G0
def w_L_makes_B_j43 (K : Sh → Gt → Prop) (x4 : Int32) (y0 : Int32) (G0 : Gt) : Prop :=
  w_L_firstOf (fun v1 G2 =>
    w_L_hasSecond (fun v3 G4 =>
      pif (v3 = 0) (
        pif (y0 = 18) (
          w_L_low (fun v31 G32 =>
            pif (v31 ≤ 0) (
              w_L_makes_B_j92 K x4 y0 v1 G32) (
              w_L_makes_B_j81 K x4 y0 v1 G32)) (x4 >>> (3 &&& 31)) 3 G4) (
          w_L_makes_B_j92 K x4 y0 v1 G4)) (
        w_L_makes_B_j81 K x4 y0 v1 G4)) y0 G2) y0 x4 G0
def w_L_makes_B_j35 (K : Sh → Gt → Prop) (x3 : Int32) (x4 : Int32) (G0 : Gt) : Prop :=
  w_L_low (fun v37 G38 =>
    w_L_makes_B_j43 K x4 v37 G38) (x3 >>> (4 &&& 31)) 40 G0
def w_L_makes_B_j20 (K : Sh → Gt → Prop) (x3 : Int32) (x4 : Int32) (G0 : Gt) : Prop :=
  w_L_low (fun v35 G36 =>
    pif (v35 = 2) (
      w_L_makes_B_j43 K x4 29 G36) (
      w_L_makes_B_j35 K x3 x4 G36)) x3 9 G0
def w_L_makes_B (K : Sh → Gt → Prop) (p3 : Int32) (p4 : Int32) (G0 : Gt) : Prop :=
  vp_in 0 7 ∧
  pif ((G0 47 (0 : Int32).toNatClampNeg) = 0) (
    w_L_makes_B_j43 K p4 0 G0) (
    w_L_low (fun v33 G34 =>
      pif (2 ≤ v33) (
        w_L_makes_B_j20 K p3 p4 G34) (
        w_L_makes_B_j43 K p4 0 G34)) p3 9 G0)
set_option maxHeartbeats 4000000 in
set_option maxRecDepth 100000 in
theorem t_L_makes_B {l : Launch} (hlf : l.stackTraces = false) (p3 : Int32) (p4 : Int32) (G0 : Gt) (K : Sh → Gt → Prop) (hw : w_L_makes_B K p3 p4 G0) : CV l yL_makes cL_makes 13 (some .boolean) 9 211 6 36 [.ref 0, .ref 46, .ref 47, .int p3, .int p4] shB G0 (fun r s' G' => r = some (.int 1) ∧ K s' G') := by
  refine CV_of (by decide) (Nat.le_of_ble_eq_true rfl) rfl ?_
  intro p e s m args below meth c D tA ad A C hr
  have hF0 : ∀ j, j < 145 → ad j = ad j := fun _ _ => rfl
  have h371 : ∀ (ad1 : Nat → Nat) (k n : Nat) (G0 : Gt), (∀ j, j < 145 → ad1 j = ad j) → k + 4 ≤ 6 → n + 24 ≤ 36 → w_L_makes_B_j371 K  G0 → aw p l e { frames := 9, cells := 6, slots := 36, locals := 211 } s m args below meth c 13 D tA A (MQ below (QL D tA ad A shB (fun r s' G' => r = some (.int 1) ∧ K s' G')) args s 6 36 A) k n ad1 371 [some (.ref 0), none, some (.ref 47), none, none, none, none, none, none, none, none, none, none] [] shB G0 := by
    intro ad1 k n  G0 hF hk hn hw
    unfold w_L_makes_B_j371 at hw
    refine aw_aloadn C dL_makes_371 rfl ?_
    refine aw_aloadn C dL_makes_372 rfl ?_
    refine aw_iconst (v := 0) C dL_makes_373 (by decide) ?_
    refine aw_iald C dL_makes_374 (sA_47 shOK_B) hw.1 ?_
    replace hw := hw.2
    refine aw_runQ (mc := 1) (ms := 6) (rest := []) C (run_W (na := 2) C dL_makes_375 (t_L_size_B hlf (G0 47 (0 : Int32).toNatClampNeg) _ _ hw) mM_L_113 mW_size mT_size mI_L (by decide +kernel) rfl ⟨Nat.le_of_ble_eq_true rfl, Nat.le_of_ble_eq_true rfl, by show _ ≤ 6; omega, by show _ ≤ 36; omega⟩ [] rfl (Nat.le_of_ble_eq_true rfl)) ⟨by decide, by decide, trivial⟩ trivial (fun r375 ad_12 s375 G13 hEad_12 hq => ?_)
    obtain ⟨v14, rfl, rfl, hw⟩ := hq
    have hFad_12 : (∀ j, j < 145 → ad_12 j = ad j) := fun j hj => (hEad_12 j (ltBB hj)).trans (hF j hj)
    refine aw_ldc (v := (-1000001)) C dL_makes_378 mK_L_18 ?_
    refine aw_ic_ne C dL_makes_380 430 (by decide) hw (fun hc380 hw => ?_) (fun hc380 hw => ?_)
    · exact hw.elim
    · refine aw_aloadn C dL_makes_383 rfl ?_
      refine aw_bipush (v := 40) C dL_makes_384 (by decide) ?_
      refine aw_iconst (v := 0) C dL_makes_386 (by decide) ?_
      refine aw_iconst (v := 0) C dL_makes_387 (by decide) ?_
      refine aw_iconst (v := 0) C dL_makes_388 (by decide) ?_
      refine aw_runQ (mc := 1) (ms := 6) (rest := []) C (run_W (na := 5) C dL_makes_389 (t_L_node_B hlf 40 0 0 0 _ _ hw) mM_L_110 mW_node mT_node mI_L (by decide +kernel) rfl ⟨Nat.le_of_ble_eq_true rfl, Nat.le_of_ble_eq_true rfl, by show _ ≤ 6; omega, by show _ ≤ 36; omega⟩ [] rfl (Nat.le_of_ble_eq_true rfl)) ⟨by decide, by decide, trivial⟩ trivial (fun r389 ad_15 s389 G16 hEad_15 hq => ?_)
      obtain ⟨v17, rfl, rfl, hw⟩ := hq
      have hFad_15 : (∀ j, j < 145 → ad_15 j = ad j) := fun j hj => (hEad_15 j (ltBB hj)).trans (hFad_12 j hj)
      refine aw_ldc (v := (-1000002)) C dL_makes_392 mK_L_21 ?_
      refine aw_ic_ne C dL_makes_394 430 (by decide) hw (fun hc394 hw => ?_) (fun hc394 hw => ?_)
      · exact hw.elim
      · refine aw_aloadn C dL_makes_397 rfl ?_
        refine aw_iconst (v := 4) C dL_makes_398 (by decide) ?_
        refine aw_aloadn C dL_makes_399 rfl ?_
        refine aw_iconst (v := 0) C dL_makes_400 (by decide) ?_
        refine aw_iald C dL_makes_401 (sA_47 shOK_B) hw.1 ?_
        replace hw := hw.2
        refine aw_iconst (v := 0) C dL_makes_402 (by decide) ?_
        refine aw_iconst (v := (-1)) C dL_makes_403 (by decide) ?_
        refine aw_runQ (mc := 1) (ms := 6) (rest := []) C (run_W (na := 5) C dL_makes_404 (t_L_node_B hlf 4 (G16 47 (0 : Int32).toNatClampNeg) 0 (-1) _ _ hw) mM_L_110 mW_node mT_node mI_L (by decide +kernel) rfl ⟨Nat.le_of_ble_eq_true rfl, Nat.le_of_ble_eq_true rfl, by show _ ≤ 6; omega, by show _ ≤ 36; omega⟩ [] rfl (Nat.le_of_ble_eq_true rfl)) ⟨by decide, by decide, trivial⟩ trivial (fun r404 ad_18 s404 G19 hEad_18 hq => ?_)
        obtain ⟨v20, rfl, rfl, hw⟩ := hq
        have hFad_18 : (∀ j, j < 145 → ad_18 j = ad j) := fun j hj => (hEad_18 j (ltBB hj)).trans (hFad_15 j hj)
        refine aw_ldc (v := (-1000001)) C dL_makes_407 mK_L_18 ?_
        refine aw_ic_ne C dL_makes_409 430 (by decide) hw (fun hc409 hw => ?_) (fun hc409 hw => ?_)
        · exact hw.elim
        · refine aw_aloadn C dL_makes_412 rfl ?_
          refine aw_iconst (v := 1) C dL_makes_413 (by decide) ?_
          refine aw_bipush (v := 8) C dL_makes_414 (by decide) ?_
          refine aw_iconst (v := (-1)) C dL_makes_416 (by decide) ?_
          refine aw_iconst (v := (-1)) C dL_makes_417 (by decide) ?_
          refine aw_runQ (mc := 1) (ms := 6) (rest := []) C (run_W (na := 5) C dL_makes_418 (t_L_node_B hlf 1 8 (-1) (-1) _ _ hw) mM_L_110 mW_node mT_node mI_L (by decide +kernel) rfl ⟨Nat.le_of_ble_eq_true rfl, Nat.le_of_ble_eq_true rfl, by show _ ≤ 6; omega, by show _ ≤ 36; omega⟩ [] rfl (Nat.le_of_ble_eq_true rfl)) ⟨by decide, by decide, trivial⟩ trivial (fun r418 ad_21 s418 G22 hEad_21 hq => ?_)
          obtain ⟨v23, rfl, rfl, hw⟩ := hq
          have hFad_21 : (∀ j, j < 145 → ad_21 j = ad j) := fun j hj => (hEad_21 j (ltBB hj)).trans (hFad_18 j hj)
          refine aw_ldc (v := (-1000002)) C dL_makes_421 mK_L_21 ?_
          refine aw_ic_ne C dL_makes_423 430 (by decide) hw (fun hc423 hw => ?_) (fun hc423 hw => ?_)
          · exact hw.elim
          · refine aw_iconst (v := 1) C dL_makes_426 (by decide) ?_
            refine aw_goto (tgt := 431) C dL_makes_427 (by decide) ?_
            exact aw_lzreturn C hr dL_makes_431 rfl (by omega) (by omega) (fun j hj => hFad_21 j (ltB_ hj)) ⟨rfl, hw⟩
  have h352 : ∀ (ad1 : Nat → Nat) (k n : Nat) (x10 : Int32) (x11 : Int32) (x12 : Int32) (y0 : Int32) (y1 : Int32) (G0 : Gt), (∀ j, j < 145 → ad1 j = ad j) → k + 5 ≤ 6 → n + 30 ≤ 36 → w_L_makes_B_j352 K x10 x11 x12 y0 y1 G0 → aw p l e { frames := 9, cells := 6, slots := 36, locals := 211 } s m args below meth c 13 D tA A (MQ below (QL D tA ad A shB (fun r s' G' => r = some (.int 1) ∧ K s' G')) args s 6 36 A) k n ad1 352 [some (.ref 0), none, some (.ref 47), none, none, none, none, none, none, none, some (.int x10), some (.int x11), some (.int x12)] [.int y1, .int y0] shB G0 := by
    intro ad1 k n x10 x11 x12 y0 y1 G0 hF hk hn hw
    unfold w_L_makes_B_j352 at hw
    refine aw_ic_ne C dL_makes_352 430 (by decide) hw (fun hc352 hw => ?_) (fun hc352 hw => ?_)
    · exact hw.elim
    · refine aw_iload C dL_makes_355 rfl ?_
      refine aw_if_eq C dL_makes_357 371 (by decide) hw (fun hc357 hw => ?_) (fun hc357 hw => ?_)
      · exact aw_msk [true, false, true, false, false, false, false, false, false, false, false, false, false] (h371 ad1 _ _ _ hF (by omega) (by omega) hw)
      · refine aw_aloadn C dL_makes_360 rfl ?_
        refine aw_iload C dL_makes_361 rfl ?_
        refine aw_runQ (mc := 1) (ms := 6) (rest := []) C (run_W (na := 2) C dL_makes_363 (t_L_size_B hlf x12 _ _ hw) mM_L_113 mW_size mT_size mI_L (by decide +kernel) rfl ⟨Nat.le_of_ble_eq_true rfl, Nat.le_of_ble_eq_true rfl, by show _ ≤ 6; omega, by show _ ≤ 36; omega⟩ [] rfl (Nat.le_of_ble_eq_true rfl)) ⟨by decide, by decide, trivial⟩ trivial (fun r363 ad_24 s363 G25 hEad_24 hq => ?_)
        obtain ⟨v26, rfl, rfl, hw⟩ := hq
        have hFad_24 : (∀ j, j < 145 → ad_24 j = ad j) := fun j hj => (hEad_24 j (ltBB hj)).trans (hF j hj)
        refine aw_iload C dL_makes_366 rfl ?_
        refine aw_ic_ne C dL_makes_368 430 (by decide) hw (fun hc368 hw => ?_) (fun hc368 hw => ?_)
        · exact hw.elim
        · exact aw_msk [true, false, true, false, false, false, false, false, false, false, false, false, false] (h371 ad_24 _ _ _ hFad_24 (by omega) (by omega) hw)
  have h350 : ∀ (ad1 : Nat → Nat) (k n : Nat) (x10 : Int32) (x11 : Int32) (x12 : Int32) (y0 : Int32) (G0 : Gt), (∀ j, j < 145 → ad1 j = ad j) → k + 5 ≤ 6 → n + 30 ≤ 36 → w_L_makes_B_j350 K x10 x11 x12 y0 G0 → aw p l e { frames := 9, cells := 6, slots := 36, locals := 211 } s m args below meth c 13 D tA A (MQ below (QL D tA ad A shB (fun r s' G' => r = some (.int 1) ∧ K s' G')) args s 6 36 A) k n ad1 350 [some (.ref 0), none, some (.ref 47), none, none, none, none, none, none, none, some (.int x10), some (.int x11), some (.int x12)] [.int y0] shB G0 := by
    intro ad1 k n x10 x11 x12 y0 G0 hF hk hn hw
    unfold w_L_makes_B_j350 at hw
    refine aw_ldc (v := (-1000003)) C dL_makes_350 mK_L_24 ?_
    exact aw_msk [true, false, true, false, false, false, false, false, false, false, true, true, true] (h352 ad1 _ _ x10 x11 x12 y0 (-1000003) _ hF (by omega) (by omega) hw)
  have h335 : ∀ (ad1 : Nat → Nat) (k n : Nat) (x10 : Int32) (x11 : Int32) (x12 : Int32) (G0 : Gt), (∀ j, j < 145 → ad1 j = ad j) → k + 5 ≤ 6 → n + 30 ≤ 36 → w_L_makes_B_j335 K x10 x11 x12 G0 → aw p l e { frames := 9, cells := 6, slots := 36, locals := 211 } s m args below meth c 13 D tA A (MQ below (QL D tA ad A shB (fun r s' G' => r = some (.int 1) ∧ K s' G')) args s 6 36 A) k n ad1 335 [some (.ref 0), none, some (.ref 47), none, none, none, none, none, none, none, some (.int x10), some (.int x11), some (.int x12)] [] shB G0 := by
    intro ad1 k n x10 x11 x12 G0 hF hk hn hw
    unfold w_L_makes_B_j335 at hw
    refine aw_iload C dL_makes_335 rfl ?_
    refine aw_iload C dL_makes_337 rfl ?_
    refine aw_if_eq C dL_makes_339 350 (by decide) hw (fun hc339 hw => ?_) (fun hc339 hw => ?_)
    · exact aw_msk [true, false, true, false, false, false, false, false, false, false, true, true, true] (h350 ad1 _ _ x10 x11 x12 x12 _ hF (by omega) (by omega) hw)
    · refine aw_aloadn C dL_makes_342 rfl ?_
      refine aw_iconst (v := 0) C dL_makes_343 (by decide) ?_
      refine aw_iald C dL_makes_344 (sA_47 shOK_B) hw.1 ?_
      replace hw := hw.2
      refine aw_iconst (v := 1) C dL_makes_345 (by decide) ?_
      refine aw_isub C dL_makes_346 ?_
      refine aw_goto (tgt := 352) C dL_makes_347 (by decide) ?_
      exact aw_msk [true, false, true, false, false, false, false, false, false, false, true, true, true] (h352 ad1 _ _ x10 x11 x12 x12 ((G0 47 (0 : Int32).toNatClampNeg) - 1) _ hF (by omega) (by omega) hw)
  have h300 : ∀ (ad1 : Nat → Nat) (k n : Nat) (x5 : Int32) (x6 : Int32) (x7 : Int32) (x8 : Int32) (x10 : Int32) (y0 : Int32) (G0 : Gt), (∀ j, j < 145 → ad1 j = ad j) → k + 6 ≤ 6 → n + 36 ≤ 36 → w_L_makes_B_j300 K x5 x6 x7 x8 x10 y0 G0 → aw p l e { frames := 9, cells := 6, slots := 36, locals := 211 } s m args below meth c 13 D tA A (MQ below (QL D tA ad A shB (fun r s' G' => r = some (.int 1) ∧ K s' G')) args s 6 36 A) k n ad1 300 [some (.ref 0), some (.ref 46), some (.ref 47), none, none, some (.int x5), some (.int x6), some (.int x7), some (.int x8), none, some (.int x10), none, none] [.int y0] shB G0 := by
    intro ad1 k n x5 x6 x7 x8 x10 y0 G0 hF hk hn hw
    unfold w_L_makes_B_j300 at hw
    refine aw_istore C dL_makes_300 (by decide) rfl ?_
    refine aw_aloadn C dL_makes_302 rfl ?_
    refine aw_iload C dL_makes_303 rfl ?_
    refine aw_iload C dL_makes_305 rfl ?_
    refine aw_iload C dL_makes_307 rfl ?_
    refine aw_iload C dL_makes_309 rfl ?_
    refine aw_runQ (mc := 1) (ms := 6) (rest := []) C (run_W (na := 5) C dL_makes_311 (t_L_node_B hlf x5 x6 x7 x8 _ _ hw) mM_L_110 mW_node mT_node mI_L (by decide +kernel) rfl ⟨Nat.le_of_ble_eq_true rfl, Nat.le_of_ble_eq_true rfl, by show _ ≤ 6; omega, by show _ ≤ 36; omega⟩ [] rfl (Nat.le_of_ble_eq_true rfl)) ⟨by decide, by decide, by decide, trivial⟩ trivial (fun r311 ad_9 s311 G10 hEad_9 hq => ?_)
    obtain ⟨v11, rfl, rfl, hw⟩ := hq
    have hFad_9 : (∀ j, j < 145 → ad_9 j = ad j) := fun j hj => (hEad_9 j (ltBB hj)).trans (hF j hj)
    refine aw_istore C dL_makes_314 (by decide) rfl ?_
    refine aw_iload C dL_makes_316 rfl ?_
    refine aw_if_eq C dL_makes_318 335 (by decide) hw (fun hc318 hw => ?_) (fun hc318 hw => ?_)
    · exact aw_msk [true, false, true, false, false, false, false, false, false, false, true, true, true] (h335 ad_9 _ _ x10 y0 v11 _ hFad_9 (by omega) (by omega) hw)
    · refine aw_aloadn C dL_makes_321 rfl ?_
      refine aw_aloadn C dL_makes_322 rfl ?_
      refine aw_iconst (v := 0) C dL_makes_323 (by decide) ?_
      refine aw_iald C dL_makes_324 (sA_47 shOK_B) hw.1 ?_
      replace hw := hw.2
      refine aw_iload C dL_makes_325 rfl ?_
      refine aw_iast C dL_makes_327 (sA_46 shOK_B) hw.1 hw.2 (fun G27 hw => ?_)
      refine aw_aloadn C dL_makes_328 rfl ?_
      refine aw_iconst (v := 0) C dL_makes_329 (by decide) ?_
      refine aw_dup2 C dL_makes_330 rfl rfl ?_
      refine aw_iald C dL_makes_331 (sA_47 shOK_B) hw.1 ?_
      replace hw := hw.2
      refine aw_iconst (v := 1) C dL_makes_332 (by decide) ?_
      refine aw_iadd C dL_makes_333 ?_
      refine aw_iast C dL_makes_334 (sA_47 shOK_B) hw.1 hw.2 (fun G28 hw => ?_)
      exact aw_msk [true, false, true, false, false, false, false, false, false, false, true, true, true] (h335 ad_9 _ _ x10 y0 v11 _ hFad_9 (by omega) (by omega) hw)
  have h299 : ∀ (ad1 : Nat → Nat) (k n : Nat) (x5 : Int32) (x6 : Int32) (x7 : Int32) (x8 : Int32) (x10 : Int32) (G0 : Gt), (∀ j, j < 145 → ad1 j = ad j) → k + 6 ≤ 6 → n + 36 ≤ 36 → w_L_makes_B_j299 K x5 x6 x7 x8 x10 G0 → aw p l e { frames := 9, cells := 6, slots := 36, locals := 211 } s m args below meth c 13 D tA A (MQ below (QL D tA ad A shB (fun r s' G' => r = some (.int 1) ∧ K s' G')) args s 6 36 A) k n ad1 299 [some (.ref 0), some (.ref 46), some (.ref 47), none, none, some (.int x5), some (.int x6), some (.int x7), some (.int x8), none, some (.int x10), none, none] [] shB G0 := by
    intro ad1 k n x5 x6 x7 x8 x10 G0 hF hk hn hw
    unfold w_L_makes_B_j299 at hw
    refine aw_iconst (v := 0) C dL_makes_299 (by decide) ?_
    exact aw_msk [true, true, true, false, false, true, true, true, true, false, true, false, false] (h300 ad1 _ _ x5 x6 x7 x8 x10 0 _ hF (by omega) (by omega) hw)
  have h284 : ∀ (ad1 : Nat → Nat) (k n : Nat) (x5 : Int32) (x6 : Int32) (x7 : Int32) (x8 : Int32) (y0 : Int32) (y1 : Int32) (G0 : Gt), (∀ j, j < 145 → ad1 j = ad j) → k + 6 ≤ 6 → n + 36 ≤ 36 → w_L_makes_B_j284 K x5 x6 x7 x8 y0 y1 G0 → aw p l e { frames := 9, cells := 6, slots := 36, locals := 211 } s m args below meth c 13 D tA A (MQ below (QL D tA ad A shB (fun r s' G' => r = some (.int 1) ∧ K s' G')) args s 6 36 A) k n ad1 284 [some (.ref 0), some (.ref 46), some (.ref 47), none, none, some (.int x5), some (.int x6), some (.int x7), some (.int x8), none, none, none, none] [.int y1, .int y0] shB G0 := by
    intro ad1 k n x5 x6 x7 x8 y0 y1 G0 hF hk hn hw
    unfold w_L_makes_B_j284 at hw
    refine aw_iadd C dL_makes_284 ?_
    refine aw_istore C dL_makes_285 (by decide) rfl ?_
    refine aw_iload C dL_makes_287 rfl ?_
    refine aw_sipush (v := 150) C dL_makes_289 (by decide) ?_
    refine aw_ic_gt C dL_makes_292 299 (by decide) hw (fun hc292 hw => ?_) (fun hc292 hw => ?_)
    · exact aw_msk [true, true, true, false, false, true, true, true, true, false, true, false, false] (h299 ad1 _ _ x5 x6 x7 x8 (y0 + y1) _ hF (by omega) (by omega) hw)
    · refine aw_iconst (v := 1) C dL_makes_295 (by decide) ?_
      refine aw_goto (tgt := 300) C dL_makes_296 (by decide) ?_
      exact aw_msk [true, true, true, false, false, true, true, true, true, false, true, false, false] (h300 ad1 _ _ x5 x6 x7 x8 (y0 + y1) 1 _ hF (by omega) (by omega) hw)
  have h283 : ∀ (ad1 : Nat → Nat) (k n : Nat) (x5 : Int32) (x6 : Int32) (x7 : Int32) (x8 : Int32) (y0 : Int32) (G0 : Gt), (∀ j, j < 145 → ad1 j = ad j) → k + 6 ≤ 6 → n + 36 ≤ 36 → w_L_makes_B_j283 K x5 x6 x7 x8 y0 G0 → aw p l e { frames := 9, cells := 6, slots := 36, locals := 211 } s m args below meth c 13 D tA A (MQ below (QL D tA ad A shB (fun r s' G' => r = some (.int 1) ∧ K s' G')) args s 6 36 A) k n ad1 283 [some (.ref 0), some (.ref 46), some (.ref 47), none, none, some (.int x5), some (.int x6), some (.int x7), some (.int x8), none, none, none, none] [.int y0] shB G0 := by
    intro ad1 k n x5 x6 x7 x8 y0 G0 hF hk hn hw
    unfold w_L_makes_B_j283 at hw
    refine aw_iconst (v := 0) C dL_makes_283 (by decide) ?_
    exact aw_msk [true, true, true, false, false, true, true, true, true, false, false, false, false] (h284 ad1 _ _ x5 x6 x7 x8 y0 0 _ hF (by omega) (by omega) hw)
  have h270 : ∀ (ad1 : Nat → Nat) (k n : Nat) (x5 : Int32) (x6 : Int32) (x7 : Int32) (x8 : Int32) (y0 : Int32) (y1 : Int32) (G0 : Gt), (∀ j, j < 145 → ad1 j = ad j) → k + 6 ≤ 6 → n + 36 ≤ 36 → w_L_makes_B_j270 K x5 x6 x7 x8 y0 y1 G0 → aw p l e { frames := 9, cells := 6, slots := 36, locals := 211 } s m args below meth c 13 D tA A (MQ below (QL D tA ad A shB (fun r s' G' => r = some (.int 1) ∧ K s' G')) args s 6 36 A) k n ad1 270 [some (.ref 0), some (.ref 46), some (.ref 47), none, none, some (.int x5), some (.int x6), some (.int x7), some (.int x8), none, none, none, none] [.int y1, .int y0] shB G0 := by
    intro ad1 k n x5 x6 x7 x8 y0 y1 G0 hF hk hn hw
    unfold w_L_makes_B_j270 at hw
    refine aw_iadd C dL_makes_270 ?_
    refine aw_iload C dL_makes_271 rfl ?_
    refine aw_if_lt C dL_makes_273 283 (by decide) hw (fun hc273 hw => ?_) (fun hc273 hw => ?_)
    · exact aw_msk [true, true, true, false, false, true, true, true, true, false, false, false, false] (h283 ad1 _ _ x5 x6 x7 x8 (y0 + y1) _ hF (by omega) (by omega) hw)
    · refine aw_aloadn C dL_makes_276 rfl ?_
      refine aw_iload C dL_makes_277 rfl ?_
      refine aw_iald C dL_makes_279 (sA_46 shOK_B) hw.1 ?_
      replace hw := hw.2
      refine aw_goto (tgt := 284) C dL_makes_280 (by decide) ?_
      exact aw_msk [true, true, true, false, false, true, true, true, true, false, false, false, false] (h284 ad1 _ _ x5 x6 x7 x8 (y0 + y1) (G0 46 (x8 : Int32).toNatClampNeg) _ hF (by omega) (by omega) hw)
  have h269 : ∀ (ad1 : Nat → Nat) (k n : Nat) (x5 : Int32) (x6 : Int32) (x7 : Int32) (x8 : Int32) (y0 : Int32) (G0 : Gt), (∀ j, j < 145 → ad1 j = ad j) → k + 6 ≤ 6 → n + 36 ≤ 36 → w_L_makes_B_j269 K x5 x6 x7 x8 y0 G0 → aw p l e { frames := 9, cells := 6, slots := 36, locals := 211 } s m args below meth c 13 D tA A (MQ below (QL D tA ad A shB (fun r s' G' => r = some (.int 1) ∧ K s' G')) args s 6 36 A) k n ad1 269 [some (.ref 0), some (.ref 46), some (.ref 47), none, none, some (.int x5), some (.int x6), some (.int x7), some (.int x8), none, none, none, none] [.int y0] shB G0 := by
    intro ad1 k n x5 x6 x7 x8 y0 G0 hF hk hn hw
    unfold w_L_makes_B_j269 at hw
    refine aw_iconst (v := 0) C dL_makes_269 (by decide) ?_
    exact aw_msk [true, true, true, false, false, true, true, true, true, false, false, false, false] (h270 ad1 _ _ x5 x6 x7 x8 y0 0 _ hF (by omega) (by omega) hw)
  have h249 : ∀ (ad1 : Nat → Nat) (k n : Nat) (x5 : Int32) (x6 : Int32) (x7 : Int32) (x8 : Int32) (y0 : Int32) (y1 : Int32) (G0 : Gt), (∀ j, j < 145 → ad1 j = ad j) → k + 6 ≤ 6 → n + 36 ≤ 36 → w_L_makes_B_j249 K x5 x6 x7 x8 y0 y1 G0 → aw p l e { frames := 9, cells := 6, slots := 36, locals := 211 } s m args below meth c 13 D tA A (MQ below (QL D tA ad A shB (fun r s' G' => r = some (.int 1) ∧ K s' G')) args s 6 36 A) k n ad1 249 [some (.ref 0), some (.ref 46), some (.ref 47), none, none, some (.int x5), some (.int x6), some (.int x7), some (.int x8), none, none, none, none] [.int y1, .int y0] shB G0 := by
    intro ad1 k n x5 x6 x7 x8 y0 y1 G0 hF hk hn hw
    unfold w_L_makes_B_j249 at hw
    refine aw_iadd C dL_makes_249 ?_
    refine aw_iload C dL_makes_250 rfl ?_
    refine aw_if_lt C dL_makes_252 269 (by decide) hw (fun hc252 hw => ?_) (fun hc252 hw => ?_)
    · exact aw_msk [true, true, true, false, false, true, true, true, true, false, false, false, false] (h269 ad1 _ _ x5 x6 x7 x8 (y0 + y1) _ hF (by omega) (by omega) hw)
    · refine aw_iload C dL_makes_255 rfl ?_
      refine aw_bipush (v := 38) C dL_makes_257 (by decide) ?_
      refine aw_ic_eq C dL_makes_259 269 (by decide) hw (fun hc259 hw => ?_) (fun hc259 hw => ?_)
      · exact aw_msk [true, true, true, false, false, true, true, true, true, false, false, false, false] (h269 ad1 _ _ x5 x6 x7 x8 (y0 + y1) _ hF (by omega) (by omega) hw)
      · refine aw_aloadn C dL_makes_262 rfl ?_
        refine aw_iload C dL_makes_263 rfl ?_
        refine aw_iald C dL_makes_265 (sA_46 shOK_B) hw.1 ?_
        replace hw := hw.2
        refine aw_goto (tgt := 270) C dL_makes_266 (by decide) ?_
        exact aw_msk [true, true, true, false, false, true, true, true, true, false, false, false, false] (h270 ad1 _ _ x5 x6 x7 x8 (y0 + y1) (G0 46 (x7 : Int32).toNatClampNeg) _ hF (by omega) (by omega) hw)
  have h248 : ∀ (ad1 : Nat → Nat) (k n : Nat) (x5 : Int32) (x6 : Int32) (x7 : Int32) (x8 : Int32) (y0 : Int32) (G0 : Gt), (∀ j, j < 145 → ad1 j = ad j) → k + 6 ≤ 6 → n + 36 ≤ 36 → w_L_makes_B_j248 K x5 x6 x7 x8 y0 G0 → aw p l e { frames := 9, cells := 6, slots := 36, locals := 211 } s m args below meth c 13 D tA A (MQ below (QL D tA ad A shB (fun r s' G' => r = some (.int 1) ∧ K s' G')) args s 6 36 A) k n ad1 248 [some (.ref 0), some (.ref 46), some (.ref 47), none, none, some (.int x5), some (.int x6), some (.int x7), some (.int x8), none, none, none, none] [.int y0] shB G0 := by
    intro ad1 k n x5 x6 x7 x8 y0 G0 hF hk hn hw
    unfold w_L_makes_B_j248 at hw
    refine aw_iconst (v := 0) C dL_makes_248 (by decide) ?_
    exact aw_msk [true, true, true, false, false, true, true, true, true, false, false, false, false] (h249 ad1 _ _ x5 x6 x7 x8 y0 0 _ hF (by omega) (by omega) hw)
  have h228 : ∀ (ad1 : Nat → Nat) (k n : Nat) (x5 : Int32) (x6 : Int32) (x7 : Int32) (x8 : Int32) (y0 : Int32) (G0 : Gt), (∀ j, j < 145 → ad1 j = ad j) → k + 6 ≤ 6 → n + 36 ≤ 36 → w_L_makes_B_j228 K x5 x6 x7 x8 y0 G0 → aw p l e { frames := 9, cells := 6, slots := 36, locals := 211 } s m args below meth c 13 D tA A (MQ below (QL D tA ad A shB (fun r s' G' => r = some (.int 1) ∧ K s' G')) args s 6 36 A) k n ad1 228 [some (.ref 0), some (.ref 46), some (.ref 47), none, none, some (.int x5), some (.int x6), some (.int x7), some (.int x8), none, none, none, none] [.int y0] shB G0 := by
    intro ad1 k n x5 x6 x7 x8 y0 G0 hF hk hn hw
    unfold w_L_makes_B_j228 at hw
    refine aw_istore C dL_makes_228 (by decide) rfl ?_
    refine aw_iconst (v := 1) C dL_makes_230 (by decide) ?_
    refine aw_iload C dL_makes_231 rfl ?_
    refine aw_if_eq C dL_makes_233 248 (by decide) hw (fun hc233 hw => ?_) (fun hc233 hw => ?_)
    · exact aw_msk [true, true, true, false, false, true, true, true, true, false, false, false, false] (h248 ad1 _ _ x5 x6 x7 x8 1 _ hF (by omega) (by omega) hw)
    · refine aw_iload C dL_makes_236 rfl ?_
      refine aw_if_lt C dL_makes_238 248 (by decide) hw (fun hc238 hw => ?_) (fun hc238 hw => ?_)
      · exact aw_msk [true, true, true, false, false, true, true, true, true, false, false, false, false] (h248 ad1 _ _ x5 x6 x7 x8 1 _ hF (by omega) (by omega) hw)
      · refine aw_aloadn C dL_makes_241 rfl ?_
        refine aw_iload C dL_makes_242 rfl ?_
        refine aw_iald C dL_makes_244 (sA_46 shOK_B) hw.1 ?_
        replace hw := hw.2
        refine aw_goto (tgt := 249) C dL_makes_245 (by decide) ?_
        exact aw_msk [true, true, true, false, false, true, true, true, true, false, false, false, false] (h249 ad1 _ _ x5 x6 x7 x8 1 (G0 46 (x6 : Int32).toNatClampNeg) _ hF (by omega) (by omega) hw)
  have h223 : ∀ (ad1 : Nat → Nat) (k n : Nat) (x5 : Int32) (x6 : Int32) (x7 : Int32) (x8 : Int32) (G0 : Gt), (∀ j, j < 145 → ad1 j = ad j) → k + 6 ≤ 6 → n + 36 ≤ 36 → w_L_makes_B_j223 K x5 x6 x7 x8 G0 → aw p l e { frames := 9, cells := 6, slots := 36, locals := 211 } s m args below meth c 13 D tA A (MQ below (QL D tA ad A shB (fun r s' G' => r = some (.int 1) ∧ K s' G')) args s 6 36 A) k n ad1 223 [some (.ref 0), some (.ref 46), some (.ref 47), none, none, some (.int x5), some (.int x6), some (.int x7), some (.int x8), none, none, none, none] [] shB G0 := by
    intro ad1 k n x5 x6 x7 x8 G0 hF hk hn hw
    unfold w_L_makes_B_j223 at hw
    refine aw_iconst (v := 1) C dL_makes_223 (by decide) ?_
    refine aw_goto (tgt := 228) C dL_makes_224 (by decide) ?_
    exact aw_msk [true, true, true, false, false, true, true, true, true, false, false, false, false] (h228 ad1 _ _ x5 x6 x7 x8 1 _ hF (by omega) (by omega) hw)
  have h227 : ∀ (ad1 : Nat → Nat) (k n : Nat) (x5 : Int32) (x6 : Int32) (x7 : Int32) (x8 : Int32) (G0 : Gt), (∀ j, j < 145 → ad1 j = ad j) → k + 6 ≤ 6 → n + 36 ≤ 36 → w_L_makes_B_j227 K x5 x6 x7 x8 G0 → aw p l e { frames := 9, cells := 6, slots := 36, locals := 211 } s m args below meth c 13 D tA A (MQ below (QL D tA ad A shB (fun r s' G' => r = some (.int 1) ∧ K s' G')) args s 6 36 A) k n ad1 227 [some (.ref 0), some (.ref 46), some (.ref 47), none, none, some (.int x5), some (.int x6), some (.int x7), some (.int x8), none, none, none, none] [] shB G0 := by
    intro ad1 k n x5 x6 x7 x8 G0 hF hk hn hw
    unfold w_L_makes_B_j227 at hw
    refine aw_iconst (v := 0) C dL_makes_227 (by decide) ?_
    exact aw_msk [true, true, true, false, false, true, true, true, true, false, false, false, false] (h228 ad1 _ _ x5 x6 x7 x8 0 _ hF (by omega) (by omega) hw)
  have h152 : ∀ (ad1 : Nat → Nat) (k n : Nat) (x5 : Int32) (x6 : Int32) (x7 : Int32) (y0 : Int32) (G0 : Gt), (∀ j, j < 145 → ad1 j = ad j) → k + 6 ≤ 6 → n + 36 ≤ 36 → w_L_makes_B_j152 K x5 x6 x7 y0 G0 → aw p l e { frames := 9, cells := 6, slots := 36, locals := 211 } s m args below meth c 13 D tA A (MQ below (QL D tA ad A shB (fun r s' G' => r = some (.int 1) ∧ K s' G')) args s 6 36 A) k n ad1 152 [some (.ref 0), some (.ref 46), some (.ref 47), none, none, some (.int x5), some (.int x6), some (.int x7), none, none, none, none, none] [.int y0] shB G0 := by
    intro ad1 k n x5 x6 x7 y0 G0 hF hk hn hw
    unfold w_L_makes_B_j152 at hw
    refine aw_istore C dL_makes_152 (by decide) rfl ?_
    refine aw_iload C dL_makes_154 rfl ?_
    refine aw_iconst (v := 3) C dL_makes_156 (by decide) ?_
    refine aw_ic_le C dL_makes_157 167 (by decide) hw (fun hc157 hw => ?_) (fun hc157 hw => ?_)
    · refine aw_iload C dL_makes_167 rfl ?_
      refine aw_bipush (v := 17) C dL_makes_169 (by decide) ?_
      refine aw_ic_eq C dL_makes_171 223 (by decide) hw (fun hc171 hw => ?_) (fun hc171 hw => ?_)
      · exact aw_msk [true, true, true, false, false, true, true, true, true, false, false, false, false] (h223 ad1 _ _ x5 x6 x7 y0 _ hF (by omega) (by omega) hw)
      · refine aw_iload C dL_makes_174 rfl ?_
        refine aw_bipush (v := 19) C dL_makes_176 (by decide) ?_
        refine aw_ic_eq C dL_makes_178 223 (by decide) hw (fun hc178 hw => ?_) (fun hc178 hw => ?_)
        · exact aw_msk [true, true, true, false, false, true, true, true, true, false, false, false, false] (h223 ad1 _ _ x5 x6 x7 y0 _ hF (by omega) (by omega) hw)
        · refine aw_iload C dL_makes_181 rfl ?_
          refine aw_bipush (v := 20) C dL_makes_183 (by decide) ?_
          refine aw_ic_le C dL_makes_185 195 (by decide) hw (fun hc185 hw => ?_) (fun hc185 hw => ?_)
          · refine aw_iload C dL_makes_195 rfl ?_
            refine aw_bipush (v := 29) C dL_makes_197 (by decide) ?_
            refine aw_ic_eq C dL_makes_199 223 (by decide) hw (fun hc199 hw => ?_) (fun hc199 hw => ?_)
            · exact aw_msk [true, true, true, false, false, true, true, true, true, false, false, false, false] (h223 ad1 _ _ x5 x6 x7 y0 _ hF (by omega) (by omega) hw)
            · refine aw_iload C dL_makes_202 rfl ?_
              refine aw_bipush (v := 31) C dL_makes_204 (by decide) ?_
              refine aw_ic_eq C dL_makes_206 223 (by decide) hw (fun hc206 hw => ?_) (fun hc206 hw => ?_)
              · exact aw_msk [true, true, true, false, false, true, true, true, true, false, false, false, false] (h223 ad1 _ _ x5 x6 x7 y0 _ hF (by omega) (by omega) hw)
              · refine aw_iload C dL_makes_209 rfl ?_
                refine aw_bipush (v := 34) C dL_makes_211 (by decide) ?_
                refine aw_ic_le C dL_makes_213 227 (by decide) hw (fun hc213 hw => ?_) (fun hc213 hw => ?_)
                · exact aw_msk [true, true, true, false, false, true, true, true, true, false, false, false, false] (h227 ad1 _ _ x5 x6 x7 y0 _ hF (by omega) (by omega) hw)
                · refine aw_iload C dL_makes_216 rfl ?_
                  refine aw_bipush (v := 38) C dL_makes_218 (by decide) ?_
                  refine aw_ic_ge C dL_makes_220 227 (by decide) hw (fun hc220 hw => ?_) (fun hc220 hw => ?_)
                  · exact aw_msk [true, true, true, false, false, true, true, true, true, false, false, false, false] (h227 ad1 _ _ x5 x6 x7 y0 _ hF (by omega) (by omega) hw)
                  · exact aw_msk [true, true, true, false, false, true, true, true, true, false, false, false, false] (h223 ad1 _ _ x5 x6 x7 y0 _ hF (by omega) (by omega) hw)
          · refine aw_iload C dL_makes_188 rfl ?_
            refine aw_bipush (v := 26) C dL_makes_190 (by decide) ?_
            refine aw_ic_lt C dL_makes_192 223 (by decide) hw (fun hc192 hw => ?_) (fun hc192 hw => ?_)
            · exact aw_msk [true, true, true, false, false, true, true, true, true, false, false, false, false] (h223 ad1 _ _ x5 x6 x7 y0 _ hF (by omega) (by omega) hw)
            · refine aw_iload C dL_makes_195 rfl ?_
              refine aw_bipush (v := 29) C dL_makes_197 (by decide) ?_
              refine aw_ic_eq C dL_makes_199 223 (by decide) hw (fun hc199 hw => ?_) (fun hc199 hw => ?_)
              · exact aw_msk [true, true, true, false, false, true, true, true, true, false, false, false, false] (h223 ad1 _ _ x5 x6 x7 y0 _ hF (by omega) (by omega) hw)
              · refine aw_iload C dL_makes_202 rfl ?_
                refine aw_bipush (v := 31) C dL_makes_204 (by decide) ?_
                refine aw_ic_eq C dL_makes_206 223 (by decide) hw (fun hc206 hw => ?_) (fun hc206 hw => ?_)
                · exact aw_msk [true, true, true, false, false, true, true, true, true, false, false, false, false] (h223 ad1 _ _ x5 x6 x7 y0 _ hF (by omega) (by omega) hw)
                · refine aw_iload C dL_makes_209 rfl ?_
                  refine aw_bipush (v := 34) C dL_makes_211 (by decide) ?_
                  refine aw_ic_le C dL_makes_213 227 (by decide) hw (fun hc213 hw => ?_) (fun hc213 hw => ?_)
                  · exact aw_msk [true, true, true, false, false, true, true, true, true, false, false, false, false] (h227 ad1 _ _ x5 x6 x7 y0 _ hF (by omega) (by omega) hw)
                  · refine aw_iload C dL_makes_216 rfl ?_
                    refine aw_bipush (v := 38) C dL_makes_218 (by decide) ?_
                    refine aw_ic_ge C dL_makes_220 227 (by decide) hw (fun hc220 hw => ?_) (fun hc220 hw => ?_)
                    · exact aw_msk [true, true, true, false, false, true, true, true, true, false, false, false, false] (h227 ad1 _ _ x5 x6 x7 y0 _ hF (by omega) (by omega) hw)
                    · exact aw_msk [true, true, true, false, false, true, true, true, true, false, false, false, false] (h223 ad1 _ _ x5 x6 x7 y0 _ hF (by omega) (by omega) hw)
    · refine aw_iload C dL_makes_160 rfl ?_
      refine aw_bipush (v := 13) C dL_makes_162 (by decide) ?_
      refine aw_ic_lt C dL_makes_164 223 (by decide) hw (fun hc164 hw => ?_) (fun hc164 hw => ?_)
      · exact aw_msk [true, true, true, false, false, true, true, true, true, false, false, false, false] (h223 ad1 _ _ x5 x6 x7 y0 _ hF (by omega) (by omega) hw)
      · refine aw_iload C dL_makes_167 rfl ?_
        refine aw_bipush (v := 17) C dL_makes_169 (by decide) ?_
        refine aw_ic_eq C dL_makes_171 223 (by decide) hw (fun hc171 hw => ?_) (fun hc171 hw => ?_)
        · exact aw_msk [true, true, true, false, false, true, true, true, true, false, false, false, false] (h223 ad1 _ _ x5 x6 x7 y0 _ hF (by omega) (by omega) hw)
        · refine aw_iload C dL_makes_174 rfl ?_
          refine aw_bipush (v := 19) C dL_makes_176 (by decide) ?_
          refine aw_ic_eq C dL_makes_178 223 (by decide) hw (fun hc178 hw => ?_) (fun hc178 hw => ?_)
          · exact aw_msk [true, true, true, false, false, true, true, true, true, false, false, false, false] (h223 ad1 _ _ x5 x6 x7 y0 _ hF (by omega) (by omega) hw)
          · refine aw_iload C dL_makes_181 rfl ?_
            refine aw_bipush (v := 20) C dL_makes_183 (by decide) ?_
            refine aw_ic_le C dL_makes_185 195 (by decide) hw (fun hc185 hw => ?_) (fun hc185 hw => ?_)
            · refine aw_iload C dL_makes_195 rfl ?_
              refine aw_bipush (v := 29) C dL_makes_197 (by decide) ?_
              refine aw_ic_eq C dL_makes_199 223 (by decide) hw (fun hc199 hw => ?_) (fun hc199 hw => ?_)
              · exact aw_msk [true, true, true, false, false, true, true, true, true, false, false, false, false] (h223 ad1 _ _ x5 x6 x7 y0 _ hF (by omega) (by omega) hw)
              · refine aw_iload C dL_makes_202 rfl ?_
                refine aw_bipush (v := 31) C dL_makes_204 (by decide) ?_
                refine aw_ic_eq C dL_makes_206 223 (by decide) hw (fun hc206 hw => ?_) (fun hc206 hw => ?_)
                · exact aw_msk [true, true, true, false, false, true, true, true, true, false, false, false, false] (h223 ad1 _ _ x5 x6 x7 y0 _ hF (by omega) (by omega) hw)
                · refine aw_iload C dL_makes_209 rfl ?_
                  refine aw_bipush (v := 34) C dL_makes_211 (by decide) ?_
                  refine aw_ic_le C dL_makes_213 227 (by decide) hw (fun hc213 hw => ?_) (fun hc213 hw => ?_)
                  · exact aw_msk [true, true, true, false, false, true, true, true, true, false, false, false, false] (h227 ad1 _ _ x5 x6 x7 y0 _ hF (by omega) (by omega) hw)
                  · refine aw_iload C dL_makes_216 rfl ?_
                    refine aw_bipush (v := 38) C dL_makes_218 (by decide) ?_
                    refine aw_ic_ge C dL_makes_220 227 (by decide) hw (fun hc220 hw => ?_) (fun hc220 hw => ?_)
                    · exact aw_msk [true, true, true, false, false, true, true, true, true, false, false, false, false] (h227 ad1 _ _ x5 x6 x7 y0 _ hF (by omega) (by omega) hw)
                    · exact aw_msk [true, true, true, false, false, true, true, true, true, false, false, false, false] (h223 ad1 _ _ x5 x6 x7 y0 _ hF (by omega) (by omega) hw)
            · refine aw_iload C dL_makes_188 rfl ?_
              refine aw_bipush (v := 26) C dL_makes_190 (by decide) ?_
              refine aw_ic_lt C dL_makes_192 223 (by decide) hw (fun hc192 hw => ?_) (fun hc192 hw => ?_)
              · exact aw_msk [true, true, true, false, false, true, true, true, true, false, false, false, false] (h223 ad1 _ _ x5 x6 x7 y0 _ hF (by omega) (by omega) hw)
              · refine aw_iload C dL_makes_195 rfl ?_
                refine aw_bipush (v := 29) C dL_makes_197 (by decide) ?_
                refine aw_ic_eq C dL_makes_199 223 (by decide) hw (fun hc199 hw => ?_) (fun hc199 hw => ?_)
                · exact aw_msk [true, true, true, false, false, true, true, true, true, false, false, false, false] (h223 ad1 _ _ x5 x6 x7 y0 _ hF (by omega) (by omega) hw)
                · refine aw_iload C dL_makes_202 rfl ?_
                  refine aw_bipush (v := 31) C dL_makes_204 (by decide) ?_
                  refine aw_ic_eq C dL_makes_206 223 (by decide) hw (fun hc206 hw => ?_) (fun hc206 hw => ?_)
                  · exact aw_msk [true, true, true, false, false, true, true, true, true, false, false, false, false] (h223 ad1 _ _ x5 x6 x7 y0 _ hF (by omega) (by omega) hw)
                  · refine aw_iload C dL_makes_209 rfl ?_
                    refine aw_bipush (v := 34) C dL_makes_211 (by decide) ?_
                    refine aw_ic_le C dL_makes_213 227 (by decide) hw (fun hc213 hw => ?_) (fun hc213 hw => ?_)
                    · exact aw_msk [true, true, true, false, false, true, true, true, true, false, false, false, false] (h227 ad1 _ _ x5 x6 x7 y0 _ hF (by omega) (by omega) hw)
                    · refine aw_iload C dL_makes_216 rfl ?_
                      refine aw_bipush (v := 38) C dL_makes_218 (by decide) ?_
                      refine aw_ic_ge C dL_makes_220 227 (by decide) hw (fun hc220 hw => ?_) (fun hc220 hw => ?_)
                      · exact aw_msk [true, true, true, false, false, true, true, true, true, false, false, false, false] (h227 ad1 _ _ x5 x6 x7 y0 _ hF (by omega) (by omega) hw)
                      · exact aw_msk [true, true, true, false, false, true, true, true, true, false, false, false, false] (h223 ad1 _ _ x5 x6 x7 y0 _ hF (by omega) (by omega) hw)
  have h139 : ∀ (ad1 : Nat → Nat) (k n : Nat) (x4 : Int32) (x5 : Int32) (x6 : Int32) (x7 : Int32) (G0 : Gt), (∀ j, j < 145 → ad1 j = ad j) → k + 6 ≤ 6 → n + 36 ≤ 36 → w_L_makes_B_j139 K x4 x5 x6 x7 G0 → aw p l e { frames := 9, cells := 6, slots := 36, locals := 211 } s m args below meth c 13 D tA A (MQ below (QL D tA ad A shB (fun r s' G' => r = some (.int 1) ∧ K s' G')) args s 6 36 A) k n ad1 139 [some (.ref 0), some (.ref 46), some (.ref 47), none, some (.int x4), some (.int x5), some (.int x6), some (.int x7), none, none, none, none, none] [] shB G0 := by
    intro ad1 k n x4 x5 x6 x7 G0 hF hk hn hw
    unfold w_L_makes_B_j139 at hw
    refine aw_aloadn C dL_makes_139 rfl ?_
    refine aw_iload C dL_makes_140 rfl ?_
    refine aw_bipush (v := 11) C dL_makes_142 (by decide) ?_
    refine aw_ishr C dL_makes_144 ?_
    refine aw_callS C dL_makes_145 (t_L_part shOK_B  (x4 >>> (11 &&& 31)) _ _ hw) mM_L_98 bL_part rfl rfl ⟨Nat.le_of_ble_eq_true rfl, Nat.le_of_ble_eq_true rfl, by show _ ≤ 6; omega, by show _ ≤ 36; omega⟩ _ rfl (Nat.le_of_ble_eq_true rfl) (fun r145 G8 hq => ?_)
    obtain ⟨v7, rfl, hw⟩ := hq
    refine aw_goto (tgt := 152) C dL_makes_148 (by decide) ?_
    exact aw_msk [true, true, true, false, false, true, true, true, false, false, false, false, false] (h152 ad1 _ _ x5 x6 x7 v7 _ hF (by omega) (by omega) hw)
  have h151 : ∀ (ad1 : Nat → Nat) (k n : Nat) (x5 : Int32) (x6 : Int32) (x7 : Int32) (G0 : Gt), (∀ j, j < 145 → ad1 j = ad j) → k + 6 ≤ 6 → n + 36 ≤ 36 → w_L_makes_B_j151 K x5 x6 x7 G0 → aw p l e { frames := 9, cells := 6, slots := 36, locals := 211 } s m args below meth c 13 D tA A (MQ below (QL D tA ad A shB (fun r s' G' => r = some (.int 1) ∧ K s' G')) args s 6 36 A) k n ad1 151 [some (.ref 0), some (.ref 46), some (.ref 47), none, none, some (.int x5), some (.int x6), some (.int x7), none, none, none, none, none] [] shB G0 := by
    intro ad1 k n x5 x6 x7 G0 hF hk hn hw
    unfold w_L_makes_B_j151 at hw
    refine aw_iconst (v := (-1)) C dL_makes_151 (by decide) ?_
    exact aw_msk [true, true, true, false, false, true, true, true, false, false, false, false, false] (h152 ad1 _ _ x5 x6 x7 (-1) _ hF (by omega) (by omega) hw)
  have h93 : ∀ (ad1 : Nat → Nat) (k n : Nat) (x4 : Int32) (x5 : Int32) (x6 : Int32) (y0 : Int32) (G0 : Gt), (∀ j, j < 145 → ad1 j = ad j) → k + 6 ≤ 6 → n + 36 ≤ 36 → w_L_makes_B_j93 K x4 x5 x6 y0 G0 → aw p l e { frames := 9, cells := 6, slots := 36, locals := 211 } s m args below meth c 13 D tA A (MQ below (QL D tA ad A shB (fun r s' G' => r = some (.int 1) ∧ K s' G')) args s 6 36 A) k n ad1 93 [some (.ref 0), some (.ref 46), some (.ref 47), none, some (.int x4), some (.int x5), some (.int x6), none, none, none, none, none, none] [.int y0] shB G0 := by
    intro ad1 k n x4 x5 x6 y0 G0 hF hk hn hw
    unfold w_L_makes_B_j93 at hw
    refine aw_istore C dL_makes_93 (by decide) rfl ?_
    refine aw_iload C dL_makes_95 rfl ?_
    refine aw_bipush (v := 10) C dL_makes_97 (by decide) ?_
    refine aw_ic_eq C dL_makes_99 139 (by decide) hw (fun hc99 hw => ?_) (fun hc99 hw => ?_)
    · exact aw_msk [true, true, true, false, true, true, true, true, false, false, false, false, false] (h139 ad1 _ _ x4 x5 x6 y0 _ hF (by omega) (by omega) hw)
    · refine aw_iload C dL_makes_102 rfl ?_
      refine aw_bipush (v := 20) C dL_makes_104 (by decide) ?_
      refine aw_ic_eq C dL_makes_106 139 (by decide) hw (fun hc106 hw => ?_) (fun hc106 hw => ?_)
      · exact aw_msk [true, true, true, false, true, true, true, true, false, false, false, false, false] (h139 ad1 _ _ x4 x5 x6 y0 _ hF (by omega) (by omega) hw)
      · refine aw_iload C dL_makes_109 rfl ?_
        refine aw_bipush (v := 26) C dL_makes_111 (by decide) ?_
        refine aw_ic_eq C dL_makes_113 139 (by decide) hw (fun hc113 hw => ?_) (fun hc113 hw => ?_)
        · exact aw_msk [true, true, true, false, true, true, true, true, false, false, false, false, false] (h139 ad1 _ _ x4 x5 x6 y0 _ hF (by omega) (by omega) hw)
        · refine aw_iload C dL_makes_116 rfl ?_
          refine aw_bipush (v := 18) C dL_makes_118 (by decide) ?_
          refine aw_ic_ne C dL_makes_120 151 (by decide) hw (fun hc120 hw => ?_) (fun hc120 hw => ?_)
          · exact aw_msk [true, true, true, false, false, true, true, true, false, false, false, false, false] (h151 ad1 _ _ x5 x6 y0 _ hF (by omega) (by omega) hw)
          · refine aw_iload C dL_makes_123 rfl ?_
            refine aw_if_lt C dL_makes_125 151 (by decide) hw (fun hc125 hw => ?_) (fun hc125 hw => ?_)
            · exact aw_msk [true, true, true, false, false, true, true, true, false, false, false, false, false] (h151 ad1 _ _ x5 x6 y0 _ hF (by omega) (by omega) hw)
            · refine aw_iload C dL_makes_128 rfl ?_
              refine aw_iconst (v := 4) C dL_makes_130 (by decide) ?_
              refine aw_ishr C dL_makes_131 ?_
              refine aw_iconst (v := 3) C dL_makes_132 (by decide) ?_
              refine aw_callS C dL_makes_133 (t_L_low  (x4 >>> (4 &&& 31)) 3 _ _ hw) mM_L_93 bL_low rfl rfl ⟨Nat.le_of_ble_eq_true rfl, Nat.le_of_ble_eq_true rfl, by show _ ≤ 6; omega, by show _ ≤ 36; omega⟩ _ rfl (Nat.le_of_ble_eq_true rfl) (fun r133 G30 hq => ?_)
              obtain ⟨v29, rfl, hw⟩ := hq
              refine aw_if_ne C dL_makes_136 151 (by decide) hw (fun hc136 hw => ?_) (fun hc136 hw => ?_)
              · exact aw_msk [true, true, true, false, false, true, true, true, false, false, false, false, false] (h151 ad1 _ _ x5 x6 y0 _ hF (by omega) (by omega) hw)
              · exact aw_msk [true, true, true, false, true, true, true, true, false, false, false, false, false] (h139 ad1 _ _ x4 x5 x6 y0 _ hF (by omega) (by omega) hw)
  have h81 : ∀ (ad1 : Nat → Nat) (k n : Nat) (x4 : Int32) (x5 : Int32) (x6 : Int32) (G0 : Gt), (∀ j, j < 145 → ad1 j = ad j) → k + 6 ≤ 6 → n + 36 ≤ 36 → w_L_makes_B_j81 K x4 x5 x6 G0 → aw p l e { frames := 9, cells := 6, slots := 36, locals := 211 } s m args below meth c 13 D tA A (MQ below (QL D tA ad A shB (fun r s' G' => r = some (.int 1) ∧ K s' G')) args s 6 36 A) k n ad1 81 [some (.ref 0), some (.ref 46), some (.ref 47), none, some (.int x4), some (.int x5), some (.int x6), none, none, none, none, none, none] [] shB G0 := by
    intro ad1 k n x4 x5 x6 G0 hF hk hn hw
    unfold w_L_makes_B_j81 at hw
    refine aw_aloadn C dL_makes_81 rfl ?_
    refine aw_iload C dL_makes_82 rfl ?_
    refine aw_iconst (v := 5) C dL_makes_84 (by decide) ?_
    refine aw_ishr C dL_makes_85 ?_
    refine aw_callS C dL_makes_86 (t_L_part shOK_B  (x4 >>> (5 &&& 31)) _ _ hw) mM_L_98 bL_part rfl rfl ⟨Nat.le_of_ble_eq_true rfl, Nat.le_of_ble_eq_true rfl, by show _ ≤ 6; omega, by show _ ≤ 36; omega⟩ _ rfl (Nat.le_of_ble_eq_true rfl) (fun r86 G6 hq => ?_)
    obtain ⟨v5, rfl, hw⟩ := hq
    refine aw_goto (tgt := 93) C dL_makes_89 (by decide) ?_
    exact aw_msk [true, true, true, false, true, true, true, false, false, false, false, false, false] (h93 ad1 _ _ x4 x5 x6 v5 _ hF (by omega) (by omega) hw)
  have h92 : ∀ (ad1 : Nat → Nat) (k n : Nat) (x4 : Int32) (x5 : Int32) (x6 : Int32) (G0 : Gt), (∀ j, j < 145 → ad1 j = ad j) → k + 6 ≤ 6 → n + 36 ≤ 36 → w_L_makes_B_j92 K x4 x5 x6 G0 → aw p l e { frames := 9, cells := 6, slots := 36, locals := 211 } s m args below meth c 13 D tA A (MQ below (QL D tA ad A shB (fun r s' G' => r = some (.int 1) ∧ K s' G')) args s 6 36 A) k n ad1 92 [some (.ref 0), some (.ref 46), some (.ref 47), none, some (.int x4), some (.int x5), some (.int x6), none, none, none, none, none, none] [] shB G0 := by
    intro ad1 k n x4 x5 x6 G0 hF hk hn hw
    unfold w_L_makes_B_j92 at hw
    refine aw_iconst (v := (-1)) C dL_makes_92 (by decide) ?_
    exact aw_msk [true, true, true, false, true, true, true, false, false, false, false, false, false] (h93 ad1 _ _ x4 x5 x6 (-1) _ hF (by omega) (by omega) hw)
  have h43 : ∀ (ad1 : Nat → Nat) (k n : Nat) (x4 : Int32) (y0 : Int32) (G0 : Gt), (∀ j, j < 145 → ad1 j = ad j) → k + 6 ≤ 6 → n + 36 ≤ 36 → w_L_makes_B_j43 K x4 y0 G0 → aw p l e { frames := 9, cells := 6, slots := 36, locals := 211 } s m args below meth c 13 D tA A (MQ below (QL D tA ad A shB (fun r s' G' => r = some (.int 1) ∧ K s' G')) args s 6 36 A) k n ad1 43 [some (.ref 0), some (.ref 46), some (.ref 47), none, some (.int x4), none, none, none, none, none, none, none, none] [.int y0] shB G0 := by
    intro ad1 k n x4 y0 G0 hF hk hn hw
    unfold w_L_makes_B_j43 at hw
    refine aw_istore C dL_makes_43 (by decide) rfl ?_
    refine aw_iload C dL_makes_45 rfl ?_
    refine aw_aloadn C dL_makes_47 rfl ?_
    refine aw_iload C dL_makes_48 rfl ?_
    refine aw_callS C dL_makes_50 (t_L_firstOf shOK_B  y0 x4 _ _ hw) mM_L_102 bL_firstOf rfl rfl ⟨Nat.le_of_ble_eq_true rfl, Nat.le_of_ble_eq_true rfl, by show _ ≤ 6; omega, by show _ ≤ 36; omega⟩ _ rfl (Nat.le_of_ble_eq_true rfl) (fun r50 G2 hq => ?_)
    obtain ⟨v1, rfl, hw⟩ := hq
    refine aw_istore C dL_makes_53 (by decide) rfl ?_
    refine aw_iload C dL_makes_55 rfl ?_
    refine aw_callS C dL_makes_57 (t_L_hasSecond  y0 _ _ hw) mM_L_106 bL_hasSecond rfl rfl ⟨Nat.le_of_ble_eq_true rfl, Nat.le_of_ble_eq_true rfl, by show _ ≤ 6; omega, by show _ ≤ 36; omega⟩ _ rfl (Nat.le_of_ble_eq_true rfl) (fun r57 G4 hq => ?_)
    obtain ⟨v3, rfl, hw⟩ := hq
    refine aw_if_ne C dL_makes_60 81 (by decide) hw (fun hc60 hw => ?_) (fun hc60 hw => ?_)
    · exact aw_msk [true, true, true, false, true, true, true, false, false, false, false, false, false] (h81 ad1 _ _ x4 y0 v1 _ hF (by omega) (by omega) hw)
    · refine aw_iload C dL_makes_63 rfl ?_
      refine aw_bipush (v := 18) C dL_makes_65 (by decide) ?_
      refine aw_ic_ne C dL_makes_67 92 (by decide) hw (fun hc67 hw => ?_) (fun hc67 hw => ?_)
      · exact aw_msk [true, true, true, false, true, true, true, false, false, false, false, false, false] (h92 ad1 _ _ x4 y0 v1 _ hF (by omega) (by omega) hw)
      · refine aw_iload C dL_makes_70 rfl ?_
        refine aw_iconst (v := 3) C dL_makes_72 (by decide) ?_
        refine aw_ishr C dL_makes_73 ?_
        refine aw_iconst (v := 3) C dL_makes_74 (by decide) ?_
        refine aw_callS C dL_makes_75 (t_L_low  (x4 >>> (3 &&& 31)) 3 _ _ hw) mM_L_93 bL_low rfl rfl ⟨Nat.le_of_ble_eq_true rfl, Nat.le_of_ble_eq_true rfl, by show _ ≤ 6; omega, by show _ ≤ 36; omega⟩ _ rfl (Nat.le_of_ble_eq_true rfl) (fun r75 G32 hq => ?_)
        obtain ⟨v31, rfl, hw⟩ := hq
        refine aw_if_le C dL_makes_78 92 (by decide) hw (fun hc78 hw => ?_) (fun hc78 hw => ?_)
        · exact aw_msk [true, true, true, false, true, true, true, false, false, false, false, false, false] (h92 ad1 _ _ x4 y0 v1 _ hF (by omega) (by omega) hw)
        · exact aw_msk [true, true, true, false, true, true, true, false, false, false, false, false, false] (h81 ad1 _ _ x4 y0 v1 _ hF (by omega) (by omega) hw)
  have h35 : ∀ (ad1 : Nat → Nat) (k n : Nat) (x3 : Int32) (x4 : Int32) (G0 : Gt), (∀ j, j < 145 → ad1 j = ad j) → k + 6 ≤ 6 → n + 36 ≤ 36 → w_L_makes_B_j35 K x3 x4 G0 → aw p l e { frames := 9, cells := 6, slots := 36, locals := 211 } s m args below meth c 13 D tA A (MQ below (QL D tA ad A shB (fun r s' G' => r = some (.int 1) ∧ K s' G')) args s 6 36 A) k n ad1 35 [some (.ref 0), some (.ref 46), some (.ref 47), some (.int x3), some (.int x4), none, none, none, none, none, none, none, none] [] shB G0 := by
    intro ad1 k n x3 x4 G0 hF hk hn hw
    unfold w_L_makes_B_j35 at hw
    refine aw_iloadn C dL_makes_35 rfl ?_
    refine aw_iconst (v := 4) C dL_makes_36 (by decide) ?_
    refine aw_ishr C dL_makes_37 ?_
    refine aw_bipush (v := 40) C dL_makes_38 (by decide) ?_
    refine aw_callS C dL_makes_40 (t_L_low  (x3 >>> (4 &&& 31)) 40 _ _ hw) mM_L_93 bL_low rfl rfl ⟨Nat.le_of_ble_eq_true rfl, Nat.le_of_ble_eq_true rfl, by show _ ≤ 6; omega, by show _ ≤ 36; omega⟩ _ rfl (Nat.le_of_ble_eq_true rfl) (fun r40 G38 hq => ?_)
    obtain ⟨v37, rfl, hw⟩ := hq
    exact aw_msk [true, true, true, false, true, false, false, false, false, false, false, false, false] (h43 ad1 _ _ x4 v37 _ hF (by omega) (by omega) hw)
  have h20 : ∀ (ad1 : Nat → Nat) (k n : Nat) (x3 : Int32) (x4 : Int32) (G0 : Gt), (∀ j, j < 145 → ad1 j = ad j) → k + 6 ≤ 6 → n + 36 ≤ 36 → w_L_makes_B_j20 K x3 x4 G0 → aw p l e { frames := 9, cells := 6, slots := 36, locals := 211 } s m args below meth c 13 D tA A (MQ below (QL D tA ad A shB (fun r s' G' => r = some (.int 1) ∧ K s' G')) args s 6 36 A) k n ad1 20 [some (.ref 0), some (.ref 46), some (.ref 47), some (.int x3), some (.int x4), none, none, none, none, none, none, none, none] [] shB G0 := by
    intro ad1 k n x3 x4 G0 hF hk hn hw
    unfold w_L_makes_B_j20 at hw
    refine aw_iloadn C dL_makes_20 rfl ?_
    refine aw_bipush (v := 9) C dL_makes_21 (by decide) ?_
    refine aw_callS C dL_makes_23 (t_L_low  x3 9 _ _ hw) mM_L_93 bL_low rfl rfl ⟨Nat.le_of_ble_eq_true rfl, Nat.le_of_ble_eq_true rfl, by show _ ≤ 6; omega, by show _ ≤ 36; omega⟩ _ rfl (Nat.le_of_ble_eq_true rfl) (fun r23 G36 hq => ?_)
    obtain ⟨v35, rfl, hw⟩ := hq
    refine aw_iconst (v := 2) C dL_makes_26 (by decide) ?_
    refine aw_ic_ne C dL_makes_27 35 (by decide) hw (fun hc27 hw => ?_) (fun hc27 hw => ?_)
    · exact aw_msk [true, true, true, true, true, false, false, false, false, false, false, false, false] (h35 ad1 _ _ x3 x4 _ hF (by omega) (by omega) hw)
    · refine aw_bipush (v := 29) C dL_makes_30 (by decide) ?_
      refine aw_goto (tgt := 43) C dL_makes_32 (by decide) ?_
      exact aw_msk [true, true, true, false, true, false, false, false, false, false, false, false, false] (h43 ad1 _ _ x4 29 _ hF (by omega) (by omega) hw)
  unfold w_L_makes_B at hw
  show aw p l e { frames := 9, cells := 6, slots := 36, locals := 211 } s m args below meth c 13 D tA A (MQ below (QL D tA ad A shB (fun r s' G' => r = some (.int 1) ∧ K s' G')) args s 6 36 A) 0 0 ad 0 [some (.ref 0), some (.ref 46), some (.ref 47), some (.int p3), some (.int p4), none, none, none, none, none, none, none, none] [] shB G0
  refine aw_aloadn C dL_makes_0 rfl ?_
  refine aw_iconst (v := 0) C dL_makes_1 (by decide) ?_
  refine aw_iald C dL_makes_2 (sA_47 shOK_B) hw.1 ?_
  replace hw := hw.2
  refine aw_if_eq C dL_makes_3 16 (by decide) hw (fun hc3 hw => ?_) (fun hc3 hw => ?_)
  · refine aw_iconst (v := 0) C dL_makes_16 (by decide) ?_
    refine aw_goto (tgt := 43) C dL_makes_17 (by decide) ?_
    exact aw_msk [true, true, true, false, true, false, false, false, false, false, false, false, false] (h43 ad _ _ p4 0 _ hF0 (by omega) (by omega) hw)
  · refine aw_iloadn C dL_makes_6 rfl ?_
    refine aw_bipush (v := 9) C dL_makes_7 (by decide) ?_
    refine aw_callS C dL_makes_9 (t_L_low  p3 9 _ _ hw) mM_L_93 bL_low rfl rfl ⟨Nat.le_of_ble_eq_true rfl, Nat.le_of_ble_eq_true rfl, by show _ ≤ 6; omega, by show _ ≤ 36; omega⟩ _ rfl (Nat.le_of_ble_eq_true rfl) (fun r9 G34 hq => ?_)
    obtain ⟨v33, rfl, hw⟩ := hq
    refine aw_iconst (v := 2) C dL_makes_12 (by decide) ?_
    refine aw_ic_ge C dL_makes_13 20 (by decide) hw (fun hc13 hw => ?_) (fun hc13 hw => ?_)
    · exact aw_msk [true, true, true, true, true, false, false, false, false, false, false, false, false] (h20 ad _ _ p3 p4 _ hF0 (by omega) (by omega) hw)
    · refine aw_iconst (v := 0) C dL_makes_16 (by decide) ?_
      refine aw_goto (tgt := 43) C dL_makes_17 (by decide) ?_
      exact aw_msk [true, true, true, false, true, false, false, false, false, false, false, false, false] (h43 ad _ _ p4 0 _ hF0 (by omega) (by omega) hw)
