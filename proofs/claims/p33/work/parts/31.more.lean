theorem acStat : Cond.static arraycopyName ∈ GW := gw_t (tb4 (List.mem_of_getElem? (i := 152) rfl)) rfl
theorem acNat : Cond.native arraycopyName ∈ GW := gw_t (tb4 (List.mem_of_getElem? (i := 153) rfl)) rfl
section AW5
variable {p : Program} {l : Launch} {e : Env} {R : Room} {s : State} {m : MethodId} {args : Array Value} {below : List Frame} {meth : Method} {c : Code} {D : va_G} {tA : Nat → ClassId} {A : Nat → Prop} {ad : Nat → Nat} {nL : Nat} {Q : State → Prop} {k n : Nat} {cc : ByteArray}
variable {pc : Nat} {lv : List (Option Value)} {st : List Value} {sh : Sh} {G : Gt}
theorem cW_kept {D : va_G} {tA : Nat → ClassId} {ad : Nat → Nat} {G : Gt} {sh : Sh} {H H1 : Heap} (h : va_P D vwCl (cW tA ad G sh) H) (hk : ∀ q : Nat, q < H.size → H1[q]? = H[q]?) : va_P D vwCl (cW tA ad G sh) H1 := va_P.kept h (fun k x hx => hk x.1 ((h k x hx).lt))
theorem aw_strlen (C : cx p s m args meth c RX4 cc nL D tA A) (d1 : decode cc pc = .ok (.ldc 50, 2)) (d2 : decode cc (pc + 2) = .ok (.invokevirtual 52, 3)) (hR : 2 ≤ R.frames ∧ 40 ≤ R.locals ∧ k ≤ R.cells ∧ n ≤ R.slots) (hcat : (st.map fun v => v.category).sum ≤ 8)
    (kk : aw p l e R s m args below meth c nL D tA A Q k n ad (pc + 5) lv (.int 120 :: st) sh G) : aw p l e R s m args below meth c nL D tA A Q k n ad pc lv st sh G := by
  intro H locs ls h1 h2 h3 h4
  obtain ⟨a, v, hj, hr⟩ := sx_sj C.2.2.2.2.2.2.2.2
  refine va_ldcS C.1 C.2.1 C.2.2.2.1 hr d1 ?_
  refine j_callV (A1 := A) (B := A) (a := a) (v := v) (b := a) (rest := st.map (tv ad)) (As := []) C.1 C.2.1 C.2.2.1 C.2.2.2.1 C.2.2.2.2.1 hj h3 (fun _ h => h) (vk_recv hj.2.2 (i := 0) (by decide) h3) (cj_length a v) mM_X4_52 bJ0_length_8abf5 rfl h4.1 ⟨hR.1, Nat.le_trans (Nat.le_of_ble_eq_true rfl) hR.2.1, hR.2.2⟩ rfl (by rw [tv_sum]; exact hcat) d2 (fun r H1 locs1 hk g1 g2 hS1 => ?_)
  subst hk
  exact kk H1 locs1 ls (cW_kept h1 g2) h2 hS1 h4
theorem aw_charAt (C : cx p s m args meth c RX4 cc nL D tA A) {i : Int32} (d1 : decode cc pc = .ok (.ldc 50, 2)) (d2 : decode cc (pc + 2) = .ok (.iload_n 3, 1)) (d3 : decode cc (pc + 3) = .ok (.invokevirtual 58, 3)) (hv : lv[3]? = some (some (.int i))) (hi : vp_in i 120) (hR : 4 ≤ R.frames ∧ 85 ≤ R.locals ∧ k ≤ R.cells ∧ n ≤ R.slots) (hcat : (st.map fun v => v.category).sum ≤ 8)
    (kk : aw p l e R s m args below meth c nL D tA A Q k n ad (pc + 6) lv (.int (txat i) :: st) sh G) : aw p l e R s m args below meth c nL D tA A Q k n ad pc lv st sh G := by
  intro H locs ls h1 h2 h3 h4
  obtain ⟨a, v, hj, hr⟩ := sx_sj C.2.2.2.2.2.2.2.2
  refine va_ldcS C.1 C.2.1 C.2.2.2.1 hr d1 ?_
  refine lv_iload_n C.1 C.2.1 d2 rfl (lo_at h4 hv) ?_
  refine j_callV (A1 := A) (B := A) (a := a) (v := v) (b := a) (rest := st.map (tv ad)) (As := [.int i]) C.1 C.2.1 C.2.2.1 C.2.2.2.1 C.2.2.2.2.1 hj h3 (fun _ h => h) (vk_recv hj.2.2 (i := 0) (by decide) h3) (cj_charAt a v i hi) mM_X4_58 bJ0_charAt_5068e rfl h4.1 ⟨hR.1, Nat.le_trans (Nat.le_of_ble_eq_true rfl) hR.2.1, hR.2.2⟩ rfl (by rw [tv_sum]; exact hcat) d3 (fun r H1 locs1 hk g1 g2 hS1 => ?_)
  subst hk
  exact kk H1 locs1 ls (cW_kept h1 g2) h2 hS1 h4
def rcp (G : Gt) (a b N : Nat) : Gt := fun k j => if k = a then (if j < N then G b j else G a j) else G k j
theorem aw_copy {own : String} (C : cx p s m args meth c own cc nL D tA A) {idx a0 a1 N : Nat} (d : decode cc pc = .ok (.invokestatic idx, 3)) (h0 : sh[a0]? = some (.inl (0, N))) (h1' : sh[a1]? = some (.inl (0, N))) (hN : N < 2 ^ 31) (hl : Cond.methodLink own idx arraycopyName ∈ GW) (hf : 1 ≤ R.frames) (hlo : (st.map fun v => v.category).sum + (nativeFrameWords "java/lang/System" "arraycopy" 5 + 11) ≤ R.locals)
    (kk : aw p l e R s m args below meth c nL D tA A Q k n ad (pc + 3) lv st sh (rcp G a1 a0 N)) : aw p l e R s m args below meth c nL D tA A Q k n ad pc lv (.int (nI N) :: .int 0 :: .ref a1 :: .int 0 :: .ref a0 :: st) sh G := by
  intro H locs ls h1 h2 h3 h4
  have e0 : (0 : Int32).toNatClampNeg = 0 := rfl
  have en : (nI N).toNatClampNeg = N := by
    have := nI_toInt hN
    show (nI N).toInt.toNat = N
    rw [this]; rfl
  refine va_copyi (f := G a0) (g := G a1) (n0 := N) (n1 := N) (ty := .int) (sp := 0) (dp := 0) (n := nI N) C.1 C.2.1 (C.2.2.1.trans h4.1.symm) C.2.2.2.1 (C.2.2.2.2.1 _ hl) (C.2.2.2.2.1 _ acNat) (C.2.2.2.2.1 _ acStat) (C.2.2.2.2.1 _ mI_J10) C.2.2.2.2.2.1 h1 h2 h3 (ps sh a0) (ps sh a1) 0 0 (cW_at h0) (cW_at h1') rfl rfl rfl (by decide) (by decide) ?_ ?_ ?_ (fun i hi => rfl) hf (by rw [tv_sum]; exact hlo) d (fun H1 locs1 g1 g2 g3 => ?_)
  · rw [Int32.lt_iff_toInt_lt, nI_toInt hN, int32_0]; omega
  · rw [e0, en]; omega
  · rw [e0, en]; omega
  · rw [e0, en] at g1 g2
    have ee : (cW tA ad G sh).set (ps sh a1) (ad a1, .inl (tA 0, N, .inl (va_cpy (G a0) (G a1) 0 0 N))) = cW tA ad (rcp G a1 a0 N) sh := by
      have ef : va_cpy (G a0) (G a1) 0 0 N = rcp G a1 a0 N a1 := by
        funext j
        simp only [va_cpy, rcp, if_true]
        by_cases hj : j < N
        · rw [if_pos ⟨by omega, by omega⟩, if_pos hj]; congr 1; omega
        · rw [if_neg (by omega), if_neg hj]
      rw [ef]
      exact cW_seta h1' (fun x hx => by funext j; simp [rcp, hx])
    rw [ee] at g1 g2
    exact kk H1 locs1 ls g1 g2 g3 h4
end AW5
theorem mn_self (x : Int32) : mn x x = x := by simp [mn]
set_option maxHeartbeats 4000000 in
set_option maxRecDepth 100000 in
theorem t_become {l : Launch} {sh : Sh} {a a0 N r r0 : Nat} (hR : isRow sh r a N) (hR0 : isRow sh r0 a0 N) (hN : N < 2 ^ 31) (G0 : Gt) : CT0 l yX6_become cX6_become 2 none 1 40 [.ref r, .ref r0] sh G0 (fun q G' => q = none ∧ G' = rcp G0 a a0 N) := by
  refine CT0_of (by decide) (Nat.le_of_ble_eq_true rfl) rfl ?_
  intro p e s m args below meth c D tA ad A C hr _
  show aw p l e { frames := 1, cells := 0, slots := 0, locals := 40 } s m args below meth c 2 D tA A (MQ below (QC0 D tA ad A sh (fun q G' => q = none ∧ G' = rcp G0 a a0 N)) args s 0 0 A) 0 0 ad 0 [some (.ref r), some (.ref r0)] [] sh G0
  refine aw_aloadn C dX6_become_0 rfl ?_
  refine aw_getR (r := a0) C dX6_become_1 kcX6 hR0.1 0 (by decide) rfl mF_X6_15 ?_
  refine aw_iconst (v := 0) C dX6_become_4 (by decide) ?_
  refine aw_aloadn C dX6_become_5 rfl ?_
  refine aw_getR (r := a) C dX6_become_6 kcX6 hR.1 0 (by decide) rfl mF_X6_15 ?_
  refine aw_iconst (v := 0) C dX6_become_9 (by decide) ?_
  refine aw_aloadn C dX6_become_10 rfl ?_
  refine aw_getR (r := a) C dX6_become_11 kcX6 hR.1 0 (by decide) rfl mF_X6_15 ?_
  refine aw_alen C dX6_become_14 hR.2 (by decide) ?_
  refine aw_aloadn C dX6_become_15 rfl ?_
  refine aw_getR (r := a0) C dX6_become_16 kcX6 hR0.1 0 (by decide) rfl mF_X6_15 ?_
  refine aw_alen C dX6_become_19 hR0.2 (by decide) ?_
  refine aw_mmin C dX6_become_20 mM_X6_27 (by decide) (Nat.le_of_ble_eq_true rfl) (Nat.zero_le _) (Nat.zero_le _) ?_
  rw [mn_self]
  refine aw_copy C dX6_become_23 hR0.2 hR.2 hN mM_X6_30 (by decide) (by decide) ?_
  exact aw_return C hr dX6_become_26 ⟨rfl, rfl⟩
set_option maxHeartbeats 4000000 in
set_option maxRecDepth 100000 in
theorem t_textOf {l : Launch} {sh : Sh} {w : Nat} (hWd : isWorld sh w) (x : Int32) (G0 : Gt) : CT0 l yX9_textOf cX9_textOf 2 (some (.object "Macroloom$Text")) 0 0 [.ref w, .int x] sh G0 (fun q G' => q = some (.ref (txo w x)) ∧ G0 = G') := by
  refine CT0_of (by decide) (Nat.le_of_ble_eq_true rfl) rfl ?_
  intro p e s m args below meth c D tA ad A C hr _
  show aw p l e { frames := 0, cells := 0, slots := 0, locals := 0 } s m args below meth c 2 D tA A (MQ below (QC0 D tA ad A sh (fun q G' => q = some (.ref (txo w x)) ∧ G0 = G')) args s 0 0 A) 0 0 ad 0 [some (.ref w), some (.int x)] [] sh G0
  refine aw_iloadn C dX9_textOf_0 rfl ?_
  refine aw_if_ne (X := True) (Y := True) C dX9_textOf_1 11 (by decide) ⟨fun _ => trivial, fun _ => trivial⟩ (fun hx _ => ?_) (fun hx _ => ?_)
  · refine aw_aloadn C dX9_textOf_11 rfl ?_
    refine aw_getR (r := w + 6) C dX9_textOf_12 kcX9 hWd.1 1 (by decide) rfl mF_X9_18 ?_
    exact aw_areturn C hr dX9_textOf_15 (Or.inr ⟨_, rfl⟩) ⟨by rw [txo, if_neg hx], rfl⟩
  · refine aw_aloadn C dX9_textOf_4 rfl ?_
    refine aw_getR (r := w + 1) C dX9_textOf_5 kcX9 hWd.1 0 (by decide) rfl mF_X9_12 ?_
    refine aw_goto (tgt := 15) C dX9_textOf_8 (by decide) ?_
    exact aw_areturn C hr dX9_textOf_15 (Or.inr ⟨_, rfl⟩) ⟨by rw [txo, if_pos hx], rfl⟩
/-- Program.shapeOf: a letter -/
def shp (kd wh b : Int32) : Int32 := if kd = 18 ∧ wh = 2 ∧ b = -1 then 45 else if ibl kd 40 = 1 ∧ ibl (kd * 3 + wh) 120 = 1 then txat (kd * 3 + wh) else 45
theorem ibl_in {x : Int32} (h : ibl x 120 = 1) : vp_in x 120 := by
  unfold ibl at h
  split at h
  · rename_i hx
    exact vin_of (le_not_lt hx.1) (lt_not_le hx.2) (by decide)
  · cases h
theorem ibl_01 (x b : Int32) : ibl x b = 0 ∨ ibl x b = 1 := by unfold ibl; split <;> simp
theorem shp_c (kd wh b : Int32) : narrow .char (.int (shp kd wh b)) = .int (shp kd wh b) := by
  unfold shp
  split
  · rfl
  · split
    · rename_i h
      exact (txat_c _ (txat_in (ibl_in h.2))).2
    · rfl
set_option maxHeartbeats 4000000 in
set_option maxRecDepth 100000 in
theorem t_shapeOf {l : Launch} {sh : Sh} (kd wh b : Int32) (G0 : Gt) : CT0 l yX4_shapeOf cX4_shapeOf 5 (some .char) 4 85 [.int kd, .int wh, .int b] sh G0 (fun q G' => q = some (.int (shp kd wh b)) ∧ G0 = G') := by
  refine CT0_of (by decide) (Nat.le_of_ble_eq_true rfl) rfl ?_
  intro p e s m args below meth c D tA ad A C hr _
  have hend : ∀ v : Int32, v = shp kd wh b → aw p l e { frames := 4, cells := 0, slots := 0, locals := 85 } s m args below meth c 5 D tA A (MQ below (QC0 D tA ad A sh (fun q G' => q = some (.int (shp kd wh b)) ∧ G0 = G')) args s 0 0 A) 0 0 ad 66 [none, none, none, none, none] [.int v] sh G0 := by
    intro v hv
    exact aw_zreturn C hr dX4_shapeOf_66 (by rw [hv]; exact shp_c _ _ _) ⟨by rw [hv], rfl⟩
  have h64 : 45 = shp kd wh b → aw p l e { frames := 4, cells := 0, slots := 0, locals := 85 } s m args below meth c 5 D tA A (MQ below (QC0 D tA ad A sh (fun q G' => q = some (.int (shp kd wh b)) ∧ G0 = G')) args s 0 0 A) 0 0 ad 64 [none, none, none, none, none] [] sh G0 := by
    intro hv
    refine aw_bipush (v := 45) C dX4_shapeOf_64 (by decide) ?_
    exact hend _ hv
  have h27 : ∀ y : Int32, y = (if kd = 18 ∧ wh = 2 ∧ b = -1 then 1 else 0) → aw p l e { frames := 4, cells := 0, slots := 0, locals := 85 } s m args below meth c 5 D tA A (MQ below (QC0 D tA ad A sh (fun q G' => q = some (.int (shp kd wh b)) ∧ G0 = G')) args s 0 0 A) 0 0 ad 27 [some (.int kd), none, none, some (.int (kd * 3 + wh)), none] [.int y] sh G0 := by
    intro y hy
    refine aw_istore C dX4_shapeOf_27 (by decide) rfl ?_
    refine aw_iload C dX4_shapeOf_29 rfl ?_
    refine aw_if_ne (X := True) (Y := True) C dX4_shapeOf_31 64 (by decide) ⟨fun _ => trivial, fun _ => trivial⟩ (fun hx _ => ?_) (fun hx _ => ?_)
    · have h1 : kd = 18 ∧ wh = 2 ∧ b = -1 := by
        apply Decidable.not_not.mp
        intro z
        rw [if_neg z] at hy
        exact hx hy
      exact aw_msk [false, false, false, false, false] (h64 (by rw [shp, if_pos h1]))
    · have h1 : ¬ (kd = 18 ∧ wh = 2 ∧ b = -1) := by
        intro z
        rw [if_pos z, hx] at hy
        cases hy
      refine aw_iloadn C dX4_shapeOf_34 rfl ?_
      refine aw_bipush (v := 40) C dX4_shapeOf_35 (by decide) ?_
      refine aw_callSN C dX4_shapeOf_37 (t_isBelow kd 40 _) mE_X4_46 bX10_isBelow rfl ⟨Nat.le_of_ble_eq_true rfl, Nat.le_of_ble_eq_true rfl, Nat.zero_le _, Nat.zero_le _⟩ _ rfl (Nat.le_of_ble_eq_true rfl) (fun r37 G37x hq => ?_)
      obtain ⟨rfl, rfl⟩ := hq
      refine aw_if_eq (X := True) (Y := True) C dX4_shapeOf_40 64 (by decide) ⟨fun _ => trivial, fun _ => trivial⟩ (fun hx _ => ?_) (fun hx2 _ => ?_)
      · exact aw_msk [false, false, false, false, false] (h64 (by rw [shp, if_neg h1, if_neg (fun z => absurd (hx.symm.trans z.1) (by decide))]))
      · have i1 : ibl kd 40 = 1 := (ibl_01 kd 40).resolve_left hx2
        refine aw_iloadn C dX4_shapeOf_43 rfl ?_
        refine aw_strlen C dX4_shapeOf_44 dX4_shapeOf_46 (by decide) (Nat.le_of_ble_eq_true rfl) ?_
        refine aw_callSN C dX4_shapeOf_49 (t_isBelow (kd * 3 + wh) 120 _) mE_X4_46 bX10_isBelow rfl ⟨Nat.le_of_ble_eq_true rfl, Nat.le_of_ble_eq_true rfl, Nat.zero_le _, Nat.zero_le _⟩ _ rfl (Nat.le_of_ble_eq_true rfl) (fun r49 G49x hq => ?_)
        obtain ⟨rfl, rfl⟩ := hq
        refine aw_if_eq (X := True) (Y := True) C dX4_shapeOf_52 64 (by decide) ⟨fun _ => trivial, fun _ => trivial⟩ (fun hx _ => ?_) (fun hx3 _ => ?_)
        · exact aw_msk [false, false, false, false, false] (h64 (by rw [shp, if_neg h1, if_neg (fun z => absurd (hx.symm.trans z.2) (by decide))]))
        · have i2 : ibl (kd * 3 + wh) 120 = 1 := (ibl_01 _ 120).resolve_left hx3
          refine aw_charAt C dX4_shapeOf_55 dX4_shapeOf_57 dX4_shapeOf_58 rfl (ibl_in i2) (by decide) (by decide) ?_
          refine aw_goto (tgt := 66) C dX4_shapeOf_61 (by decide) ?_
          exact aw_msk [false, false, false, false, false] (hend _ (by rw [shp, if_neg h1, if_pos ⟨i1, i2⟩]))
  have h26 : ¬ (kd = 18 ∧ wh = 2 ∧ b = -1) → aw p l e { frames := 4, cells := 0, slots := 0, locals := 85 } s m args below meth c 5 D tA A (MQ below (QC0 D tA ad A sh (fun q G' => q = some (.int (shp kd wh b)) ∧ G0 = G')) args s 0 0 A) 0 0 ad 26 [some (.int kd), none, none, some (.int (kd * 3 + wh)), none] [] sh G0 := by
    intro hv
    refine aw_iconst (v := 0) C dX4_shapeOf_26 (by decide) ?_
    exact h27 0 (by rw [if_neg hv])
  show aw p l e { frames := 4, cells := 0, slots := 0, locals := 85 } s m args below meth c 5 D tA A (MQ below (QC0 D tA ad A sh (fun q G' => q = some (.int (shp kd wh b)) ∧ G0 = G')) args s 0 0 A) 0 0 ad 0 [some (.int kd), some (.int wh), some (.int b), none, none] [] sh G0
  refine aw_iloadn C dX4_shapeOf_0 rfl ?_
  refine aw_iconst (v := 3) C dX4_shapeOf_1 (by decide) ?_
  refine aw_imul C dX4_shapeOf_2 ?_
  refine aw_iloadn C dX4_shapeOf_3 rfl ?_
  refine aw_iadd C dX4_shapeOf_4 ?_
  refine aw_istoren C dX4_shapeOf_5 (by decide) rfl ?_
  refine aw_iloadn C dX4_shapeOf_6 rfl ?_
  refine aw_bipush (v := 18) C dX4_shapeOf_7 (by decide) ?_
  refine aw_ic_ne (X := True) (Y := True) C dX4_shapeOf_9 26 (by decide) ⟨fun _ => trivial, fun _ => trivial⟩ (fun hx _ => ?_) (fun hx _ => ?_)
  · exact aw_msk [true, false, false, true, false] (h26 (fun z => hx z.1))
  · refine aw_iloadn C dX4_shapeOf_12 rfl ?_
    refine aw_iconst (v := 2) C dX4_shapeOf_13 (by decide) ?_
    refine aw_ic_ne (X := True) (Y := True) C dX4_shapeOf_14 26 (by decide) ⟨fun _ => trivial, fun _ => trivial⟩ (fun hx2 _ => ?_) (fun hx2 _ => ?_)
    · exact aw_msk [true, false, false, true, false] (h26 (fun z => hx2 z.2.1))
    · refine aw_iloadn C dX4_shapeOf_17 rfl ?_
      refine aw_iconst (v := -1) C dX4_shapeOf_18 (by decide) ?_
      refine aw_ic_ne (X := True) (Y := True) C dX4_shapeOf_19 26 (by decide) ⟨fun _ => trivial, fun _ => trivial⟩ (fun hx3 _ => ?_) (fun hx3 _ => ?_)
      · exact aw_msk [true, false, false, true, false] (h26 (fun z => hx3 z.2.2))
      · refine aw_iconst (v := 1) C dX4_shapeOf_22 (by decide) ?_
        refine aw_goto (tgt := 27) C dX4_shapeOf_23 (by decide) ?_
        exact aw_msk [true, false, false, true, false] (h27 1 (by rw [if_pos ⟨hx, hx2, hx3⟩]))
