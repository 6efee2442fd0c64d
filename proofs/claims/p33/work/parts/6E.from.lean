/-! the law from its entry -/
def G_law : Gt := gu (gu (gz (gz (gz (gz (g_X10 0 1 (gz (fun _ _ => 0) 0 0)) 46 0) 47 0) 48 0) 49 0) 47 1 300) 47 4 50000
def shL1 : Sh := [.inr (10, [some none, some none, some none, some none, none, some none])]
theorem len_T46 : (shA.take 46).length = 46 := by decide +kernel
theorem len_T47 : (shA.take 47).length = 47 := by decide +kernel
theorem len_T48 : (shA.take 48).length = 48 := by decide +kernel
theorem len_T49 : (shA.take 49).length = 49 := by decide +kernel
set_option maxHeartbeats 40000000 in
set_option maxRecDepth 100000 in
theorem law_from {p : Program} {e : Env} {s : State} {m : MethodId} {below : List Frame} {meth : Method} {c : Code} {IA IB : Gt → Prop} (l : Launch) (hflags : l.flags = flags0) {b L : Nat} {xs : Nat → Int32} (hL : L ≤ 260) (C0 : lw_At p s m meth c b L xs) (hI : w_L_notes_A (fun s' G' => s' = shA ∧ IA G') G_law)
    (hA : ∀ (x y : Int32) (G : Gt), IA G → w_L_acts_A (fun s' G' => (s' = shA ∧ IA G') ∨ (s' = shB ∧ IB G')) x y G) (hB : ∀ (x y : Int32) (G : Gt), IB G → w_L_acts_B (fun s' G' => s' = shB ∧ IB G') x y G) : W p l e room_1 s m #[Value.ref b] below meth c s.heap [] 0 0 (lw_Z below #[Value.ref b] s) (entryFrame m ([Value.ref b] : List Value).toArray 8) := by
  have hlf : l.stackTraces = false := by
    unfold Launch.stackTraces
    rw [hflags]
    decide +kernel
  obtain ⟨D, tA, hK⟩ := law_K C0
  have hsx := law_sx C0
  obtain ⟨hx, hb, hr, hml, hown, hts, hX, hbl, hlocks, hgv⟩ := C0
  have C : cx p s m #[Value.ref b] meth c RL code 8 D tA (fun q => s.heap.size ≤ q) := ⟨hx, hb, hml, hown, fun w hw => hts w (gw_tbl hw), hK, hlocks, fun q h => h, hsx⟩
  have hl := lv_entry ([.ref b]) (n := 8) (Nat.le_of_ble_eq_true rfl)
  rw [lg_entry_eq]
  generalize (lg_sl ([.ref b]) ++ List.replicate (8 - (lg_sl ([.ref b])).length) Slot.unset).toArray = ls at hl ⊢
  have main : aw p l e room_1 s m #[Value.ref b] below meth c 8 D tA (fun q => s.heap.size ≤ q) (lw_Z below #[Value.ref b] s) 0 0 (fun q => q) 0 [some (.retAddr b), none, none, none, none, none, none, none] [] [] (fun _ _ => 0) := by
    refine aw_newN (sh := []) (fs := [some none, some none, some none, some none, none, some none]) (fs0 := [.null, .null, .null, .null, .int 0, .null]) C dL_law_0 kcX10 mC_L_11 mN_X10 mI_X10 (by decide +kernel) rfl (by decide) (fun x hx => nomatch hx) trivial trivial (Nat.le_of_ble_eq_true rfl) (Nat.le_of_ble_eq_true rfl) (fun ad1 _ hw1 => ?_)
    change wfL shL1 at hw1
    show aw p l e room_1 s m #[Value.ref b] below meth c 8 D tA (fun q => s.heap.size ≤ q) (lw_Z below #[Value.ref b] s) 1 6 ad1 3 [some (.retAddr b), none, none, none, none, none, none, none] [.ref 0] shL1 (gz (fun _ _ => 0) 0 0)
    refine aw_dup C dL_law_3 rfl ?_
    refine aw_callI C dL_law_4 (t_X10_init (sh := shL1) (b := 0) (L := 1) rfl rfl hw1 _) mM_L_224 bX10_init rfl ⟨Nat.le_of_ble_eq_true rfl, Nat.le_of_ble_eq_true rfl, Nat.le_of_ble_eq_true rfl, Nat.le_of_ble_eq_true rfl⟩ [.ref 0] rfl (Nat.le_of_ble_eq_true rfl) trivial ⟨by decide, trivial⟩ (sh2 := shA.take 46) rfl (fun r4 ad2 G4x hE2 hq => ?_)
    obtain ⟨rfl, rfl⟩ := hq
    have hw2 : wfL (shA.take 46) := wfL_B (by decide +kernel)
    refine aw_astoren C dL_law_7 (by decide) rfl ?_
    refine aw_bipush (v := 60) C dL_law_8 (by decide) ?_
    refine aw_newarr (t := 0) (N := 60) (a0 := (60, .inl (fun _ => 0))) C (by decide) dL_law_10 rfl mA_int (fun _ => rfl) (fun _ => rfl) (by decide) (by decide) (by decide) hw2 ⟨by decide, trivial⟩ trivial (Nat.le_of_ble_eq_true rfl) (Nat.le_of_ble_eq_true rfl) (fun ad3 _ _ => ?_)
    rw [len_T46]
    refine aw_sh (sh1 := shA.take 47) rfl ?_
    have hw3 : wfL (shA.take 47) := wfL_B (by decide +kernel)
    refine aw_astoren C dL_law_12 (by decide) rfl ?_
    refine aw_bipush (v := 7) C dL_law_13 (by decide) ?_
    refine aw_newarr (t := 0) (N := 7) (a0 := (7, .inl (fun _ => 0))) C (by decide) dL_law_15 rfl mA_int (fun _ => rfl) (fun _ => rfl) (by decide) (by decide) (by decide) hw3 ⟨by decide, by decide, trivial⟩ trivial (Nat.le_of_ble_eq_true rfl) (Nat.le_of_ble_eq_true rfl) (fun ad4 _ _ => ?_)
    rw [len_T47]
    refine aw_sh (sh1 := shA.take 48) rfl ?_
    have hw4 : wfL (shA.take 48) := wfL_B (by decide +kernel)
    refine aw_astoren C dL_law_17 (by decide) rfl ?_
    refine aw_bipush (v := 26) C dL_law_18 (by decide) ?_
    refine aw_newarr (t := 0) (N := 26) (a0 := (26, .inl (fun _ => 0))) C (by decide) dL_law_20 rfl mA_int (fun _ => rfl) (fun _ => rfl) (by decide) (by decide) (by decide) hw4 ⟨by decide, by decide, by decide, trivial⟩ trivial (Nat.le_of_ble_eq_true rfl) (Nat.le_of_ble_eq_true rfl) (fun ad5 _ _ => ?_)
    rw [len_T48]
    refine aw_sh (sh1 := shA.take 49) rfl ?_
    have hw5 : wfL (shA.take 49) := wfL_B (by decide +kernel)
    refine aw_astore C dL_law_22 (by decide) rfl ?_
    refine aw_bipush (v := 62) C dL_law_24 (by decide) ?_
    refine aw_newarr (t := 0) (N := 62) (a0 := (62, .inl (fun _ => 0))) C (by decide) dL_law_26 rfl mA_int (fun _ => rfl) (fun _ => rfl) (by decide) (by decide) (by decide) hw5 ⟨by decide, by decide, by decide, by decide, trivial⟩ trivial (Nat.le_of_ble_eq_true rfl) (Nat.le_of_ble_eq_true rfl) (fun ad6 _ _ => ?_)
    rw [len_T49]
    refine aw_phs (ph := List.replicate 34 (.inl (9, 0))) (fun x hx => by rw [(List.mem_replicate.mp hx).2]; rfl) ?_
    refine aw_sh (sh1 := shA) rfl ?_
    refine aw_astore C dL_law_28 (by decide) rfl ?_
    refine aw_aloadn C dL_law_30 rfl ?_
    refine aw_iconst (v := 1) C dL_law_31 (by decide) ?_
    refine aw_sipush (v := 300) C dL_law_32 (by decide) ?_
    refine aw_iast C dL_law_35 (sA_47 shOK_A) (by unfold vp_in; decide) (F := fun G1 => G1 = gu _ 47 1 300) ⟨_, rfl, rfl⟩ (fun G1 hG1 => ?_)
    subst hG1
    refine aw_aloadn C dL_law_36 rfl ?_
    refine aw_iconst (v := 4) C dL_law_37 (by decide) ?_
    refine aw_ldc (v := 50000) C dL_law_38 mK_L_158 ?_
    refine aw_iast C dL_law_40 (sA_47 shOK_A) (by unfold vp_in; decide) (F := fun G1 => G1 = G_law) ⟨_, rfl, rfl⟩ (fun G1 hG1 => ?_)
    subst hG1
    refine aw_aloadn C dL_law_41 rfl ?_
    refine aw_aload C dL_law_42 rfl ?_
    refine aw_runQ (mc := 41) (ms := 246) (rest := []) C (run_S C dL_law_44 (t_L_notes_A hlf _ _ hI) mM_L_135 bL_notes rfl rfl ⟨Nat.le_of_ble_eq_true rfl, Nat.le_of_ble_eq_true rfl, Nat.le_of_ble_eq_true rfl, Nat.le_of_ble_eq_true rfl⟩ _ rfl (Nat.le_of_ble_eq_true rfl)) ⟨by decide, by decide, by decide, by decide, by decide, trivial⟩ trivial (fun r1 ad7 s1 G1 hE1 hq => ?_)
    obtain ⟨rfl, rfl, hI1⟩ := hq
    refine aw_istore C dL_law_47 (by decide) rfl ?_
    refine aw_iconst (v := nI 0) C dL_law_49 (by decide) ?_
    refine aw_istore C dL_law_50 (by decide) rfl ?_
    exact (law_loop hlf hr C hX hbl hL hA hB 110 0 rfl).2 ad7 G1 _ _ hI1 (Nat.le_of_ble_eq_true rfl) (Nat.le_of_ble_eq_true rfl)
  exact main s.heap [] ls (fun k q h => by simp [cW, cWx] at h) ⟨fun i j p q h => by simp [cW, cWx] at h, fun k q h => by simp [cW, cWx] at h⟩ va_S.rf (lv_less hl (by intro q hq; simpa [lo, tv, lv_args] using hq))
