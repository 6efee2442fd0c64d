/-! the law: from what its groups keep to its end -/
theorem nI_mul2 (a b : Nat) : nI a * nI b = nI (a * b) := by
  show Int32.ofNat a * Int32.ofNat b = Int32.ofNat (a * b)
  rw [Int32.ofNat_mul]
theorem law_in {L t : Nat} (ht : t < 2 ^ 31) (hL : L < 2 ^ 31) (h : ¬ nI L ≤ nI t) : vp_in (nI t) L := by
  rw [Int32.le_iff_toInt_le, nI_toInt hL, nI_toInt ht] at h
  exact vp_in_nI (by omega) hL
set_option maxHeartbeats 40000000 in
set_option maxRecDepth 100000 in
theorem law_loop {p : Program} {l : Launch} {e : Env} {s : State} {m : MethodId} {below : List Frame} {meth : Method} {c : Code} {D : va_G} {tA : Nat → ClassId} {b L : Nat} {xs : Nat → Int32} {IA IB : Gt → Prop} (hlf : l.stackTraces = false) (hr : meth.sig.returnType = ret) (C : cx p s m #[Value.ref b] meth c RL code 8 D tA (fun q => s.heap.size ≤ q)) (hX : va_X b L xs s s.heap) (hbl : b < s.heap.size) (hL : L ≤ 260)
    (hA : ∀ (x y : Int32) (G : Gt), IA G → w_L_acts_A (fun s' G' => (s' = shA ∧ IA G') ∨ (s' = shB ∧ IB G')) x y G) (hB : ∀ (x y : Int32) (G : Gt), IB G → w_L_acts_B (fun s' G' => s' = shB ∧ IB G') x y G) :
    ∀ (d t : Nat), t + d = 110 →
      (∀ (ad : Nat → Nat) (G : Gt) (k n : Nat), IB G → k ≤ 3000 + 1200 * t → n ≤ 100000 + 28000 * t → aw p l e room_1 s m #[Value.ref b] below meth c 8 D tA (fun q => s.heap.size ≤ q) (lw_Z below #[Value.ref b] s) k n ad 52 [some (.retAddr b), some (.ref 0), some (.ref 46), some (.ref 47), some (.ref 48), some (.ref 49), some (.int 1), some (.int (nI t))] [] shB G) ∧
      (∀ (ad : Nat → Nat) (G : Gt) (k n : Nat), IA G → k ≤ 3000 + 1200 * t → n ≤ 100000 + 28000 * t → aw p l e room_1 s m #[Value.ref b] below meth c 8 D tA (fun q => s.heap.size ≤ q) (lw_Z below #[Value.ref b] s) k n ad 52 [some (.retAddr b), some (.ref 0), some (.ref 46), some (.ref 47), some (.ref 48), some (.ref 49), some (.int 1), some (.int (nI t))] [] shA G) := by
  have hbA : ¬ (fun q => s.heap.size ≤ q) b := Nat.not_le.mpr hbl
  have hend : ∀ (sh : Sh) (ad : Nat → Nat) (G : Gt) (k n : Nat), k ≤ 3000 + 1200 * 110 → n ≤ 100000 + 28000 * 110 → aw p l e room_1 s m #[Value.ref b] below meth c 8 D tA (fun q => s.heap.size ≤ q) (lw_Z below #[Value.ref b] s) k n ad 52 [some (.retAddr b), some (.ref 0), some (.ref 46), some (.ref 47), some (.ref 48), some (.ref 49), some (.int 1), some (.int (nI 110))] [] sh G := by
    intro sh ad G k n hk hn
    refine aw_iload C dL_law_52 rfl ?_
    refine aw_bipush (v := 110) C dL_law_54 (by decide) ?_
    refine aw_ic_ge (X := True) (Y := True) C dL_law_56 100 (by decide) ⟨fun _ => trivial, fun _ => trivial⟩ (fun _ _ => ?_) (fun hx _ => absurd (by decide) hx)
    refine aw_iload C dL_law_100 rfl ?_
    intro H locs ls h1 h2 h3 h4
    refine va_forget (fun q hq => h3.2.2 q hq) ?_
    refine W.widen (k := 600104) (n := 7301314) (by omega) (by omega) ?_
    exact lw_ret C.1 C.2.1 hr C.2.2.2.2.2.2.1 dL_law_102
  have hat : ∀ (t : Nat), t < 1000 → CAt l b L xs (nI t) := fun t ht => t_L_at (nI t) (fun h => law_in (by omega) (by omega) h)
  intro d
  induction d with
  | zero =>
    intro t ht
    have : t = 110 := by omega
    subst this
    exact ⟨fun ad G k n _ hk hn => hend _ ad G k n hk hn, fun ad G k n _ hk hn => hend _ ad G k n hk hn⟩
  | succ d ih =>
    intro t ht
    obtain ⟨ihB, ihA⟩ := ih (t + 1) (by omega)
    have hlt : ¬ (110 : Int32) ≤ nI t := by
      rw [show (110 : Int32) = nI 110 from rfl, Int32.le_iff_toInt_le, nI_toInt (by omega), nI_toInt (by omega)]
      omega
    have e2 : (2 : Int32) * nI t = nI (2 * t) := nI_mul2 2 t
    have e3 : nI (2 * t) + 1 = nI (2 * t + 1) := by rw [show (1 : Int32) = nI 1 from rfl, nI_add]
    have hnext : ∀ (sh : Sh) (ad : Nat → Nat) (G : Gt) (k n : Nat), aw p l e room_1 s m #[Value.ref b] below meth c 8 D tA (fun q => s.heap.size ≤ q) (lw_Z below #[Value.ref b] s) k n ad 52 [some (.retAddr b), some (.ref 0), some (.ref 46), some (.ref 47), some (.ref 48), some (.ref 49), some (.int 1), some (.int (nI (t + 1)))] [] sh G → aw p l e room_1 s m #[Value.ref b] below meth c 8 D tA (fun q => s.heap.size ≤ q) (lw_Z below #[Value.ref b] s) k n ad 92 [some (.retAddr b), some (.ref 0), some (.ref 46), some (.ref 47), some (.ref 48), some (.ref 49), some (.int 1), some (.int (nI t))] [.int 1] sh G := by
      intro sh ad G k n hk
      refine aw_istore C dL_law_92 (by decide) rfl ?_
      refine aw_iinc (w := nI (t + 1)) C dL_law_94 rfl (by rw [show Int32.ofInt 1 = nI 1 from by decide, nI_add]) (by decide) rfl ?_
      refine aw_goto (tgt := 52) C dL_law_97 (by decide) ?_
      exact hk
    have hhead : ∀ (sh : Sh) (ad : Nat → Nat) (G : Gt) (k n : Nat), shOK sh → k ≤ 3000 + 1200 * t → n ≤ 100000 + 28000 * t →
        (∀ (ad1 : Nat → Nat), aw p l e room_1 s m #[Value.ref b] below meth c 8 D tA (fun q => s.heap.size ≤ q) (lw_Z below #[Value.ref b] s) k n ad1 89 [some (.retAddr b), some (.ref 0), some (.ref 46), some (.ref 47), some (.ref 48), some (.ref 49), some (.int 1), some (.int (nI t))] [.int (atv L xs (nI (2 * t + 1))), .int (atv L xs (nI (2 * t))), .ref 49, .ref 48, .ref 47, .ref 46, .ref 0] sh G) →
        (rk sh.length [some (.retAddr b), some (.ref 0), some (.ref 46), some (.ref 47), some (.ref 48), some (.ref 49), some (.int 1), some (.int (nI t))]) →
        aw p l e room_1 s m #[Value.ref b] below meth c 8 D tA (fun q => s.heap.size ≤ q) (lw_Z below #[Value.ref b] s) k n ad 52 [some (.retAddr b), some (.ref 0), some (.ref 46), some (.ref 47), some (.ref 48), some (.ref 49), some (.int 1), some (.int (nI t))] [] sh G := by
      intro sh ad G k n S hk hn hgo hrk
      obtain ⟨r0, r46, r47, r48, r49, -⟩ := hrk
      refine aw_iload C dL_law_52 rfl ?_
      refine aw_bipush (v := 110) C dL_law_54 (by decide) ?_
      refine aw_ic_ge (X := True) (Y := True) C dL_law_56 100 (by decide) ⟨fun _ => trivial, fun _ => trivial⟩ (fun hx _ => absurd hx hlt) (fun _ _ => ?_)
      refine aw_iload C dL_law_59 rfl ?_
      refine aw_if_eq (X := True) (Y := True) C dL_law_61 100 (by decide) ⟨fun _ => trivial, fun _ => trivial⟩ (fun hx _ => ?_) (fun _ _ => ?_)
      · exact (show False by revert hx; decide).elim
      refine aw_aloadn C dL_law_64 rfl ?_
      refine aw_aloadn C dL_law_65 rfl ?_
      refine aw_aloadn C dL_law_66 rfl ?_
      refine aw_aload C dL_law_67 rfl ?_
      refine aw_aload C dL_law_69 rfl ?_
      refine aw_aloadnR C dL_law_71 rfl ?_
      refine aw_iconst (v := 2) C dL_law_72 (by decide) ?_
      refine aw_iload C dL_law_73 rfl ?_
      refine aw_imul C dL_law_75 ?_
      rw [e2]
      refine aw_runQ (mc := 0) (ms := 0) (rest := [.ref 49, .ref 48, .ref 47, .ref 46, .ref 0]) C (run_At C dL_law_76 (hat (2 * t) (by omega)) mM_L_225 bL_at rfl hX hbl hbA ⟨Nat.le_of_ble_eq_true rfl, Nat.le_of_ble_eq_true rfl, by show _ ≤ 600104; omega, by show _ ≤ 7301314; omega⟩ _ rfl (Nat.le_of_ble_eq_true rfl)) ⟨r0, r46, r47, r48, r49, trivial⟩ ⟨r49, r48, r47, r46, r0, trivial⟩ (fun r1 ad1 s1 G1 hE1 hq => ?_)
      obtain ⟨rfl, rfl, rfl⟩ := hq
      refine aw_aloadnR C dL_law_79 rfl ?_
      refine aw_iconst (v := 2) C dL_law_80 (by decide) ?_
      refine aw_iload C dL_law_81 rfl ?_
      refine aw_imul C dL_law_83 ?_
      refine aw_iconst (v := 1) C dL_law_84 (by decide) ?_
      refine aw_iadd C dL_law_85 ?_
      rw [e2, e3]
      refine aw_runQ (mc := 0) (ms := 0) (rest := [.int (atv L xs (nI (2 * t))), .ref 49, .ref 48, .ref 47, .ref 46, .ref 0]) C (run_At C dL_law_86 (hat (2 * t + 1) (by omega)) mM_L_225 bL_at rfl hX hbl hbA ⟨Nat.le_of_ble_eq_true rfl, Nat.le_of_ble_eq_true rfl, by show _ ≤ 600104; omega, by show _ ≤ 7301314; omega⟩ _ rfl (Nat.le_of_ble_eq_true rfl)) ⟨r0, r46, r47, r48, r49, trivial⟩ ⟨r49, r48, r47, r46, r0, trivial⟩ (fun r1 ad2 s1 G1 hE1 hq => ?_)
      obtain ⟨rfl, rfl, rfl⟩ := hq
      exact hgo ad2
    constructor
    · intro ad G k n hI hk hn
      refine hhead shB ad G k n shOK_B hk hn (fun ad1 => ?_) ⟨by decide, by decide, by decide, by decide, by decide, trivial⟩
      refine aw_runQ (mc := 1096) (ms := 6614) (rest := []) C (run_S C dL_law_89 (t_L_acts_B hlf _ _ _ _ (hB _ _ G hI)) mM_L_228 bL_acts rfl rfl ⟨Nat.le_of_ble_eq_true rfl, Nat.le_of_ble_eq_true rfl, by show _ ≤ 600104; omega, by show _ ≤ 7301314; omega⟩ _ rfl (Nat.le_of_ble_eq_true rfl)) ⟨by decide, by decide, by decide, by decide, by decide, trivial⟩ trivial (fun r1 ad2 s1 G1 hE1 hq => ?_)
      obtain ⟨rfl, rfl, hI1⟩ := hq
      exact hnext _ _ _ _ _ (ihB ad2 G1 _ _ hI1 (by omega) (by omega))
    · intro ad G k n hI hk hn
      refine hhead shA ad G k n shOK_A hk hn (fun ad1 => ?_) ⟨by decide, by decide, by decide, by decide, by decide, trivial⟩
      refine aw_runQ (mc := 1156) (ms := 27313) (rest := []) C (run_S C dL_law_89 (t_L_acts_A hlf _ _ _ _ (hA _ _ G hI)) mM_L_228 bL_acts rfl rfl ⟨Nat.le_of_ble_eq_true rfl, Nat.le_of_ble_eq_true rfl, by show _ ≤ 600104; omega, by show _ ≤ 7301314; omega⟩ _ rfl (Nat.le_of_ble_eq_true rfl)) ⟨by decide, by decide, by decide, by decide, by decide, trivial⟩ trivial (fun r1 ad2 s1 G1 hE1 hq => ?_)
      obtain ⟨rfl, hq⟩ := hq
      rcases hq with ⟨rfl, hI1⟩ | ⟨rfl, hI1⟩
      · exact hnext _ _ _ _ _ (ihA ad2 G1 _ _ hI1 (by omega) (by omega))
      · exact hnext _ _ _ _ _ (ihB ad2 G1 _ _ hI1 (by omega) (by omega))
