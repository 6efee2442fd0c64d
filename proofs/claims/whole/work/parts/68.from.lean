def G_init : Gt := gz (g_X11 46 47 (gz (g_X10 0 1 (gz (fun _ _ => 0) 0 0)) 46 0)) 83 0
def nl11 : List fE := (none :: some none :: some none :: some none :: some none :: some none :: some none :: some none :: some none :: some none :: some none :: some none :: none :: none :: none :: some none :: some none :: some none :: some none :: some none :: some none :: none :: some none :: some none :: some none :: some none :: some none :: some none :: some none :: none :: some none :: some none :: none :: some none :: some none :: none :: some none :: some none :: some none :: some none :: some none :: none :: none :: none :: none :: none :: none :: none :: some none :: none :: none :: none :: none :: none :: none :: none :: none :: none :: none :: none :: none :: none :: none :: none :: none :: some none :: none :: none :: none :: none :: some none :: none :: [])
def vl11 : List Value := (.int 0 :: .null :: .null :: .null :: .null :: .null :: .null :: .null :: .null :: .null :: .null :: .null :: .int 0 :: .int 0 :: .int 0 :: .null :: .null :: .null :: .null :: .null :: .null :: .int 0 :: .null :: .null :: .null :: .null :: .null :: .null :: .null :: .int 0 :: .null :: .null :: .int 0 :: .null :: .null :: .int 0 :: .null :: .null :: .null :: .null :: .null :: .int 0 :: .int 0 :: .int 0 :: .int 0 :: .int 0 :: .int 0 :: .int 0 :: .null :: .int 0 :: .int 0 :: .int 0 :: .int 0 :: .int 0 :: .int 0 :: .int 0 :: .int 0 :: .int 0 :: .int 0 :: .int 0 :: .int 0 :: .int 0 :: .int 0 :: .int 0 :: .int 0 :: .null :: .int 0 :: .int 0 :: .int 0 :: .int 0 :: .null :: .int 0 :: [])
def shL1 : Sh := [.inr (10, [some none, some none, some none, some none, none, some none])]
def shL2 : Sh := shA.take 46
def shL3 : Sh := shL2 ++ [.inr (11, nl11)]
def shL4 : Sh := shA.take 83
theorem len_L2 : shL2.length = 46 := by decide +kernel
theorem len_L3 : shL3.length = 47 := by decide +kernel
theorem len_L4 : shL4.length = 83 := by decide +kernel
set_option maxHeartbeats 40000000 in
set_option maxRecDepth 100000 in
theorem whole_from {p : Program} {e : Env} {s : State} {m : MethodId} {below : List Frame} {meth : Method} {c : Code} {IA IB : Gt → Prop} (l : Launch) (hflags : l.flags = flags0) {b L : Nat} {xs : Nat → Int32} (hL : L ≤ 2560) (C0 : lw_At p s m meth c b L xs) (hI : IA G_init)
    (hA : ∀ (x0 x1 x2 x3 x4 : Int32) (G : Gt), IA G → w_grp_A IA IB x0 x1 x2 x3 x4 G) (hB : ∀ (x0 x1 x2 x3 x4 : Int32) (G : Gt), IB G → w_grp_B IB x0 x1 x2 x3 x4 G) : W p l e room_1 s m #[Value.ref b] below meth c s.heap [] 0 0 (lw_Z below #[Value.ref b] s) (entryFrame m ([Value.ref b] : List Value).toArray 7) := by
  have hlf : l.stackTraces = false := by
    unfold Launch.stackTraces
    rw [hflags]
    decide +kernel
  obtain ⟨D, tA, hK⟩ := law_K C0
  have hsx := law_sx C0
  obtain ⟨hx, hb, hr, hml, hown, hts, hX, hbl, hlocks, hgv⟩ := C0
  have C : cx p s m #[Value.ref b] meth c RL code 7 D tA (fun q => s.heap.size ≤ q) := ⟨hx, hb, hml, hown, fun w hw => hts w (gw_tbl hw), hK, hlocks, fun q h => h, hsx⟩
  have hl := lv_entry ([.ref b]) (n := 7) (Nat.le_of_ble_eq_true rfl)
  rw [lg_entry_eq]
  generalize (lg_sl ([.ref b]) ++ List.replicate (7 - (lg_sl ([.ref b])).length) Slot.unset).toArray = ls at hl ⊢
  have main : aw p l e room_1 s m #[Value.ref b] below meth c 7 D tA (fun q => s.heap.size ≤ q) (lw_Z below #[Value.ref b] s) 0 0 (fun q => q) 0 [some (.retAddr b), none, none, none, none, none, none] [] [] (fun _ _ => 0) := by
    refine aw_newN (sh := []) (fs := [some none, some none, some none, some none, none, some none]) (fs0 := [.null, .null, .null, .null, .int 0, .null]) C dL_law_0 kcX10 mC_L_8 mN_X10 mI_X10 (by decide +kernel) rfl (by decide) (fun x hx => nomatch hx) trivial trivial (Nat.le_of_ble_eq_true rfl) (Nat.le_of_ble_eq_true rfl) (fun ad1 _ hw1 => ?_)
    change wfL shL1 at hw1
    show aw p l e room_1 s m #[Value.ref b] below meth c 7 D tA (fun q => s.heap.size ≤ q) (lw_Z below #[Value.ref b] s) 1 6 ad1 3 [some (.retAddr b), none, none, none, none, none, none] [.ref 0] shL1 (gz (fun _ _ => 0) 0 0)
    refine aw_dup C dL_law_3 rfl ?_
    refine aw_callI C dL_law_4 (t_X10_init (sh := shL1) (b := 0) (L := 1) rfl rfl hw1 _) mM_L_87 bX10_init rfl ⟨Nat.le_of_ble_eq_true rfl, Nat.le_of_ble_eq_true rfl, Nat.le_of_ble_eq_true rfl, Nat.le_of_ble_eq_true rfl⟩ [.ref 0] rfl (Nat.le_of_ble_eq_true rfl) trivial ⟨by decide, trivial⟩ (sh2 := shL2) rfl (fun r4 ad2 G4x hE2 hq => ?_)
    obtain ⟨rfl, rfl⟩ := hq
    have hw2 : wfL shL2 := wfL_B (by decide +kernel)
    refine aw_astoren C dL_law_7 (by decide) rfl ?_
    refine aw_newN (sh := shL2) (fs := nl11) (fs0 := vl11) C dL_law_8 kcX11 mC_L_88 mN_X11 mI_X11 (by decide +kernel) (by decide +kernel) (by decide) hw2 ⟨by decide, trivial⟩ trivial (Nat.le_of_ble_eq_true rfl) (Nat.le_of_ble_eq_true rfl) (fun ad3 _ hw3 => ?_)
    rw [len_L2]
    change wfL shL3 at hw3
    show aw p l e room_1 s m #[Value.ref b] below meth c 7 D tA (fun q => s.heap.size ≤ q) (lw_Z below #[Value.ref b] s) 47 3157 ad3 11 [some (.retAddr b), some (.ref 0), none, none, none, none, none] [.ref 46] shL3 (gz (g_X10 0 1 (gz (fun _ _ => 0) 0 0)) 46 0)
    refine aw_dup C dL_law_11 rfl ?_
    refine aw_callI C dL_law_12 (t_X11_init (sh := shL3) (b := 46) (L := 47) rfl len_L3 hw3 _) mM_L_90 bX11_init rfl ⟨Nat.le_of_ble_eq_true rfl, Nat.le_of_ble_eq_true rfl, Nat.le_of_ble_eq_true rfl, Nat.le_of_ble_eq_true rfl⟩ [.ref 46] rfl (Nat.le_of_ble_eq_true rfl) ⟨by decide, trivial⟩ ⟨by decide, trivial⟩ (sh2 := shL4) rfl (fun r12 ad4 G12x hE4 hq => ?_)
    obtain ⟨rfl, rfl⟩ := hq
    have hw4 : wfL shL4 := wfL_B (by decide +kernel)
    refine aw_astoren C dL_law_15 (by decide) rfl ?_
    refine aw_iconst (v := 1) C dL_law_16 (by decide) ?_
    refine aw_newarr (t := 2) (N := 1) (a0 := (1, .inr (.inl (fun _ => 0)))) C (by decide) dL_law_17 rfl mA_long (fun _ => rfl) (fun _ => rfl) (by decide) (by decide) (by decide) hw4 ⟨by decide, by decide, trivial⟩ trivial (Nat.le_of_ble_eq_true rfl) (Nat.le_of_ble_eq_true rfl) (fun ad5 _ hw5 => ?_)
    rw [len_L4]
    refine aw_sh (sh1 := shA) rfl ?_
    refine aw_astoren C dL_law_19 (by decide) rfl ?_
    refine aw_iconst (v := nI (5 * 0)) C dL_law_20 (by decide) ?_
    refine aw_istore C dL_law_21 (by decide) rfl ?_
    exact (law_loop hlf hr C hX hbl hL hA hB L 0 (Nat.zero_le _) (by omega)).2 ad5 G_init _ _ hI (Nat.le_of_ble_eq_true rfl) (Nat.le_of_ble_eq_true rfl)
  exact main s.heap [] ls (fun k q h => by simp [cW] at h) ⟨fun i j p q h => by simp [cW] at h, fun k q h => by simp [cW] at h⟩ va_S.rf (lv_less hl (by intro q hq; simpa [lo, tv, lv_args] using hq))
