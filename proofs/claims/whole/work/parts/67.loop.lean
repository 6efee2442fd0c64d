/-! the law: from what its groups keep to its end -/
theorem nI_m5 {L : Nat} (h5 : 5 ≤ L) : nI L - 5 = nI (L - 5) := by
  have h : nI (L - 5) + 5 = nI L := by
    rw [show (5 : Int32) = nI 5 from rfl, nI_add, Nat.sub_add_cancel h5]
  rw [← h, Int32.add_sub_cancel]
theorem law_more {L t : Nat} (hL : L ≤ 2560) (h : 5 * t + 5 ≤ L) : ¬ (nI L - 5) < nI (5 * t) := by
  rw [nI_m5 (by omega)]
  exact nI_nlt (by omega) (by omega)
theorem law_less {L t : Nat} (hL : L ≤ 2560) (ht : 5 * t ≤ L) (h : ¬ 5 * t + 5 ≤ L) : (nI L - 5) < nI (5 * t) := by
  by_cases h5 : 5 ≤ L
  · rw [nI_m5 h5]
    exact nI_lt (by omega) (by omega)
  · have h0 : t = 0 := by omega
    subst h0
    have hq : L = 0 ∨ L = 1 ∨ L = 2 ∨ L = 3 ∨ L = 4 := by omega
    rcases hq with rfl | rfl | rfl | rfl | rfl <;> decide
set_option maxHeartbeats 40000000 in
set_option maxRecDepth 100000 in
theorem law_loop {p : Program} {l : Launch} {e : Env} {s : State} {m : MethodId} {below : List Frame} {meth : Method} {c : Code} {D : va_G} {tA : Nat → ClassId} {b L : Nat} {xs : Nat → Int32} {IA IB : Gt → Prop} (hlf : l.stackTraces = false) (hr : meth.sig.returnType = ret) (C : cx p s m #[Value.ref b] meth c RL code 7 D tA (fun q => s.heap.size ≤ q)) (hX : va_X b L xs s s.heap) (hbl : b < s.heap.size) (hL : L ≤ 2560)
    (hA : ∀ (x0 x1 x2 x3 x4 : Int32) (G : Gt), IA G → w_grp_A IA IB x0 x1 x2 x3 x4 G) (hB : ∀ (x0 x1 x2 x3 x4 : Int32) (G : Gt), IB G → w_grp_B IB x0 x1 x2 x3 x4 G) :
    ∀ (d t : Nat), 5 * t ≤ L → L ≤ 5 * t + d →
      (∀ (ad : Nat → Nat) (G : Gt) (k n : Nat), IB G → k ≤ 2000 + 100 * t → n ≤ 200000 + 6 * t → aw p l e room_1 s m #[Value.ref b] below meth c 7 D tA (fun q => s.heap.size ≤ q) (lw_Z below #[Value.ref b] s) k n ad 23 [some (.retAddr b), some (.ref 0), some (.ref 46), some (.ref 83), some (.int (nI (5 * t))), none, none] [] shB G) ∧
      (∀ (ad : Nat → Nat) (G : Gt) (k n : Nat), IA G → k ≤ 1000 + 100 * t → n ≤ 100000 + 6 * t → aw p l e room_1 s m #[Value.ref b] below meth c 7 D tA (fun q => s.heap.size ≤ q) (lw_Z below #[Value.ref b] s) k n ad 23 [some (.retAddr b), some (.ref 0), some (.ref 46), some (.ref 83), some (.int (nI (5 * t))), none, none] [] shA G) := by
  have hbA : ¬ (fun q => s.heap.size ≤ q) b := Nat.not_le.mpr hbl
  have hend : ∀ (t : Nat) (sh : Sh) (ad : Nat → Nat) (G : Gt) (k n : Nat), 5 * t ≤ L → ¬ 5 * t + 5 ≤ L → k ≤ 2000 + 100 * t → n ≤ 200000 + 6 * t → aw p l e room_1 s m #[Value.ref b] below meth c 7 D tA (fun q => s.heap.size ≤ q) (lw_Z below #[Value.ref b] s) k n ad 23 [some (.retAddr b), some (.ref 0), some (.ref 46), some (.ref 83), some (.int (nI (5 * t))), none, none] [] sh G := by
    intro t sh ad G k n ht h5 hk hn
    refine aw_iload C dL_law_23 rfl ?_
    refine aw_aloadnR C dL_law_25 rfl ?_
    refine aw_slen C dL_law_26 hX hbl hbA ?_
    refine aw_iconst (v := 5) C dL_law_27 (by decide) ?_
    refine aw_isub C dL_law_28 ?_
    refine aw_ic_gt (X := True) (Y := True) C dL_law_29 1637 (by decide) ⟨fun _ => trivial, fun _ => trivial⟩ (fun _ _ => ?_) (fun hx _ => absurd (law_less hL ht h5) hx)
    refine aw_iconst (v := 1) C dL_law_1637 (by decide) ?_
    intro H locs ls h1 h2 h3 h4
    refine va_forget (fun q hq => h3.2.2 q hq) ?_
    refine W.widen (k := 601024) (n := 7293034) (by omega) (by omega) ?_
    exact lw_ret C.1 C.2.1 hr C.2.2.2.2.2.2.1 dL_law_1638
  have hhead : ∀ (t : Nat) (sh : Sh) (ad : Nat → Nat) (G : Gt) (k n : Nat), 5 * t + 5 ≤ L → aw p l e room_1 s m #[Value.ref b] below meth c 7 D tA (fun q => s.heap.size ≤ q) (lw_Z below #[Value.ref b] s) k n ad 32 [some (.retAddr b), some (.ref 0), some (.ref 46), some (.ref 83), some (.int (nI (5 * t))), none, none] [] sh G → aw p l e room_1 s m #[Value.ref b] below meth c 7 D tA (fun q => s.heap.size ≤ q) (lw_Z below #[Value.ref b] s) k n ad 23 [some (.retAddr b), some (.ref 0), some (.ref 46), some (.ref 83), some (.int (nI (5 * t))), none, none] [] sh G := by
    intro t sh ad G k n h5 hk
    refine aw_iload C dL_law_23 rfl ?_
    refine aw_aloadnR C dL_law_25 rfl ?_
    refine aw_slen C dL_law_26 hX hbl hbA ?_
    refine aw_iconst (v := 5) C dL_law_27 (by decide) ?_
    refine aw_isub C dL_law_28 ?_
    refine aw_ic_gt (X := True) (Y := True) C dL_law_29 1637 (by decide) ⟨fun _ => trivial, fun _ => trivial⟩ (fun hx _ => absurd hx (law_more hL h5)) (fun _ _ => ?_)
    exact hk
  have hnext : ∀ (t : Nat) (sh : Sh) (ad : Nat → Nat) (G : Gt) (k n : Nat), aw p l e room_1 s m #[Value.ref b] below meth c 7 D tA (fun q => s.heap.size ≤ q) (lw_Z below #[Value.ref b] s) k n ad 23 [some (.retAddr b), some (.ref 0), some (.ref 46), some (.ref 83), some (.int (nI (5 * (t + 1)))), none, none] [] sh G → aw p l e room_1 s m #[Value.ref b] below meth c 7 D tA (fun q => s.heap.size ≤ q) (lw_Z below #[Value.ref b] s) k n ad 1631 [some (.retAddr b), some (.ref 0), some (.ref 46), some (.ref 83), some (.int (nI (5 * t))), none, none] [] sh G := by
    intro t sh ad G k n hk
    refine aw_iinc (w := nI (5 * (t + 1))) C dL_law_1631 rfl (by rw [show Int32.ofInt 5 = nI 5 from by decide, nI_add]; rfl) (by decide) rfl ?_
    refine aw_goto (tgt := 23) C dL_law_1634 (by decide) ?_
    exact hk
  intro d
  induction d with
  | zero =>
    intro t ht hd
    exact ⟨fun ad G k n _ hk hn => hend t _ ad G k n ht (by omega) hk hn, fun ad G k n _ hk hn => hend t _ ad G k n ht (by omega) (by omega) (by omega)⟩
  | succ d ih =>
    intro t ht hd
    by_cases h5 : 5 * t + 5 ≤ L
    · obtain ⟨ihB, ihA⟩ := ih (t + 1) (by omega) (by omega)
      have hv : ∀ j : Nat, j ≤ 4 → vp_in (nI (5 * t) + nI j) L := fun j hj => by rw [nI_add]; exact vp_in_nI (by omega) (by omega)
      have hv0 : vp_in (nI (5 * t)) L := vp_in_nI (by omega) (by omega)
      constructor
      · intro ad G k n hI hk hn
        refine hhead t _ ad G k n h5 ?_
        exact t_grp_B (KB := IB) hlf C hX hbl hbA hv0 (hv 1 (by decide)) (hv 2 (by decide)) (hv 3 (by decide)) (hv 4 (by decide)) rfl rfl rfl rfl rfl (by omega) (by omega)
          (fun ad1 G1 k1 n1 hk1 hn1 hI1 => hnext t _ ad1 G1 k1 n1 (ihB ad1 G1 k1 n1 hI1 (by omega) (by omega))) (hB _ _ _ _ _ G hI)
      · intro ad G k n hI hk hn
        refine hhead t _ ad G k n h5 ?_
        exact t_grp_A (KA := IA) (KB := IB) hlf C hX hbl hbA hv0 (hv 1 (by decide)) (hv 2 (by decide)) (hv 3 (by decide)) (hv 4 (by decide)) rfl rfl rfl rfl rfl (by omega) (by omega)
          (fun ad1 G1 k1 n1 hk1 hn1 hI1 => hnext t _ ad1 G1 k1 n1 (ihA ad1 G1 k1 n1 hI1 (by omega) (by omega)))
          (fun ad1 G1 k1 n1 hk1 hn1 hI1 => hnext t _ ad1 G1 k1 n1 (ihB ad1 G1 k1 n1 hI1 (by omega) (by omega))) (hA _ _ _ _ _ G hI)
    · exact ⟨fun ad G k n _ hk hn => hend t _ ad G k n ht h5 hk hn, fun ad G k n _ hk hn => hend t _ ad G k n ht h5 (by omega) (by omega)⟩
