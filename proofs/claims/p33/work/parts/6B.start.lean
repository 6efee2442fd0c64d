theorem xW_in : ∀ w ∈ xW, w ∈ lw_tbl := by
  intro w hw
  simp only [xW, List.mem_cons, List.not_mem_nil, or_false] at hw
  rcases hw with rfl | rfl | rfl | rfl | rfl | rfl
  · exact List.mem_append_right _ (tb2 (List.mem_of_getElem? (i := 24) rfl))
  · exact List.mem_append_right _ (tb3 (List.mem_of_getElem? (i := 11) rfl))
  · exact List.mem_append_right _ (tb3 (List.mem_of_getElem? (i := 36) rfl))
  · exact List.mem_append_right _ (tb2 (List.mem_of_getElem? (i := 26) rfl))
  · exact List.mem_append_right _ (tb2 (List.mem_of_getElem? (i := 28) rfl))
  · exact List.mem_append_right _ (tb2 (List.mem_of_getElem? (i := 30) rfl))
def nwl : List Cond := flatC (Jvm.Cond.and given_1 narrow_1)
set_option maxRecDepth 100000 in
theorem nw_nc : ∀ q ∈ yNC, Cond.not (.castable q.1 q.2) ∈ nwl := by decide +kernel
set_option maxRecDepth 100000 in
theorem nw_st : ∀ q ∈ sW, Cond.exactly (.string q.1 q.2.1) "java/lang/String" ∈ nwl := by decide +kernel
set_option maxRecDepth 100000 in
theorem nw_el : (nwl.drop 171).take 120 = (List.range 120).map (fun j => Cond.eq (.elem (.field (.string RX4 50) "java/lang/String" "value" "[B") (.int (Int32.ofNat j))) (.int (tx0.getD j 0))) := by decide +kernel
theorem nw_elj {j : Nat} (hj : j < 120) : Cond.eq (.elem (.field (.string RX4 50) "java/lang/String" "value" "[B") (.int (Int32.ofNat j))) (.int (tx0.getD j 0)) ∈ nwl := by
  have h1 : Cond.eq (.elem (.field (.string RX4 50) "java/lang/String" "value" "[B") (.int (Int32.ofNat j))) (.int (tx0.getD j 0)) ∈ (nwl.drop 171).take 120 := by
    rw [nw_el]
    exact List.mem_map.mpr ⟨j, List.mem_range.mpr hj, rfl⟩
  exact List.mem_of_mem_drop (List.mem_of_mem_take h1)
theorem sW_in : ∀ q ∈ sW, Cond.stringRef q.1 q.2.1 q.2.2 ∈ lw_tbl := by
  intro q hq
  simp only [sW, List.mem_cons, List.not_mem_nil, or_false] at hq
  rcases hq with rfl | rfl | rfl | rfl | rfl | rfl | rfl | rfl | rfl | rfl | rfl | rfl | rfl | rfl | rfl | rfl | rfl | rfl | rfl | rfl
  · exact List.mem_append_right _ (tb2 (List.mem_of_getElem? (i := 63) rfl))
  · exact List.mem_append_right _ (tb2 (List.mem_of_getElem? (i := 102) rfl))
  · exact List.mem_append_right _ (tb2 (List.mem_of_getElem? (i := 121) rfl))
  · exact List.mem_append_right _ (tb2 (List.mem_of_getElem? (i := 129) rfl))
  · exact List.mem_append_right _ (tb2 (List.mem_of_getElem? (i := 137) rfl))
  · exact List.mem_append_right _ (tb2 (List.mem_of_getElem? (i := 182) rfl))
  · exact List.mem_append_right _ (tb2 (List.mem_of_getElem? (i := 238) rfl))
  · exact List.mem_append_right _ (tb3 (List.mem_of_getElem? (i := 18) rfl))
  · exact List.mem_append_right _ (tb3 (List.mem_of_getElem? (i := 43) rfl))
  · exact List.mem_append_right _ (tb3 (List.mem_of_getElem? (i := 155) rfl))
  · exact List.mem_append_right _ (tb3 (List.mem_of_getElem? (i := 169) rfl))
  · exact List.mem_append_right _ (tb3 (List.mem_of_getElem? (i := 181) rfl))
  · exact List.mem_append_right _ (tb5 (List.mem_of_getElem? (i := 229) rfl))
  · exact List.mem_append_right _ (tb5 (List.mem_of_getElem? (i := 230) rfl))
  · exact List.mem_append_right _ (tb6 (List.mem_of_getElem? (i := 4) rfl))
  · exact List.mem_append_right _ (tb6 (List.mem_of_getElem? (i := 13) rfl))
  · exact List.mem_append_right _ (tb6 (List.mem_of_getElem? (i := 14) rfl))
  · exact List.mem_append_right _ (tb6 (List.mem_of_getElem? (i := 26) rfl))
  · exact List.mem_append_right _ (tb6 (List.mem_of_getElem? (i := 27) rfl))
  · exact List.mem_append_right _ (tb6 (List.mem_of_getElem? (i := 38) rfl))
set_option maxHeartbeats 4000000 in
set_option maxRecDepth 100000 in
/-- what the law's entry gives for the world -/
theorem law_sx {p : Program} {s : State} {m : MethodId} {meth : Method} {c : Code} {b L : Nat} {xs : Nat → Int32} (C0 : lw_At p s m meth c b L xs) : sx (fun q => s.heap.size ≤ q) s s.heap := by
  obtain ⟨hx, hb, hr, hml, hown, hts, hX, hbl, hlocks, hgv⟩ := C0
  have hs : ∀ c ∈ nwl, c.before #[Value.ref b] s = true := flat_of_before _ hgv
  have hT : ∀ w ∈ tables_1, w.before #[Value.ref b] s = true := fun w hw => hts w (List.mem_append_right _ hw)
  have hA : ∀ a : Nat, a < s.heap.size → ¬ (fun q => s.heap.size ≤ q) a := fun a h => Nat.not_le.mpr h
  refine ⟨⟨fun w hw => ?_, fun w hw => ?_, fun q hq => va_Nc.of (hs _ (nw_nc q hq))⟩, fun q hq => ?_, ?_, ?_, ?_, ?_, ?_⟩
  · have h1 := hts w (nW_in w hw)
    simp only [nW, List.mem_cons, List.not_mem_nil, or_false] at hw
    rcases hw with rfl | rfl | rfl | rfl | rfl | rfl | rfl | rfl | rfl | rfl | rfl | rfl <;> exact va_Nw.of rfl h1
  · have h1 := hts w (xW_in w hw)
    simp only [xW, List.mem_cons, List.not_mem_nil, or_false] at hw
    rcases hw with rfl | rfl | rfl | rfl | rfl | rfl <;> exact va_Nw.of rfl h1
  · obtain ⟨a, c1, cell, k1, h1, -⟩ := Cond.exactly_spec (hs _ (nw_st q hq))
    have h2 := hts _ (sW_in q hq)
    refine ⟨a, ?_⟩
    have h3 : (Cond.stringRef q.1 q.2.1 q.2.2).before #[] s = true := h2
    exact vk_R.of h3 h1
  · exact vx_Zqof (hT _ (tb2 (List.mem_of_getElem? (i := 49) rfl))) (hT _ (tb1 (List.mem_of_getElem? (i := 10) rfl))) (hs _ (List.mem_of_getElem? (i := 4) rfl)) hA
  · exact vx_Zqof (hT _ (tb2 (List.mem_of_getElem? (i := 51) rfl))) (hT _ (tb1 (List.mem_of_getElem? (i := 10) rfl))) (hs _ (List.mem_of_getElem? (i := 5) rfl)) hA
  · exact va_Zof (hT _ (tb2 (List.mem_of_getElem? (i := 192) rfl))) (hT _ (tb1 (List.mem_of_getElem? (i := 14) rfl))) (va_eqi (hs _ (List.mem_of_getElem? (i := 6) rfl))) hA
  · exact va_Zqof (hT _ (tb2 (List.mem_of_getElem? (i := 208) rfl))) (hT _ (tb1 (List.mem_of_getElem? (i := 16) rfl))) (hs _ (List.mem_of_getElem? (i := 7) rfl)) hA
  · obtain ⟨adK, adV, h1, h2⟩ := vk_Sof (N := 1) (tm := fun _ => .string RX4 50) (len := [120]) (byt := [tx0]) (A := fun q => s.heap.size ≤ q) (args := #[Value.ref b]) (s := s)
      (fun i hi => by have : i = 0 := by omega
                      subst this; decide)
      (fun i hi => hs _ (List.mem_of_getElem? (i := 167) rfl)) (fun i hi => hs _ (List.mem_of_getElem? (i := 168) rfl)) (fun i hi => hs _ (List.mem_of_getElem? (i := 169) rfl))
      (fun i hi => by have : i = 0 := by omega
                      subst this
                      exact hs _ (List.mem_of_getElem? (i := 170) rfl))
      (fun i hi j hj => by have : i = 0 := by omega
                           subst this
                           exact hs _ (nw_elj hj))
      (fun i j hi hj hij => absurd (show i = j by omega) hij) hA
    refine ⟨adK, adV, h1, ?_⟩
    have h3 := hts _ (sW_in _ mS_X4_50)
    have h4 : (Cond.stringRef RX4 50 "v--n--np-np-pp-pp-pp-pp-pp-pp-ppppp-p--qp-qp-q--np-pp-soop--npppp-p--p--p--p--qppq--qp-p-----p-----------p--p--p--sp-h--").before #[] s = true := h3
    exact vk_R.of h4 (h2 0 (by decide))
theorem law_arr {s : State} {t : Nat} {ty : FieldType} (hty : nty t = ty) (h : (Cond.arrayClass ty).before #[] s = true ∨ ∃ args, (Cond.arrayClass ty).before args s = true) : ∃ cA : ClassId, ArrOfT s cA ty ∧ s.vm.findClass ("[" ++ ty.toString) = some cA := by
  rcases h with h | ⟨args, h⟩
  · obtain ⟨cA, kA, comp, h1, h2, h3⟩ := Cond.arrayClass_spec h
    exact ⟨cA, fun n z => ⟨fun k h9 => (by cases h9), kA, h2, comp, h3⟩, h1⟩
  · obtain ⟨cA, kA, comp, h1, h2, h3⟩ := Cond.arrayClass_spec h
    exact ⟨cA, fun n z => ⟨fun k h9 => (by cases h9), kA, h2, comp, h3⟩, h1⟩
set_option maxHeartbeats 4000000 in
set_option maxRecDepth 100000 in
theorem law_K {p : Program} {s : State} {m : MethodId} {meth : Method} {c : Code} {b L : Nat} {xs : Nat → Int32} (C0 : lw_At p s m meth c b L xs) : ∃ (D : va_G) (tA : Nat → ClassId), va_K D vwCl (ty3 tA) s := by
  obtain ⟨hx, hb, hr, hml, hown, hts, hX, hbl, hlocks, hgv⟩ := C0
  have hG : ∀ w ∈ GW, w.before #[Value.ref b] s = true := fun w hw => hts w (gw_tbl hw)
  obtain ⟨c0, i0, hK0⟩ := u_known (C := RX0) (T := TX0) (N := 3) (n := 3) hG iX0 (hG _ mN_X0)
  obtain ⟨c1, i1, hK1⟩ := u_known (C := RX1) (T := TX1) (N := 11) (n := 11) hG iX1 (hG _ mN_X1)
  obtain ⟨c2, i2, hK2⟩ := u_known (C := RX2) (T := TX2) (N := 20) (n := 20) hG iX2 (hG _ mN_X2)
  obtain ⟨c3, i3, hK3⟩ := u_known (C := RX3) (T := TX3) (N := 7) (n := 7) hG iX3 (hG _ mN_X3)
  obtain ⟨c4, i4, hK4⟩ := u_known (C := RX4) (T := TX4) (N := 8) (n := 8) hG iX4 (hG _ mN_X4)
  obtain ⟨c5, i5, hK5⟩ := u_known (C := RX5) (T := TX5) (N := 5) (n := 5) hG iX5 (hG _ mN_X5)
  obtain ⟨c6, i6, hK6⟩ := u_known (C := RX6) (T := TX6) (N := 1) (n := 1) hG iX6 (hG _ mN_X6)
  obtain ⟨c7, i7, hK7⟩ := u_known (C := RX7) (T := TX7) (N := 3) (n := 3) hG iX7 (hG _ mN_X7)
  obtain ⟨c8, i8, hK8⟩ := u_known (C := RX8) (T := TX8) (N := 4) (n := 4) hG iX8 (hG _ mN_X8)
  obtain ⟨c9, i9, hK9⟩ := u_known (C := RX9) (T := TX9) (N := 9) (n := 9) hG iX9 (hG _ mN_X9)
  obtain ⟨c10, i10, hK10⟩ := u_known (C := RX10) (T := TX10) (N := 6) (n := 6) hG iX10 (hG _ mN_X10)
  obtain ⟨a0, hA0, hN0⟩ := law_arr (t := 0) rfl (Or.inr ⟨_, hG _ mA_int⟩)
  refine ⟨(fun k => match k with
    | 0 => c0 | 1 => c1 | 2 => c2 | 3 => c3 | 4 => c4 | 5 => c5 | 6 => c6 | 7 => c7 | 8 => c8 | 9 => c9 | _ => c10, fun k => match k with
    | 0 => i0 | 1 => i1 | 2 => i2 | 3 => i3 | 4 => i4 | 5 => i5 | 6 => i6 | 7 => i7 | 8 => i8 | 9 => i9 | _ => i10), fun _ => a0, fun k q hq => ?_, fun k q hq => ?_⟩
  · match k, hq with
    | 0, hq => cases hq; exact hK0
    | 1, hq => cases hq; exact hK1
    | 2, hq => cases hq; exact hK2
    | 3, hq => cases hq; exact hK3
    | 4, hq => cases hq; exact hK4
    | 5, hq => cases hq; exact hK5
    | 6, hq => cases hq; exact hK6
    | 7, hq => cases hq; exact hK7
    | 8, hq => cases hq; exact hK8
    | 9, hq => cases hq; exact hK9
    | 10, hq => cases hq; exact hK10
    | k + 11, hq => simp [vwCl] at hq
  · match k, hq with
    | 0, hq => cases hq; exact ⟨hA0, hN0⟩
    | k + 1, hq => simp [ty3] at hq
