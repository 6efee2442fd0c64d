/-! contracts whose shape behind them depends on how they end -/
def QL (D : va_G) (tA : Nat → ClassId) (ad : Nat → Nat) (A : Nat → Prop) (sh : Sh) (K : Option Value → Sh → Gt → Prop) : Array Value → State → Outcome → State → Prop := fun _ st o t => (∃ (r : Option Value) (ad' : Nat → Nat) (sh' : Sh) (G' : Gt), o = .returned (r.map (tv ad')) ∧ (∀ j, j < sh.length → ad' j = ad j) ∧ K r sh' G' ∧ va_P D vwCl (cW tA ad' G' sh') t.heap ∧ va_D A (cW tA ad' G' sh')) ∧ va_F A st t
def XL (D : va_G) (tA : Nat → ClassId) (ad : Nat → Nat) (A : Nat → Prop) (sh : Sh) (KX : Nat → Sh → Gt → Prop) : String → State → State → Prop := fun E st t => ∃ (k : Nat) (ad' : Nat → Nat) (sh' : Sh) (G' : Gt), E = exN k ∧ k < 3 ∧ (∀ j, j < sh.length → ad' j = ad j) ∧ KX k sh' G' ∧ va_P D vwCl (cW tA ad' G' sh') t.heap ∧ va_D A (cW tA ad' G' sh') ∧ va_F A st t
def CL (l : Launch) (y : MethodName) (cc : ByteArray) (nL : Nat) (ret : Option FieldType) (fr lc mc ms : Nat) (av : List Value) (sh : Sh) (G : Gt) (K : Option Value → Sh → Gt → Prop) (KX : Nat → Sh → Gt → Prop) : Prop :=
  ∀ (D : va_G) (tA : Nat → ClassId) (ad : Nat → Nat) (sz : Nat), vx_Met l y (.code y cc nL ret :: GW) { frames := fr, cells := mc, slots := ms, locals := lc } (va_Pc (av.map (tv ad)) (PW D tA ad sz sh G)) (QL D tA ad (va_A (cW tA ad G sh) sz) sh K) (XL D tA ad (va_A (cW tA ad G sh) sz) sh KX) mc ms (va_A (cW tA ad G sh) sz)
theorem CL_of {l : Launch} {y : MethodName} {cc : ByteArray} {nL : Nat} {ret : Option FieldType} {fr lc mc ms : Nat} {av : List Value} {sh : Sh} {G : Gt} {K : Option Value → Sh → Gt → Prop} {KX : Nat → Sh → Gt → Prop} (hy : plainName y.cls = true) (hav : (lg_sl (av.map (tv (fun q => q)))).length ≤ nL) (h1 : l1 (av.map some) = true)
    (body : ∀ (p : Program) (e : Env) (s : State) (m : MethodId) (args : Array Value) (below : List Frame) (meth : Method) (c : Code) (D : va_G) (tA : Nat → ClassId) (ad : Nat → Nat) (A : Nat → Prop), cx p s m args meth c y.cls cc nL D tA A → meth.sig.returnType = ret → (∀ x ∈ c.exceptionTable.toList, False) →
      aw p l e { frames := fr, cells := mc, slots := ms, locals := lc } s m args below meth c nL D tA A (vx_MQ below (QL D tA ad A sh K) (XL D tA ad A sh KX) args s mc ms A) 0 0 ad 0 (pad (av.map some) nL) [] sh G) : CL l y cc nL ret fr lc mc ms av sh G K KX := by
  intro D tA ad sz
  refine vx_ofW (cc := cc) (maxL := nL) (ret := ret) hy rfl ?_
  intro p e s m args below meth c s₁ B hml hnt hv
  obtain ⟨rfl, hsz, hP, hK, hD0, hsx⟩ := hv
  have hts := atoms_spec (ws := .code y cc nL ret :: GW) B.pre
  have hown : s.vm.findClass y.cls = some m.cls := findClass_of_methodNamed B.named
  have hlocks := B.notSynchronized
  subst hsz
  have C : cx p s m (av.map (tv ad)).toArray meth c y.cls cc nL D tA (va_A (cW tA ad G sh) s.heap.size) := ⟨B.exec, B.bytes, hml, hown, fun w hw => hts w (List.mem_cons_of_mem _ hw), hK, hlocks, fun q h => Or.inr h, hsx⟩
  have hlen : (lg_sl (av.map (tv ad))).length ≤ nL := by rw [sl_tv ad (fun q => q)]; exact hav
  have hl := lv_entry (av.map (tv ad)) (n := nL) hlen
  rw [lg_entry_eq]
  generalize (lg_sl (av.map (tv ad)) ++ List.replicate (nL - (lg_sl (av.map (tv ad))).length) Slot.unset).toArray = ls at hl ⊢
  have hl2 : lv_has ls nL (lo ad 0 (pad (av.map some) nL)) := by
    refine lv_less hl (fun q hq0 => ?_)
    have hq := lo_pad hq0
    rw [← lo_args _ _ h1]; exact hq
  exact body p e s m _ below meth c D tA ad _ C B.returns hnt s.heap [] ls hP hD0.self va_S.rf hl2
theorem CTX.toCL {l : Launch} {y : MethodName} {cc : ByteArray} {nL : Nat} {ret : Option FieldType} {fr lc : Nat} {av : List Value} {sh : Sh} {G : Gt} {K : Option Value → Gt → Prop} {KX : Nat → Gt → Prop} (h : CTX l y cc nL ret fr lc av sh G K KX) : CL l y cc nL ret fr lc 1 6 av sh G (fun r s' G' => s' = sh ∧ K r G') (fun k s' G' => s' = sh ∧ KX k G') := by
  intro D tA ad sz p e ha hc hx0 s m args below hf hfit hP hT
  have hd : ∀ G' : Gt, va_D (va_A (cW tA ad G sh) sz) (cW tA ad G' sh) := by
    intro G'
    obtain ⟨-, hsz, -, -, hD0, -⟩ := hP
    exact (hD0.self (sz := sz)).cW
  obtain ⟨t, o, a1, a2, a3, a4⟩ := h D tA ad sz p e ha hc hx0 s m args below hf hfit hP hT
  refine ⟨t, o, a1, a2, a3, ?_⟩
  rcases a4 with ⟨⟨⟨r, G', g1, g2, g3⟩, g4⟩, g5⟩ | ⟨q, e1, E, ce, L, ⟨k, G', f1, f2, f3, f4, f4'⟩, f5⟩
  · exact Or.inl ⟨⟨⟨r, ad, sh, G', g1, fun _ _ => rfl, ⟨rfl, g2⟩, g3, hd G'⟩, g4⟩, g5⟩
  · exact Or.inr ⟨q, e1, E, ce, L, ⟨k, ad, sh, G', f1, f2, fun _ _ => rfl, ⟨rfl, f3⟩, f4, hd G', f4'⟩, f5⟩
section AWL
variable {p : Program} {l : Launch} {e : Env} {R : Room} {s : State} {m : MethodId} {args : Array Value} {below : List Frame} {meth : Method} {c : Code} {D : va_G} {tA : Nat → ClassId} {A : Nat → Prop} {ad ad0 : Nat → Nat} {nL : Nat} {Q : State → Prop} {k n : Nat} {own : String} {cc : ByteArray}
variable {pc : Nat} {lv : List (Option Value)} {st rest : List Value} {sh sh0 sh1 : Sh} {G : Gt} {K : Option Value → Sh → Gt → Prop} {KX : Nat → Sh → Gt → Prop}
theorem aw_lireturn (C : cx p s m args meth c own cc nL D tA A) {v : Int32} (hr : meth.sig.returnType = some .int) (d : decode cc pc = .ok (.ireturn, 1)) (hE : ∀ j, j < sh0.length → ad j = ad0 j) (hK : K (some (.int v)) sh G) : aw p l e R s m args below meth c nL D tA A (MQ below (QL D tA ad0 A sh0 K) args s k n A) k n ad pc lv [.int v] sh G :=
  fun H locs ls h1 h2 h3 h4 => W.iret C.1 C.2.1 hr (fun t ht hW => ⟨⟨some (.int v), ad, sh, G, rfl, hE, hK, by rw [ht]; exact h1, h2⟩, h3.F ht⟩) h3.2.2 d C.2.2.2.2.2.2.1
theorem aw_lreturn (C : cx p s m args meth c own cc nL D tA A) (hr : meth.sig.returnType = none) (d : decode cc pc = .ok (.return_, 1)) (hE : ∀ j, j < sh0.length → ad j = ad0 j) (hK : K none sh G) : aw p l e R s m args below meth c nL D tA A (MQ below (QL D tA ad0 A sh0 K) args s k n A) k n ad pc lv [] sh G :=
  fun H locs ls h1 h2 h3 h4 => W.vret C.1 C.2.1 hr (fun t ht hW => ⟨⟨none, ad, sh, G, rfl, hE, hK, by rw [ht]; exact h1, h2⟩, h3.F ht⟩) h3.2.2 d C.2.2.2.2.2.2.1
theorem aw_lthrow {Qc : Array Value → State → Outcome → State → Prop} {k1 n1 : Nat} (hlf : l.stackTraces = false) (C : cx p s m args meth c RX10 cc nL D tA A) {ik is ic kE : Nat} {text : String} (hk3 : kE < 3) (hfit : Bundle.fit (exN kE) = true) (hk : Cond.classLink RX10 ik (exN kE) ∈ GW) (hini : Cond.initialized (exN kE) ∈ GW) (hs : (RX10, is, text) ∈ sW)
    (hg : ∀ w ∈ (vx_atS RX10 ic (exN kE) exS).filter goodWord, w ∈ GW) (hbd : ∀ w ∈ (vx_atS RX10 ic (exN kE) exS).filter (fun w => !goodWord w), w ∈ xW) (hot : ∀ w ∈ Cond.classLink RX10 ik (exN kE) :: Cond.initialized (exN kE) :: vx_atS RX10 ic (exN kE) exS, vx_ot w = true)
    (d0 : decode cc pc = .ok (.new ik, 3)) (d3 : decode cc (pc + 3) = .ok (.dup, 1)) (d4 : decode cc (pc + 4) = .ok (.ldc is, 2)) (d6 : decode cc (pc + 6) = .ok (.invokespecial ic, 3)) (d9 : decode cc (pc + 9) = .ok (.athrow, 1))
    (hout : ∀ x ∈ c.exceptionTable.toList, False) (hR : 6 ≤ R.frames ∧ (st.map fun v => v.category).sum + 82 ≤ R.locals ∧ k + 1 ≤ R.cells ∧ n + 6 ≤ R.slots) (hc1 : k + 1 ≤ k1) (hn1 : n + 6 ≤ n1) (hE : ∀ j, j < sh0.length → ad j = ad0 j) (hx : KX kE sh G) : aw p l e R s m args below meth c nL D tA A (vx_MQ below Qc (XL D tA ad0 A sh0 KX) args s k1 n1 A) k n ad pc lv st sh G := by
  intro H locs ls h1 h2 h3 h4
  obtain ⟨⟨-, hxW, -⟩, hsW, hU, hN, -⟩ := C.2.2.2.2.2.2.2.2
  obtain ⟨sa, hstr⟩ := hsW _ hs
  refine vx_throwS (names := exS) (cls := exN kE) C.1 C.2.1 hlf C.2.2.2.1 hfit (by decide +kernel) (C.2.2.2.2.1 _ hk) (C.2.2.2.2.1 _ hini) hstr (vx_hat (fun w hw => C.2.2.2.2.1 _ (hg w hw)) hbd (fun w hw => ?_)) hot hU hN h3 (h4.1.trans C.2.2.1.symm) d0 d3 d4 d6 d9 (fun x hx => (hout x hx).elim) (show 2 + 3 < R.frames by omega) (by rw [tv_sum]; exact hR.2.1) hR.2.2.1 hR.2.2.2 C.2.2.2.2.2.2.1 (fun t hal hz hq => ?_) h3.2.2 hc1 hn1
  · have h9 := hxW w hw
    simp only [xW, List.mem_cons, List.not_mem_nil, or_false] at hw
    rcases hw with rfl | rfl | rfl | rfl | rfl | rfl <;> exact va_Nw.use rfl h9
  · exact ⟨kE, ad, sh, G, rfl, hk3, hE, hx, cW_kept h1 hq, h2, Nat.le_trans h3.1 hz, fun q g1 g2 => (hq q (Nat.lt_of_lt_of_le g1 h3.1)).trans (h3.2.1 q g1 g2)⟩
end AWL
def wfB (n : Nat) (sh : Sh) : Bool := sh.all (fun x => match x with
  | .inr y => y.2.all (fun f => match f with
    | some (some r) => decide (r.1 < n) && decide (r.2 < n)
    | _ => true)
  | .inl _ => true)
theorem wfL_B {sh : Sh} (h : wfB sh.length sh = true) : wfL sh := by
  intro x hx
  have h1 := List.all_eq_true.mp h x hx
  match x, h1 with
  | .inl _, _ => trivial
  | .inr y, h1 =>
    intro f hf
    have h2 := List.all_eq_true.mp h1 f hf
    match f, h2 with
    | none, _ => trivial
    | some none, _ => trivial
    | some (some r), h2 =>
      simp only [Bool.and_eq_true, decide_eq_true_eq] at h2
      exact h2
theorem wf_shA : wfL shA := wfL_B (by decide +kernel)
theorem wf_shB : wfL shB := wfL_B (by decide +kernel)
