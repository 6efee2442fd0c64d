def exN : Nat → String
  | 0 => "java/lang/IndexOutOfBoundsException"
  | 1 => "java/lang/IllegalArgumentException"
  | _ => "java/lang/IllegalStateException"
def exS : List String := ["java/lang/RuntimeException", "java/lang/Exception"]
set_option maxRecDepth 100000 in
theorem xt_g0 : ∀ w ∈ (vx_atS RX10 45 (exN 0) exS).filter goodWord, w ∈ GW := gw_list [(0, 10), (1, 44), (1, 53), (1, 57), (1, 60), (1, 62), (1, 45), (1, 46), (0, 31), (0, 32), (1, 47), (1, 52), (1, 58), (1, 78), (1, 34), (1, 79), (1, 36), (1, 80), (1, 38), (1, 48), (1, 50), (1, 40), (1, 74), (1, 75), (1, 77), (1, 40), (1, 65), (1, 66), (1, 67), (1, 68), (1, 68), (1, 69), (1, 70), (1, 71), (1, 71), (1, 72), (1, 73), (1, 74), (1, 64), (1, 23), (1, 31), (1, 32), (1, 33), (1, 35), (1, 37), (1, 39), (1, 43), (1, 42), (1, 41)] (fun w hw => (List.mem_filter.mp hw).2) (by decide +kernel)
set_option maxRecDepth 100000 in
theorem xt_b0 : ∀ w ∈ (vx_atS RX10 45 (exN 0) exS).filter (fun w => !goodWord w), w ∈ xW := by decide +kernel
set_option maxRecDepth 100000 in
theorem xt_o0 : ∀ w ∈ Cond.classLink RX10 41 (exN 0) :: Cond.initialized (exN 0) :: vx_atS RX10 45 (exN 0) exS, vx_ot w = true := by decide +kernel
set_option maxRecDepth 100000 in
theorem xt_g1 : ∀ w ∈ (vx_atS RX10 55 (exN 1) exS).filter goodWord, w ∈ GW := gw_list [(0, 10), (1, 44), (1, 53), (1, 57), (1, 60), (1, 62), (1, 45), (1, 46), (0, 31), (0, 32), (1, 47), (1, 52), (1, 58), (1, 78), (1, 34), (1, 79), (1, 36), (1, 80), (1, 38), (1, 48), (1, 50), (1, 40), (1, 74), (1, 75), (1, 77), (1, 40), (2, 20), (2, 21), (2, 22), (1, 68), (1, 68), (1, 69), (1, 70), (1, 71), (1, 71), (1, 72), (1, 73), (1, 74), (2, 19), (2, 10), (2, 12), (1, 55), (2, 13), (2, 14), (2, 15), (2, 16), (1, 43), (1, 42), (2, 17)] (fun w hw => (List.mem_filter.mp hw).2) (by decide +kernel)
set_option maxRecDepth 100000 in
theorem xt_b1 : ∀ w ∈ (vx_atS RX10 55 (exN 1) exS).filter (fun w => !goodWord w), w ∈ xW := by decide +kernel
set_option maxRecDepth 100000 in
theorem xt_o1 : ∀ w ∈ Cond.classLink RX10 51 (exN 1) :: Cond.initialized (exN 1) :: vx_atS RX10 55 (exN 1) exS, vx_ot w = true := by decide +kernel
set_option maxRecDepth 100000 in
theorem xt_g2 : ∀ w ∈ (vx_atS RX10 63 (exN 2) exS).filter goodWord, w ∈ GW := gw_list [(0, 10), (1, 44), (1, 53), (1, 57), (1, 60), (1, 62), (1, 45), (1, 46), (0, 31), (0, 32), (1, 47), (1, 52), (1, 58), (1, 78), (1, 34), (1, 79), (1, 36), (1, 80), (1, 38), (1, 48), (1, 50), (1, 40), (1, 74), (1, 75), (1, 77), (1, 40), (2, 45), (2, 46), (2, 47), (1, 68), (1, 68), (1, 69), (1, 70), (1, 71), (1, 71), (1, 72), (1, 73), (1, 74), (2, 44), (2, 35), (2, 37), (1, 56), (2, 38), (2, 39), (2, 40), (2, 41), (1, 43), (1, 42), (2, 42)] (fun w hw => (List.mem_filter.mp hw).2) (by decide +kernel)
set_option maxRecDepth 100000 in
theorem xt_b2 : ∀ w ∈ (vx_atS RX10 63 (exN 2) exS).filter (fun w => !goodWord w), w ∈ xW := by decide +kernel
set_option maxRecDepth 100000 in
theorem xt_o2 : ∀ w ∈ Cond.classLink RX10 59 (exN 2) :: Cond.initialized (exN 2) :: vx_atS RX10 63 (exN 2) exS, vx_ot w = true := by decide +kernel
/-! methods that may throw -/
def XQ (D : va_G) (tA : Nat → ClassId) (ad : Nat → Nat) (A : Nat → Prop) (sh : Sh) (KX : Nat → Gt → Prop) : String → State → State → Prop := fun E st t => ∃ (k : Nat) (G' : Gt), E = exN k ∧ k < 3 ∧ KX k G' ∧ va_P D vwCl (cW tA ad G' sh) t.heap ∧ va_F A st t
def CTX (l : Launch) (y : MethodName) (cc : ByteArray) (nL : Nat) (ret : Option FieldType) (fr lc : Nat) (av : List Value) (sh : Sh) (G : Gt) (K : Option Value → Gt → Prop) (KX : Nat → Gt → Prop) : Prop :=
  ∀ (D : va_G) (tA : Nat → ClassId) (ad : Nat → Nat) (sz : Nat), vx_Met l y (.code y cc nL ret :: GW) { frames := fr, cells := 1, slots := 6, locals := lc } (va_Pc (av.map (tv ad)) (PW D tA ad sz sh G)) (QC0 D tA ad (va_A (cW tA ad G sh) sz) sh K) (XQ D tA ad (va_A (cW tA ad G sh) sz) sh KX) 1 6 (va_A (cW tA ad G sh) sz)
theorem lo_args {ad : Nat → Nat} : ∀ (L : List Value) (i : Nat), l1 (L.map some) = true → lo ad i (L.map some) = lv_args i (L.map (tv ad)) := by
  intro L
  induction L with
  | nil => intro i _; rfl
  | cons x L ih =>
    intro i hx
    have h2 : x.category = 1 ∧ l1 (L.map some) = true := by simpa [l1] using hx
    show (i, tv ad x) :: lo ad (i + 1) (L.map some) = lv_args i (tv ad x :: L.map (tv ad))
    rw [ih _ h2.2]
    simp [lv_args, tv_cat, h2.1]
theorem sl_tv (a b : Nat → Nat) : ∀ L : List Value, (lg_sl (L.map (tv a))).length = (lg_sl (L.map (tv b))).length := by
  intro L
  induction L with
  | nil => rfl
  | cons x L ih => cases x <;> simp_all [lg_sl, tv, Value.category]
/-- a throwing method's contract out of its walk -/
theorem CTX_of {l : Launch} {y : MethodName} {cc : ByteArray} {nL : Nat} {ret : Option FieldType} {fr lc : Nat} {av : List Value} {sh : Sh} {G : Gt} {K : Option Value → Gt → Prop} {KX : Nat → Gt → Prop} (hy : plainName y.cls = true) (hav : (lg_sl (av.map (tv (fun q => q)))).length ≤ nL) (h1 : l1 (av.map some) = true)
    (body : ∀ (p : Program) (e : Env) (s : State) (m : MethodId) (args : Array Value) (below : List Frame) (meth : Method) (c : Code) (D : va_G) (tA : Nat → ClassId) (ad : Nat → Nat) (A : Nat → Prop), cx p s m args meth c y.cls cc nL D tA A → meth.sig.returnType = ret → (∀ x ∈ c.exceptionTable.toList, False) →
      aw p l e { frames := fr, cells := 1, slots := 6, locals := lc } s m args below meth c nL D tA A (vx_MQ below (QC0 D tA ad A sh K) (XQ D tA ad A sh KX) args s 1 6 A) 0 0 ad 0 (pad (av.map some) nL) [] sh G) : CTX l y cc nL ret fr lc av sh G K KX := by
  intro D tA ad sz
  refine vx_ofW (cc := cc) (maxL := nL) (ret := ret) hy rfl ?_
  intro p e s m args below meth c s₁ B hml hnt hv
  obtain ⟨rfl, hsz, hP, hK, hD0, hsx⟩ := hv
  have hts := atoms_spec (ws := .code y cc nL ret :: GW) B.pre
  have hown : s.vm.findClass y.cls = some m.cls := findClass_of_methodNamed B.named
  have hlocks := B.notSynchronized
  subst hsz
  have C : cx p s m (av.map (tv ad)).toArray meth c y.cls cc nL D tA (va_A (cW tA ad G sh) s.heap.size) := ⟨B.exec, B.bytes, hml, hown, fun w hw => hts w (List.mem_cons_of_mem _ hw), hK, hlocks, fun q h => Or.inr h, hsx⟩
  have hlen : (lg_sl (av.map (tv ad))).length ≤ nL := by rw [sl_tv ad (fun q => q)]; exact hav
  have hl := lv_entry (av.map (tv ad)) (n := nL) hlen
  rw [lg_entry_eq]
  generalize (lg_sl (av.map (tv ad)) ++ List.replicate (nL - (lg_sl (av.map (tv ad))).length) Slot.unset).toArray = ls at hl ⊢
  have hl2 : lv_has ls nL (lo ad 0 (pad (av.map some) nL)) := by
    refine lv_less hl (fun q hq0 => ?_)
    have hq := lo_pad hq0
    rw [← lo_args _ _ h1]; exact hq
  exact body p e s m _ below meth c D tA ad _ C B.returns hnt s.heap [] ls hP hD0.self va_S.rf hl2
theorem CTX.mono {l : Launch} {y : MethodName} {cc : ByteArray} {nL : Nat} {ret : Option FieldType} {fr lc : Nat} {av : List Value} {sh : Sh} {G : Gt} {K K' : Option Value → Gt → Prop} {KX KX' : Nat → Gt → Prop} (h : CTX l y cc nL ret fr lc av sh G K KX) (hk : ∀ r G', K r G' → K' r G') (hx : ∀ r G', KX r G' → KX' r G') : CTX l y cc nL ret fr lc av sh G K' KX' := by
  intro D tA ad sz p e ha hc hx0 s m args below hf hfit hP hT
  obtain ⟨t, o, a1, a2, a3, a4⟩ := h D tA ad sz p e ha hc hx0 s m args below hf hfit hP hT
  refine ⟨t, o, a1, a2, a3, ?_⟩
  rcases a4 with ⟨⟨⟨r, G', g1, g2, g3⟩, g4⟩, g5⟩ | ⟨q, e1, E, ce, L, ⟨k, G', f1, f2, f3, f4⟩, f5⟩
  · exact Or.inl ⟨⟨⟨r, G', g1, hk _ _ g2, g3⟩, g4⟩, g5⟩
  · exact Or.inr ⟨q, e1, E, ce, L, ⟨k, G', f1, f2, hx _ _ f3, f4⟩, f5⟩
section AW6
variable {p : Program} {l : Launch} {e : Env} {R : Room} {s : State} {m : MethodId} {args : Array Value} {below : List Frame} {meth : Method} {c : Code} {D : va_G} {tA : Nat → ClassId} {A : Nat → Prop} {ad : Nat → Nat} {nL : Nat} {Q : State → Prop} {k n : Nat} {cc : ByteArray}
variable {pc : Nat} {lv : List (Option Value)} {st : List Value} {sh sh1 : Sh} {G : Gt} {K : Option Value → Gt → Prop} {KX : Nat → Gt → Prop}
theorem aw_widen {k1 n1 : Nat} (h1 : k ≤ k1) (h2 : n ≤ n1) (kk : aw p l e R s m args below meth c nL D tA A Q k1 n1 ad pc lv st sh G) : aw p l e R s m args below meth c nL D tA A Q k n ad pc lv st sh G :=
  fun H locs ls g1 g2 g3 g4 => W.widen h1 h2 (kk H locs ls g1 g2 g3 g4)
theorem aw_vx {Qc : Array Value → State → Outcome → State → Prop} {XC : String → State → State → Prop} {k1 n1 : Nat} (h1 : k ≤ k1) (h2 : n ≤ n1) (kk : aw p l e R s m args below meth c nL D tA A (MQ below Qc args s k1 n1 A) k1 n1 ad pc lv st sh G) : aw p l e R s m args below meth c nL D tA A (vx_MQ below Qc XC args s k1 n1 A) k n ad pc lv st sh G :=
  fun H locs ls g1 g2 g3 g4 => W.widen h1 h2 (vx_ret (kk H locs ls g1 g2 g3 g4))
/-- throw new E("text") -/
theorem aw_throw {Qc : Array Value → State → Outcome → State → Prop} {k1 n1 : Nat} (hlf : l.stackTraces = false) (C : cx p s m args meth c RX10 cc nL D tA A) {ik is ic kE : Nat} {text : String} (hk3 : kE < 3) (hfit : Bundle.fit (exN kE) = true) (hk : Cond.classLink RX10 ik (exN kE) ∈ GW) (hini : Cond.initialized (exN kE) ∈ GW) (hs : (RX10, is, text) ∈ sW)
    (hg : ∀ w ∈ (vx_atS RX10 ic (exN kE) exS).filter goodWord, w ∈ GW) (hbd : ∀ w ∈ (vx_atS RX10 ic (exN kE) exS).filter (fun w => !goodWord w), w ∈ xW) (hot : ∀ w ∈ Cond.classLink RX10 ik (exN kE) :: Cond.initialized (exN kE) :: vx_atS RX10 ic (exN kE) exS, vx_ot w = true)
    (d0 : decode cc pc = .ok (.new ik, 3)) (d3 : decode cc (pc + 3) = .ok (.dup, 1)) (d4 : decode cc (pc + 4) = .ok (.ldc is, 2)) (d6 : decode cc (pc + 6) = .ok (.invokespecial ic, 3)) (d9 : decode cc (pc + 9) = .ok (.athrow, 1))
    (hout : ∀ x ∈ c.exceptionTable.toList, False) (hR : 6 ≤ R.frames ∧ (st.map fun v => v.category).sum + 82 ≤ R.locals ∧ k + 1 ≤ R.cells ∧ n + 6 ≤ R.slots) (hc1 : k + 1 ≤ k1) (hn1 : n + 6 ≤ n1) (hx : KX kE G) : aw p l e R s m args below meth c nL D tA A (vx_MQ below Qc (XQ D tA ad A sh KX) args s k1 n1 A) k n ad pc lv st sh G := by
  intro H locs ls h1 h2 h3 h4
  obtain ⟨⟨-, hxW, -⟩, hsW, hU, hN, -⟩ := C.2.2.2.2.2.2.2.2
  obtain ⟨sa, hstr⟩ := hsW _ hs
  refine vx_throwS (names := exS) (cls := exN kE) C.1 C.2.1 hlf C.2.2.2.1 hfit (by decide +kernel) (C.2.2.2.2.1 _ hk) (C.2.2.2.2.1 _ hini) hstr (vx_hat (fun w hw => C.2.2.2.2.1 _ (hg w hw)) hbd (fun w hw => ?_)) hot hU hN h3 (h4.1.trans C.2.2.1.symm) d0 d3 d4 d6 d9 (fun x hx => (hout x hx).elim) (show 2 + 3 < R.frames by omega) (by rw [tv_sum]; exact hR.2.1) hR.2.2.1 hR.2.2.2 C.2.2.2.2.2.2.1 (fun t hal hz hq => ?_) h3.2.2 hc1 hn1
  · have h9 := hxW w hw
    simp only [xW, List.mem_cons, List.not_mem_nil, or_false] at hw
    rcases hw with rfl | rfl | rfl | rfl | rfl | rfl <;> exact va_Nw.use rfl h9
  · exact ⟨kE, G, rfl, hk3, hx, cW_kept h1 hq, Nat.le_trans h3.1 hz, fun q g1 g2 => (hq q (Nat.lt_of_lt_of_le g1 h3.1)).trans (h3.2.1 q g1 g2)⟩
theorem aw_astorenN {own : String} (C : cx p s m args meth c own cc nL D tA A) {i : Fin 4} (d : decode cc pc = .ok (.astore_n i, 1)) (hi : (i : Nat) < nL) (hc : l1 lv = true) (kk : aw p l e R s m args below meth c nL D tA A Q k n ad (pc + 1) (lv.set (i : Nat) (some .null)) st sh G) : aw p l e R s m args below meth c nL D tA A Q k n ad pc lv (.null :: st) sh G :=
  fun H locs ls h1 h2 h3 h4 => lv_astore_nN C.1 C.2.1 d rfl h4 hi rfl (fun ls h5 => kk H locs ls h1 h2 h3 (lo_set (x := .null) hc h5))
theorem aw_aloadnN {own : String} (C : cx p s m args meth c own cc nL D tA A) {i : Fin 4} (d : decode cc pc = .ok (.aload_n i, 1)) (hv : lv[(i : Nat)]? = some (some .null)) (kk : aw p l e R s m args below meth c nL D tA A Q k n ad (pc + 1) lv (.null :: st) sh G) : aw p l e R s m args below meth c nL D tA A Q k n ad pc lv st sh G :=
  fun H locs ls h1 h2 h3 h4 => lv_aload_nN C.1 C.2.1 d rfl (lo_at h4 hv) (kk H locs ls h1 h2 h3 h4)
end AW6
