/-! the JDK's String methods, on the one text that the class reads -/
def sj (a v : Nat) (A : Nat → Prop) (U : State) (H : Heap) : Prop :=
  va_Z "java/lang/String" "COMPACT_STRINGS" "Z" (.int 1) A U H ∧ va_Zq "jdk/internal/util/Preconditions" "SIOOBE_FORMATTER" "Ljava/util/function/BiFunction;" A U H ∧ vk_S 1 [120] [tx0] (fun _ => a) (fun _ => v) A U H
theorem sj.kept {a v : Nat} {A : Nat → Prop} {U : State} {H H1 : Heap} (h : sj a v A U H) (hq : ∀ x : Nat, x < H.size → ¬ A x → H1[x]? = H[x]?) : sj a v A U H1 := ⟨h.1.kept hq, h.2.1.kept hq, h.2.2.kept hq⟩
theorem sj.moved {a v : Nat} {A : Nat → Prop} {u U : State} {H : Heap} (hvm : u.vm.Alike U.vm) (h : sj a v A u H) : sj a v A U H := ⟨h.1.moved hvm, h.2.1.moved hvm, h.2.2.moved hvm⟩
theorem sj.narrow {a v : Nat} {A B : Nat → Prop} {U : State} {H : Heap} (h : sj a v A U H) (hAB : ∀ q, B q → A q) : sj a v B U H := ⟨h.1.narrow hAB, h.2.1.narrow hAB, h.2.2.narrow hAB⟩
theorem sx_sj {A : Nat → Prop} {U : State} {H : Heap} (h : sx A U H) : ∃ a v, sj a v A U H ∧ vk_R RX4 50 "v--n--np-np-pp-pp-pp-pp-pp-pp-ppppp-p--qp-qp-q--np-pp-soop--npppp-p--p--p--p--qppq--qp-p-----p-----------p--p--p--sp-h--" a U := by
  obtain ⟨-, -, -, -, h5, h6, adK, adV, h7, h8⟩ := h
  refine ⟨adK 0, adV 0, ⟨h5, h6, ⟨fun i hi => ?_, fun i j hi hj _ => by omega⟩⟩, h8⟩
  have : i = 0 := by omega
  subst this
  exact h7.1 0 hi
def QJ (K : Option Value → Prop) : Array Value → State → Outcome → State → Prop := fun _ st o t => (∃ r : Option Value, o = .returned r ∧ K r) ∧ va_F (fun _ => False) st t
def PJ (av : List Value) (a v : Nat) (A : Nat → Prop) : Array Value → State → Prop := va_Pc av (fun U => sj a v A U U.heap)
def CJ (l : Launch) (y : MethodName) (cc : ByteArray) (nL : Nat) (ret : Option FieldType) (fr lc : Nat) (av : List Value) (a v : Nat) (K : Option Value → Prop) : Prop :=
  ∀ (A : Nat → Prop), Met l y (.code y cc nL ret :: GW) { frames := fr, cells := 0, slots := 0, locals := lc } (PJ av a v A) (QJ K) 0 0 (fun _ => False)
theorem PJ_blind {av : List Value} {a v : Nat} {A : Nat → Prop} : FrameBlind (PJ av a v A) := by
  intro a U g mk q
  obtain ⟨q0, q1⟩ := q
  exact ⟨q0, sj.moved (u := U) (U := U.calling g mk a) (Vm.Alike.refl U.vm) q1⟩
def cy (p : Program) (s : State) (m : MethodId) (args : Array Value) (meth : Method) (c : Code) (own : String) (cc : ByteArray) (nL : Nat) (a v : Nat) (A : Nat → Prop) : Prop :=
  p.tables.exec = Jvm.exec ∧ c.code = cc ∧ c.maxLocals = nL ∧ s.vm.findClass own = some m.cls ∧ (∀ w ∈ GW, w.before args s = true) ∧ meth.locks = false ∧ sj a v A s s.heap
def nF : Nat → Prop := fun _ => False
theorem CJ_of {l : Launch} {y : MethodName} {cc : ByteArray} {nL : Nat} {ret : Option FieldType} {fr lc : Nat} {av : List Value} {a v : Nat} {K : Option Value → Prop} (hy : plainName y.cls = true) (hav : (lg_sl av).length ≤ nL)
    (body : ∀ (p : Program) (e : Env) (s : State) (m : MethodId) (args : Array Value) (below : List Frame) (meth : Method) (c : Code) (A : Nat → Prop) (ls : Array Slot), cy p s m args meth c y.cls cc nL a v A → meth.sig.returnType = ret → lv_has ls nL (lv_args 0 av) →
      W p l e { frames := fr, cells := 0, slots := 0, locals := lc } s m args below meth c s.heap [] 0 0 (MQ below (QJ K) args s 0 0 (fun _ => False)) (F0 m 0 ls [])) : CJ l y cc nL ret fr lc av a v K := by
  intro A
  refine Met.ofW (cc := cc) (maxL := nL) (ret := ret) hy rfl ?_
  intro p e s m args below meth c s₁ B hml hv
  obtain ⟨rfl, hsx⟩ := hv
  have hts := atoms_spec (ws := .code y cc nL ret :: GW) B.pre
  have hown : s.vm.findClass y.cls = some m.cls := findClass_of_methodNamed B.named
  have hl := lv_entry av (n := nL) hav
  rw [lg_entry_eq]
  generalize (lg_sl av ++ List.replicate (nL - (lg_sl av).length) Slot.unset).toArray = ls at hl ⊢
  exact body p e s m _ below meth c A ls ⟨B.exec, B.bytes, hml, hown, fun w hw => hts w (List.mem_cons_of_mem _ hw), B.notSynchronized, hsx⟩ B.returns hl
section JDK
variable {p : Program} {l : Launch} {e : Env} {R : Room} {s : State} {m : MethodId} {args : Array Value} {below : List Frame} {meth : Method} {c : Code} {A : Nat → Prop} {nL k n : Nat} {Q : State → Prop} {own : String} {cc : ByteArray} {pc : Nat} {ls : Array Slot} {H : Heap} {locs : List Loc} {st0 rest : List Value} {a v : Nat} {K : Option Value → Prop}
variable {y : MethodName} {bytes : ByteArray} {maxL fr lc idx : Nat} {ret : Option FieldType} {As : List Value} {na : Nat}
theorem va_S.wide {A B : Nat → Prop} {H0 H : Heap} {locs : List Loc} (h : va_S A H0 H locs) (hAB : ∀ q, A q → B q) : va_S B H0 H locs := ⟨h.1, fun q h1 h2 => h.2.1 q h1 (fun z => h2 (hAB q z)), fun q hq => hAB _ (h.2.2 q hq)⟩
theorem j_run {B : Nat → Prop} (hr : ∃ aa, va_Run p l e R s m args below meth c H locs k n 0 0 (F0 m pc ls st0) rest (QJ K aa) (fun _ => False)) (hS : va_S B s.heap H locs)
    (kk : ∀ (r : Option Value) (H1 : Heap) (locs1 : List Loc), K r → H.size ≤ H1.size → (∀ q : Nat, q < H.size → H1[q]? = H[q]?) → va_S B s.heap H1 locs1 → W p l e R s m args below meth c H1 locs1 k n Q (F0 m (pc + 3) ls (r.toList ++ rest))) : W p l e R s m args below meth c H locs k n Q (F0 m pc ls st0) := by
  intro T hT X
  obtain ⟨aa, ha⟩ := hr
  obtain ⟨r, st₀, t, T', L, h0, X', hL, e1, e2, ⟨⟨r', hv, hp⟩, hz, hk⟩, sp⟩ := ha T hT X
  cases hv
  rw [h0] at hz hk
  have hsame : ∀ q : Nat, q < H.size → T'.heap[q]? = H[q]? := fun q hq => by rw [e1]; exact hk q hq (fun z => z)
  obtain ⟨t2, a1, b1⟩ := kk r T'.heap (locs ++ L) hp (by rw [e1]; exact hz) hsame ⟨Nat.le_trans hS.1 (by rw [e1]; exact hz), fun q g1 g2 => (hsame q (Nat.lt_of_lt_of_le g1 hS.1)).trans (hS.2.1 q g1 g2), fun q hq => by
      rcases List.mem_append.mp hq with h | h
      · exact hS.2.2 q h
      · exact (hL q h).elim⟩ T' rfl X'
  exact ⟨t2, sp t2 a1, b1⟩
theorem j_callV {A1 B : Nat → Prop} {b : Nat} {Cn : String} (hexec : p.tables.exec = Jvm.exec) (hb : c.code = cc) (hml : c.maxLocals = nL) (hown : s.vm.findClass own = some m.cls) (hts : ∀ w ∈ GW, w.before args s = true) (hj : sj a v A1 s s.heap) (hS : va_S B s.heap H locs) (hBA : ∀ q, B q → A1 q) (hrecv : ∃ cell : Cell, H[b]? = some cell ∧ cell.vm.isStatics = false ∧ s.vm.findClass Cn = some cell.cls)
    (hM : CJ l y bytes maxL ret fr lc (.ref b :: As) a v K) (hlk : Cond.methodLink own idx y ∈ GW) (hy : gwV y bytes maxL ret Cn na) (hn : As.length = na) (hsz : ls.size = nL) (hR : fr + 1 ≤ R.frames ∧ 8 + (maxL + 11) + lc ≤ R.locals ∧ k ≤ R.cells ∧ n ≤ R.slots) (hst : st0 = As.reverse ++ .ref b :: rest) (hcat : (rest.map fun v => v.category).sum ≤ 8) (d : decode cc pc = .ok (.invokevirtual idx, 3))
    (kk : ∀ (r : Option Value) (H1 : Heap) (locs1 : List Loc), K r → H.size ≤ H1.size → (∀ q : Nat, q < H.size → H1[q]? = H[q]?) → va_S B s.heap H1 locs1 → W p l e R s m args below meth c H1 locs1 k n Q (F0 m (pc + 3) ls (r.toList ++ rest))) : W p l e R s m args below meth c H locs k n Q (F0 m pc ls st0) := by
  subst hst
  refine j_run ⟨_, va_runV (As := As) (b := b) (rest := rest) (C := Cn) (n := na) ⟨hexec, hb, hml, hown, hts⟩ (hM A1) (cwV na hts ?_ rfl rfl rfl hy.2.2.2.2 ⟨hR.1, hR.2.1⟩) ⟨PJ_blind, hrecv, fun U hU hW => ⟨rfl, ?_⟩⟩ rfl hn hsz rfl (lv_room hcat) d ⟨hR.2.2.1, hR.2.2.2⟩⟩ hS kk
  · intro w hw
    rcases List.mem_append.mp hw with hw | hw
    · simp only [List.mem_cons, List.not_mem_nil, or_false] at hw
      have hin : w ∈ GW := by
        rcases hw with rfl | rfl | rfl | rfl
        · exact hlk
        · exact hy.2.1
        · exact hy.2.2.1
        · rw [← hy.2.2.2.2.1]; exact hy.2.2.2.1
      exact ⟨hin, good_of_word (gw_good hin)⟩
    · exact gwGood y bytes maxL ret hy.1 w hw
  · show sj a v A1 U U.heap
    rw [hU]
    exact (hj.moved hW.alike).kept (fun x g1 g2 => hS.2.1 x g1 (fun z => g2 (hBA x z)))
theorem j_callS {A1 B : Nat → Prop} (hexec : p.tables.exec = Jvm.exec) (hb : c.code = cc) (hml : c.maxLocals = nL) (hown : s.vm.findClass own = some m.cls) (hts : ∀ w ∈ GW, w.before args s = true) (hj : sj a v A1 s s.heap) (hS : va_S B s.heap H locs) (hBA : ∀ q, B q → A1 q)
    (hM : CJ l y bytes maxL ret fr lc As a v K) (hlk : Cond.methodLink own idx y ∈ GW) (hy : gwS y bytes maxL ret na) (hn : As.length = na) (hsz : ls.size = nL) (hR : fr + 1 ≤ R.frames ∧ 8 + (maxL + 11) + lc ≤ R.locals ∧ k ≤ R.cells ∧ n ≤ R.slots) (hst : st0 = As.reverse ++ rest) (hcat : (rest.map fun v => v.category).sum ≤ 8) (d : decode cc pc = .ok (.invokestatic idx, 3))
    (kk : ∀ (r : Option Value) (H1 : Heap) (locs1 : List Loc), K r → H.size ≤ H1.size → (∀ q : Nat, q < H.size → H1[q]? = H[q]?) → va_S B s.heap H1 locs1 → W p l e R s m args below meth c H1 locs1 k n Q (F0 m (pc + 3) ls (r.toList ++ rest))) : W p l e R s m args below meth c H locs k n Q (F0 m pc ls st0) := by
  subst hst
  refine j_run ⟨_, va_runS (As := As) (rest := rest) (n := na) ⟨hexec, hb, hml, hown, hts⟩ (hM A1) (va_cwS na hts ?_ rfl rfl rfl hy.2.2.2 ⟨hR.1, hR.2.1⟩) ⟨PJ_blind, fun U hU hW => ⟨rfl, ?_⟩⟩ rfl hn hsz rfl (lv_room hcat) d ⟨hR.2.2.1, hR.2.2.2⟩⟩ hS kk
  · intro w hw
    rcases List.mem_append.mp hw with hw | hw
    · simp only [List.mem_cons, List.not_mem_nil, or_false] at hw
      have hin : w ∈ GW := by
        rcases hw with rfl | rfl | rfl
        · exact hlk
        · exact hy.2.1
        · exact hy.2.2.1
      exact ⟨hin, good_of_word (gw_good hin)⟩
    · exact gwGood y bytes maxL ret hy.1 w hw
  · show sj a v A1 U U.heap
    rw [hU]
    exact (hj.moved hW.alike).kept (fun x g1 g2 => hS.2.1 x g1 (fun z => g2 (hBA x z)))
end JDK
set_option maxHeartbeats 4000000 in
set_option maxRecDepth 100000 in
theorem cj_coder {l : Launch} (a v : Nat) : CJ l yJ0_coder_7d493 cJ0_coder_7d493 1 (some .byte) 0 0 [.ref a] a v (fun r => r = some (.int 0)) := by
  refine CJ_of (by decide) (Nat.le_of_ble_eq_true rfl) ?_
  intro p e s m args below meth c A ls C hr hl
  obtain ⟨hx, hb, hml, hown, hts, hlocks, hj⟩ := C
  have hS : va_S (fun _ => False) s.heap s.heap [] := va_S.rf
  refine va_gets hx hb hj.1 (va_S.rf) hown (hts _ mF_J0_38) (fun _ h => h) dJ0_coder_7d493_0 ?_
  refine lv_if_eq (tgt := 13) hx hb dJ0_coder_7d493_3 (by decide) (fun q => absurd q (by decide)) (fun _ => ?_)
  refine lv_aload_n hx hb dJ0_coder_7d493_6 rfl (lv_at hl 0 rfl) ?_
  refine vk_getf hx hb (hj.2.2.1 0 (by decide)).2.1 va_S.rf hown (hts _ mF_J0_15) (fun _ h => h) dJ0_coder_7d493_7 ?_
  refine lv_goto (tgt := 14) hx hb dJ0_coder_7d493_10 (by decide) ?_
  exact W.zret hx hb hr rfl (fun t ht hW => ⟨⟨_, rfl, rfl⟩, hS.F ht⟩) (fun q hq => by cases hq) dJ0_coder_7d493_14 hlocks
set_option maxHeartbeats 4000000 in
set_option maxRecDepth 100000 in
theorem cj_isLatin1 {l : Launch} (a v : Nat) : CJ l yJ0_isLatin1_aae02 cJ0_isLatin1_aae02 1 (some .boolean) 0 0 [.ref a] a v (fun r => r = some (.int 1)) := by
  refine CJ_of (by decide) (Nat.le_of_ble_eq_true rfl) ?_
  intro p e s m args below meth c A ls C hr hl
  obtain ⟨hx, hb, hml, hown, hts, hlocks, hj⟩ := C
  have hS : va_S (fun _ => False) s.heap s.heap [] := va_S.rf
  refine va_gets hx hb hj.1 (va_S.rf) hown (hts _ mF_J0_38) (fun _ h => h) dJ0_isLatin1_aae02_0 ?_
  refine lv_if_eq (tgt := 17) hx hb dJ0_isLatin1_aae02_3 (by decide) (fun q => absurd q (by decide)) (fun _ => ?_)
  refine lv_aload_n hx hb dJ0_isLatin1_aae02_6 rfl (lv_at hl 0 rfl) ?_
  refine vk_getf hx hb (hj.2.2.1 0 (by decide)).2.1 va_S.rf hown (hts _ mF_J0_15) (fun _ h => h) dJ0_isLatin1_aae02_7 ?_
  refine lv_if_ne (tgt := 17) hx hb dJ0_isLatin1_aae02_10 (by decide) (fun q => absurd rfl q) (fun _ => ?_)
  refine lv_iconst (v := 1) hx hb dJ0_isLatin1_aae02_13 (by decide) ?_
  refine lv_goto (tgt := 18) hx hb dJ0_isLatin1_aae02_14 (by decide) ?_
  exact W.zret hx hb hr rfl (fun t ht hW => ⟨⟨_, rfl, rfl⟩, hS.F ht⟩) (fun q hq => by cases hq) dJ0_isLatin1_aae02_18 hlocks
set_option maxHeartbeats 4000000 in
set_option maxRecDepth 100000 in
theorem cj_length {l : Launch} (a v : Nat) : CJ l yJ0_length_8abf5 cJ0_length_8abf5 1 (some .int) 1 20 [.ref a] a v (fun r => r = some (.int 120)) := by
  refine CJ_of (by decide) (Nat.le_of_ble_eq_true rfl) ?_
  intro p e s m args below meth c A ls C hr hl
  obtain ⟨hx, hb, hml, hown, hts, hlocks, hj⟩ := C
  refine lv_aload_n hx hb dJ0_length_8abf5_0 rfl (lv_at hl 0 rfl) ?_
  refine vk_getf hx hb (hj.2.2.1 0 (by decide)).2.2.1 va_S.rf hown (hts _ mF_J0_9) (fun _ h => h) dJ0_length_8abf5_1 ?_
  refine va_tlen (v := 120) hx hb (hj.2.2.1 0 (by decide)).2.2.2 va_S.rf rfl dJ0_length_8abf5_4 ?_
  refine lv_aload_n hx hb dJ0_length_8abf5_5 rfl (lv_at hl 0 rfl) ?_
  refine j_callV (A1 := A) (H := s.heap) (locs := []) (rest := [.int 120]) hx hb hml hown hts hj (B := fun _ => False) va_S.rf (fun _ z => z.elim) (vk_recv hj.2.2 (i := 0) (by decide) va_S.rf) (cj_coder a v) mM_J0_335 bJ0_coder_7d493 rfl hl.1 ⟨Nat.le_of_ble_eq_true rfl, Nat.le_of_ble_eq_true rfl, Nat.zero_le _, Nat.zero_le _⟩ rfl (Nat.le_of_ble_eq_true rfl) dJ0_length_8abf5_6 (fun r H1 locs1 hk h1 h2 hS1 => ?_)
  subst hk
  refine lv_ishr hx hb dJ0_length_8abf5_9 ?_
  exact W.iret hx hb hr (fun t ht hW => ⟨⟨_, rfl, rfl⟩, by rw [ht]; exact h1, fun q g1 _ => by rw [ht]; exact h2 q g1⟩) (fun q hq => (hS1.2.2 q hq)) dJ0_length_8abf5_10 hlocks
set_option maxHeartbeats 4000000 in
set_option maxRecDepth 100000 in
theorem cj_check3 {l : Launch} (a v : Nat) (i : Int32) (f : Value) (hf : f = .null ∨ ∃ t, f = .ref t) (hi : vp_in i 120) : CJ l yJ3_checkIndex_8e157 cJ3_checkIndex_8e157 3 (some .int) 0 0 [.int i, .int 120, f] a v (fun r => r = some (.int i)) := by
  refine CJ_of (by decide) (by rcases hf with rfl | ⟨t, rfl⟩ <;> exact Nat.le_of_ble_eq_true rfl) ?_
  intro p e s m args below meth c A ls C hr hl
  obtain ⟨hx, hb, hml, hown, hts, hlocks, hj⟩ := C
  have hS : va_S (fun _ => False) s.heap s.heap [] := va_S.rf
  have h0 : ¬ i < 0 := fun z => hi (Or.inl z)
  have h1 : i < 120 := by
    rw [vp_in_iff] at hi
    rw [Int32.lt_iff_toInt_lt]
    exact hi.2
  have hl : lv_has ls 3 [(0, .int i), (1, .int 120)] := lv_less hl (by intro q hq; rcases hf with rfl | ⟨t, rfl⟩ <;> (simp [lv_args, Value.category] at hq ⊢; rcases hq with h | h <;> simp [h]))
  refine lv_iload_n hx hb dJ3_checkIndex_8e157_0 rfl (lv_at hl 0 rfl) ?_
  refine lv_if_lt (tgt := 9) hx hb dJ3_checkIndex_8e157_1 (by decide) (fun q => absurd q h0) (fun _ => ?_)
  refine lv_iload_n hx hb dJ3_checkIndex_8e157_4 rfl (lv_at hl 0 rfl) ?_
  refine lv_iload_n hx hb dJ3_checkIndex_8e157_5 rfl (lv_at hl 1 rfl) ?_
  refine lv_icmp_lt (tgt := 16) hx hb dJ3_checkIndex_8e157_6 (by decide) (fun _ => ?_) (fun q => absurd h1 q)
  refine lv_iload_n hx hb dJ3_checkIndex_8e157_16 rfl (lv_at hl 0 rfl) ?_
  exact W.iret hx hb hr (fun t ht hW => ⟨⟨_, rfl, rfl⟩, hS.F ht⟩) (fun q hq => by cases hq) dJ3_checkIndex_8e157_17 hlocks
theorem va_getsq {p : Program} {l : Launch} {e : Env} {R : Room} {s : State} {m : MethodId} {args : Array Value} {below : List Frame} {meth : Method} {c : Code} {A : Nat → Prop} {k n : Nat} {Q : State → Prop} {cc : ByteArray} {pc : Nat} {ls : Array Slot} {H : Heap} {locs : List Loc} {rest : List Value} (hexec : p.tables.exec = Jvm.exec) (hb : c.code = cc) {C nm d own ref : String} {index : Nat} (hZ : va_Zq C nm d A s s.heap) (hS : va_S A s.heap H locs) (hown : s.vm.findClass own = some m.cls) (hlink : (Cond.fieldLink own index ref nm d).before args s = true) (hsame : ∀ x, s.fieldFound? C nm d = some x → s.fieldFound? ref nm d = some x) (hdg : decode cc pc = .ok (.getstatic index, 3))
    (kk : ∀ v : Value, (v = .null ∨ ∃ t, v = .ref t) → W p l e R s m args below meth c H locs k n Q (F0 m (pc + 3) ls (v :: rest))) : W p l e R s m args below meth c H locs k n Q (F0 m pc ls rest) := by
  rcases hZ with hZ | ⟨t, hZ⟩
  · exact va_gets hexec hb hZ hS hown hlink hsame hdg (kk _ (Or.inl rfl))
  · exact va_gets hexec hb hZ hS hown hlink hsame hdg (kk _ (Or.inr ⟨_, rfl⟩))
set_option maxHeartbeats 4000000 in
set_option maxRecDepth 100000 in
theorem cj_check {l : Launch} (a v : Nat) (i : Int32) (hi : vp_in i 120) : CJ l yJ0_checkIndex_df160 cJ0_checkIndex_df160 2 none 1 22 [.int i, .int 120] a v (fun r => r = none) := by
  refine CJ_of (by decide) (Nat.le_of_ble_eq_true rfl) ?_
  intro p e s m args below meth c A ls C hr hl
  obtain ⟨hx, hb, hml, hown, hts, hlocks, hj⟩ := C
  refine lv_iload_n hx hb dJ0_checkIndex_df160_0 rfl (lv_at hl 0 rfl) ?_
  refine lv_iload_n hx hb dJ0_checkIndex_df160_1 rfl (lv_at hl 1 rfl) ?_
  refine va_getsq hx hb hj.2.1 va_S.rf hown (hts _ mF_J0_1053) (fun _ h => h) dJ0_checkIndex_df160_2 (fun f hf => ?_)
  refine j_callS (A1 := A) (H := s.heap) (locs := []) (rest := []) hx hb hml hown hts hj (B := fun _ => False) va_S.rf (fun _ z => z.elim) (cj_check3 a v i f hf hi) mM_J0_1059 bJ3_checkIndex_8e157 rfl hl.1 ⟨Nat.le_of_ble_eq_true rfl, Nat.le_of_ble_eq_true rfl, Nat.zero_le _, Nat.zero_le _⟩ rfl (Nat.le_of_ble_eq_true rfl) dJ0_checkIndex_df160_5 (fun r H1 locs1 hk h1 h2 hS1 => ?_)
  subst hk
  refine lv_pop hx hb dJ0_checkIndex_df160_8 rfl ?_
  exact W.vret hx hb hr (fun t ht hW => ⟨⟨_, rfl, rfl⟩, by rw [ht]; exact h1, fun q g1 _ => by rw [ht]; exact h2 q g1⟩) (fun q hq => (hS1.2.2 q hq)) dJ0_checkIndex_df160_9 hlocks
def txat (i : Int32) : Int32 := tx0.getD i.toNatClampNeg 0
theorem txat_c : ∀ x ∈ tx0, (((x &&& 255).toUInt32 % 65536).toInt32 = x ∧ narrow .char (.int x) = .int x) := by
  have h : tx0.all (fun x => decide (((x &&& 255).toUInt32 % 65536).toInt32 = x ∧ narrow .char (.int x) = .int x)) = true := by decide +kernel
  intro x hx
  exact of_decide_eq_true (List.all_eq_true.mp h x hx)
theorem txat_in {i : Int32} (hi : vp_in i 120) : txat i ∈ tx0 := by
  have hl : tx0.length = 120 := by decide +kernel
  have h : i.toNatClampNeg < tx0.length := by rw [hl]; exact Nat.not_le.mp fun q => hi (Or.inr q)
  rw [txat, List.getD_eq_getElem?_getD, List.getElem?_eq_getElem h]
  exact List.getElem_mem h
set_option maxHeartbeats 4000000 in
set_option maxRecDepth 100000 in
theorem cj_charAt1 {l : Launch} (a v : Nat) (i : Int32) (hi : vp_in i 120) : CJ l yJ1_charAt_3b067 cJ1_charAt_3b067 2 (some .char) 2 43 [.ref v, .int i] a v (fun r => r = some (.int (txat i))) := by
  refine CJ_of (by decide) (Nat.le_of_ble_eq_true rfl) ?_
  intro p e s m args below meth c A ls C hr hl
  obtain ⟨hx, hb, hml, hown, hts, hlocks, hj⟩ := C
  refine lv_iload_n hx hb dJ1_charAt_3b067_0 rfl (lv_at hl 1 rfl) ?_
  refine lv_aload_n hx hb dJ1_charAt_3b067_1 rfl (lv_at hl 0 rfl) ?_
  refine va_tlen (v := 120) hx hb (hj.2.2.1 0 (by decide)).2.2.2 va_S.rf rfl dJ1_charAt_3b067_2 ?_
  refine j_callS (A1 := A) (H := s.heap) (locs := []) (rest := []) hx hb hml hown hts hj (B := fun _ => False) va_S.rf (fun _ z => z.elim) (cj_check a v i hi) mM_J1_9 bJ0_checkIndex_df160 rfl hl.1 ⟨Nat.le_of_ble_eq_true rfl, Nat.le_of_ble_eq_true rfl, Nat.zero_le _, Nat.zero_le _⟩ rfl (Nat.le_of_ble_eq_true rfl) dJ1_charAt_3b067_3 (fun r H1 locs1 hk h1 h2 hS1 => ?_)
  subst hk
  refine lv_aload_n hx hb dJ1_charAt_3b067_6 rfl (lv_at hl 0 rfl) ?_
  refine lv_iload_n hx hb dJ1_charAt_3b067_7 rfl (lv_at hl 1 rfl) ?_
  refine va_tb (v := .int (txat i)) hx hb (hj.2.2.1 0 (by decide)).2.2.2 (hS1.wide (fun _ z => z.elim)) hi rfl dJ1_charAt_3b067_8 ?_
  refine lv_sipush (v := 255) hx hb dJ1_charAt_3b067_9 (by decide) ?_
  refine lv_iand hx hb dJ1_charAt_3b067_12 ?_
  refine lv_i2c hx hb dJ1_charAt_3b067_13 (txat_c _ (txat_in hi)).1 ?_
  exact W.zret hx hb hr (txat_c _ (txat_in hi)).2 (fun t ht hW => ⟨⟨_, rfl, rfl⟩, by rw [ht]; exact h1, fun q g1 _ => by rw [ht]; exact h2 q g1⟩) (fun q hq => (hS1.2.2 q hq)) dJ1_charAt_3b067_14 hlocks
set_option maxHeartbeats 4000000 in
set_option maxRecDepth 100000 in
theorem cj_charAt {l : Launch} (a v : Nat) (i : Int32) (hi : vp_in i 120) : CJ l yJ0_charAt_5068e cJ0_charAt_5068e 2 (some .char) 3 64 [.ref a, .int i] a v (fun r => r = some (.int (txat i))) := by
  refine CJ_of (by decide) (Nat.le_of_ble_eq_true rfl) ?_
  intro p e s m args below meth c A ls C hr hl
  obtain ⟨hx, hb, hml, hown, hts, hlocks, hj⟩ := C
  refine lv_aload_n hx hb dJ0_charAt_5068e_0 rfl (lv_at hl 0 rfl) ?_
  refine j_callV (A1 := A) (H := s.heap) (locs := []) (rest := []) hx hb hml hown hts hj (B := fun _ => False) va_S.rf (fun _ z => z.elim) (vk_recv hj.2.2 (i := 0) (by decide) va_S.rf) (cj_isLatin1 a v) mM_J0_492 bJ0_isLatin1_aae02 rfl hl.1 ⟨Nat.le_of_ble_eq_true rfl, Nat.le_of_ble_eq_true rfl, Nat.zero_le _, Nat.zero_le _⟩ rfl (Nat.le_of_ble_eq_true rfl) dJ0_charAt_5068e_1 (fun r H1 locs1 hk h1 h2 hS1 => ?_)
  subst hk
  refine lv_if_eq (tgt := 16) hx hb dJ0_charAt_5068e_4 (by decide) (fun q => absurd q (by decide)) (fun _ => ?_)
  refine lv_aload_n hx hb dJ0_charAt_5068e_7 rfl (lv_at hl 0 rfl) ?_
  refine vk_getf hx hb (hj.2.2.1 0 (by decide)).2.2.1 (hS1.wide (fun _ z => z.elim)) hown (hts _ mF_J0_9) (fun _ h => h) dJ0_charAt_5068e_8 ?_
  refine lv_iload_n hx hb dJ0_charAt_5068e_11 rfl (lv_at hl 1 rfl) ?_
  refine j_callS (A1 := A) (H := H1) (locs := locs1) (rest := []) hx hb hml hown hts hj hS1 (fun _ z => z.elim) (cj_charAt1 a v i hi) mM_J0_495 bJ1_charAt_3b067 rfl hl.1 ⟨Nat.le_of_ble_eq_true rfl, Nat.le_of_ble_eq_true rfl, Nat.zero_le _, Nat.zero_le _⟩ rfl (Nat.le_of_ble_eq_true rfl) dJ0_charAt_5068e_12 (fun r H2 locs2 hk h3 h4 hS2 => ?_)
  subst hk
  exact W.zret hx hb hr (txat_c _ (txat_in hi)).2 (fun t ht hW => ⟨⟨_, rfl, rfl⟩, by rw [ht]; exact Nat.le_trans h1 h3, fun q g1 _ => by rw [ht]; exact (h4 q (Nat.lt_of_lt_of_le g1 h1)).trans (h2 q g1)⟩) (fun q hq => (hS2.2.2 q hq)) dJ0_charAt_5068e_15 hlocks
