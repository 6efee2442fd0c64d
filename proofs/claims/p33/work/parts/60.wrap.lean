/-! the law's own methods: they catch -/
def CW (l : Launch) (y : MethodName) (cc : ByteArray) (nL : Nat) (hh : List (Nat × Nat × Nat × Nat)) (fr lc mc ms : Nat) (av : List Value) (sh : Sh) (G : Gt) (K : Option Value → Sh → Gt → Prop) : Prop :=
  ∀ (D : va_G) (tA : Nat → ClassId) (ad : Nat → Nat) (sz : Nat), Met l y (.codeWith y cc nL (some .int) hh :: GW) { frames := fr, cells := mc, slots := ms, locals := lc } (va_Pc (av.map (tv ad)) (PW D tA ad sz sh G)) (QL D tA ad (va_A (cW tA ad G sh) sz) sh K) mc ms (va_A (cW tA ad G sh) sz)
def noX : String → State → State → Prop := fun _ _ _ => False
theorem Met_vx {l : Launch} {y : MethodName} {ws : List Cond} {rm : Room} {Pc : Array Value → State → Prop} {Qc : Array Value → State → Outcome → State → Prop} {mc ms : Nat} {free : Addr → Prop} (h : vx_Met l y ws rm Pc Qc noX mc ms free) : Met l y ws rm Pc Qc mc ms free := by
  intro p e ha hc hx0 s m args below hf hfit hP hT
  obtain ⟨t, o, a1, a2, a3, a4⟩ := h p e ha hc hx0 s m args below hf hfit hP hT
  refine ⟨t, o, a1, a2, a3, ?_⟩
  rcases a4 with h1 | ⟨q, -, E, ce, L, h2, -⟩
  · exact h1
  · exact h2.elim
theorem CW_of {l : Launch} {y : MethodName} {cc : ByteArray} {nL : Nat} {hh : List (Nat × Nat × Nat × Nat)} {fr lc mc ms : Nat} {av : List Value} {sh : Sh} {G : Gt} {K : Option Value → Sh → Gt → Prop} (hy : plainName y.cls = true) (hav : (lg_sl (av.map (tv (fun q => q)))).length ≤ nL) (h1 : l1 (av.map some) = true)
    (body : ∀ (p : Program) (e : Env) (s : State) (m : MethodId) (args : Array Value) (below : List Frame) (meth : Method) (c : Code) (D : va_G) (tA : Nat → ClassId) (ad : Nat → Nat) (A : Nat → Prop), cx p s m args meth c y.cls cc nL D tA A → meth.sig.returnType = some .int → c.exceptionTable.toList = tableOf hh →
      aw p l e { frames := fr, cells := mc, slots := ms, locals := lc } s m args below meth c nL D tA A (vx_MQ below (QL D tA ad A sh K) noX args s mc ms A) 0 0 ad 0 (pad (av.map some) nL) [] sh G) : CW l y cc nL hh fr lc mc ms av sh G K := by
  intro D tA ad sz
  refine Met_vx (vx_ofWH (cc := cc) (maxL := nL) (ret := some .int) hy rfl ?_)
  intro p e s m args below meth c s₁ B hml hv
  obtain ⟨rfl, hsz, hP, hK, hD0, hsx⟩ := hv
  have hts := atoms_spec (ws := .codeWith y cc nL (some .int) hh :: GW) B.pre
  have hown : s.vm.findClass y.cls = some m.cls := findClass_of_methodNamed B.named
  have hlocks := B.notSynchronized
  have htab := vx_table (x := y) B (hts _ List.mem_cons_self)
  subst hsz
  have C : cx p s m (av.map (tv ad)).toArray meth c y.cls cc nL D tA (va_A (cW tA ad G sh) s.heap.size) := ⟨B.exec, B.bytes, hml, hown, fun w hw => hts w (List.mem_cons_of_mem _ hw), hK, hlocks, fun q h => Or.inr h, hsx⟩
  have hlen : (lg_sl (av.map (tv ad))).length ≤ nL := by rw [sl_tv ad (fun q => q)]; exact hav
  have hl := lv_entry (av.map (tv ad)) (n := nL) hlen
  rw [lg_entry_eq]
  generalize (lg_sl (av.map (tv ad)) ++ List.replicate (nL - (lg_sl (av.map (tv ad))).length) Slot.unset).toArray = ls at hl ⊢
  have hl2 : lv_has ls nL (lo ad 0 (pad (av.map some) nL)) := by
    refine lv_less hl (fun q hq0 => ?_)
    have hq := lo_pad hq0
    rw [← lo_args _ _ h1]; exact hq
  exact body p e s m _ below meth c D tA ad _ C B.returns htab s.heap [] ls hP hD0.self va_S.rf hl2
def awx (p : Program) (l : Launch) (e : Env) (R : Room) (s : State) (m : MethodId) (args : Array Value) (below : List Frame) (meth : Method) (c : Code) (nL : Nat) (D : va_G) (tA : Nat → ClassId) (A : Nat → Prop) (Q : State → Prop) (k n : Nat) (ad : Nat → Nat) (pc : Nat) (lv : List (Option Value)) (st : List Value) (sh : Sh) (G : Gt) (kE q9 : Nat) : Prop :=
  ∀ (H : Heap) (locs : List Loc) (ls : Array Slot) (ce : Cell), va_P D vwCl (cW tA ad G sh) H → va_D A (cW tA ad G sh) → va_S A s.heap H locs → lv_has ls nL (lo ad 0 lv) → H[q9]? = some ce → ce.vm = .none → s.vm.findClass (exN kE) = some ce.cls → vx_W p l e R s m args below meth c H locs k n Q (F0 m pc ls (st.map (tv ad))) q9
section AWW
variable {p : Program} {l : Launch} {e : Env} {R : Room} {s : State} {m : MethodId} {args : Array Value} {below : List Frame} {meth : Method} {c : Code} {D : va_G} {tA : Nat → ClassId} {A : Nat → Prop} {ad : Nat → Nat} {nL : Nat} {Q : State → Prop} {k n : Nat} {own : String} {cc : ByteArray}
variable {pc : Nat} {lv : List (Option Value)} {st rest : List Value} {sh sh' : Sh} {G : Gt} {K : Option Value → Sh → Gt → Prop} {KX : Nat → Sh → Gt → Prop}
variable {y : MethodName} {bytes : ByteArray} {maxL fr lc mc ms idx b ci N na : Nat} {ret : Option FieldType} {Cn : String} {T : u_T} {fs : List fE} {As : List Value} {kE q9 : Nat}
theorem aw_runL (C : cx p s m args meth c own cc nL D tA A) (hr : ∀ (H : Heap) (locs : List Loc) (ls : Array Slot), va_P D vwCl (cW tA ad G sh) H → va_D A (cW tA ad G sh) → va_S A s.heap H locs → lv_has ls nL (lo ad 0 lv) → ∃ a, vx_Run p l e R s m args below meth c H locs k n mc ms (F0 m pc ls (st.map (tv ad))) (rest.map (tv ad)) (QL D tA ad (va_A (cW tA ad G sh) H.size) sh K a) (XL D tA ad (va_A (cW tA ad G sh) H.size) sh KX) (va_A (cW tA ad G sh) H.size)) (hlv : rk sh.length lv) (hrs : rk sh.length (rest.map some))
    (kk : ∀ (r : Option Value) (ad1 : Nat → Nat) (sh' : Sh) (G' : Gt), (∀ j, j < sh.length → ad1 j = ad j) → K r sh' G' → aw p l e R s m args below meth c nL D tA A Q (k + mc) (n + ms) ad1 (pc + 3) lv (r.toList ++ rest) sh' G')
    (kx : ∀ (kE : Nat) (ad1 : Nat → Nat) (sh' : Sh) (G' : Gt) (q9 : Nat), kE < 3 → (∀ j, j < sh.length → ad1 j = ad j) → KX kE sh' G' → awx p l e R s m args below meth c nL D tA A Q (k + mc) (n + ms) ad1 pc lv rest sh' G' kE q9) : aw p l e R s m args below meth c nL D tA A Q k n ad pc lv st sh G := by
  intro H locs ls h1 h2 h3 h4
  have hA1 : ∀ q, va_A (cW tA ad G sh) H.size q → A q := by
    intro q hq
    rcases hq with ⟨j, en, hq⟩ | hq
    · exact h2.2 j _ hq
    · exact C.2.2.2.2.2.2.2.1 q (Nat.le_trans h3.1 hq)
  intro T hT X
  obtain ⟨a, ha⟩ := hr H locs ls h1 h2 h3 h4
  rcases ha T hT X with ⟨v, st₀, t, T', L, h0, X', hL, e1, e2, ⟨⟨r, ad1, sh1, G', hv, hE, hp, hb, hd⟩, hz, hk⟩, sp⟩ | ⟨q, st₀, t, T', L, E, ce, h0, X', hL, e1, e2, ⟨kE, ad1, sh1, G', hv, hk3, hE, hp, hb, hd, hz, hk⟩, hce, hcv, hcl, sp⟩
  · cases hv
    rw [h0] at hz hk
    have hw := kk r ad1 sh1 G' hE hp T'.heap (locs ++ L) ls (by rw [e1]; exact hb) (hd.weaken (fun _ _ _ hq => hA1 _ hq)) ⟨Nat.le_trans h3.1 (by rw [e1]; exact hz), fun q g1 g2 => by
      rw [e1, hk q (Nat.lt_of_lt_of_le g1 h3.1) (fun z => g2 (hA1 q z))]; exact h3.2.1 q g1 g2, fun q hq => by
      rcases List.mem_append.mp hq with h | h
      · exact h3.2.2 q h
      · exact hA1 _ (hL q h)⟩ (by rw [lo_ad hE lv 0 hlv]; exact h4)
    obtain ⟨t2, a1, b1⟩ := hw T' rfl X'
    refine ⟨t2, sp t2 ?_, b1⟩
    have e : (r.toList ++ rest).map (tv ad1) = (r.map (tv ad1)).toList ++ rest.map (tv ad) := by
      rw [List.map_append, st_ad hE rest hrs]
      cases r <;> rfl
    rw [e] at a1
    exact a1
  · subst hv
    rw [h0] at hz hk
    have hw := kx kE ad1 sh1 G' q hk3 hE hp T'.heap (locs ++ L) ls ce (by rw [e1]; exact hb) (hd.weaken (fun _ _ _ hq => hA1 _ hq)) ⟨Nat.le_trans h3.1 (by rw [e1]; exact hz), fun q g1 g2 => by
      rw [e1, hk q (Nat.lt_of_lt_of_le g1 h3.1) (fun z => g2 (hA1 q z))]; exact h3.2.1 q g1 g2, fun q hq => by
      rcases List.mem_append.mp hq with h | h
      · exact h3.2.2 q h
      · exact hA1 _ (hL q h)⟩ (by rw [lo_ad hE lv 0 hlv]; exact h4) (by rw [e1]; exact hce) hcv hcl
    obtain ⟨t2, a1, b1⟩ := hw T' rfl X'
    refine ⟨t2, sp.trans ?_, b1⟩
    rw [st_ad hE rest hrs] at a1
    exact a1
theorem aw_callL (C : cx p s m args meth c own cc nL D tA A) (d : decode cc pc = .ok (.invokevirtual idx, 3)) (hM : CL l y bytes maxL ret fr lc mc ms (.ref b :: As) sh G K KX) (hlk : Cond.methodLink own idx y ∈ GW) (hy : gwV y bytes maxL ret Cn na) (hs : sh[b]? = some (.inr (ci, fs))) (hc : vwCl[ci]? = some (Cn, T, N)) (hn : As.length = na) (hR : fr + 1 ≤ R.frames ∧ 8 + (maxL + 11) + lc ≤ R.locals ∧ k + mc ≤ R.cells ∧ n + ms ≤ R.slots) (rest : List Value) (hst : st = As.reverse ++ .ref b :: rest) (hcat : (rest.map fun v => v.category).sum ≤ 8) (hlv : rk sh.length lv) (hrs : rk sh.length (rest.map some))
    (kk : ∀ (r : Option Value) (ad1 : Nat → Nat) (sh' : Sh) (G' : Gt), (∀ j, j < sh.length → ad1 j = ad j) → K r sh' G' → aw p l e R s m args below meth c nL D tA A Q (k + mc) (n + ms) ad1 (pc + 3) lv (r.toList ++ rest) sh' G')
    (kx : ∀ (kE : Nat) (ad1 : Nat → Nat) (sh' : Sh) (G' : Gt) (q9 : Nat), kE < 3 → (∀ j, j < sh.length → ad1 j = ad j) → KX kE sh' G' → awx p l e R s m args below meth c nL D tA A Q (k + mc) (n + ms) ad1 pc lv rest sh' G' kE q9) : aw p l e R s m args below meth c nL D tA A Q k n ad pc lv st sh G := by
  refine aw_runL C (K := K) (KX := KX) (rest := rest) (fun H locs ls h1 h2 h3 h4 => ?_) hlv hrs kk kx
  subst hst
  refine ⟨_, vx_runV (As := As.map (tv ad)) (b := ad b) (rest := rest.map (tv ad)) (C := Cn) (n := na) ⟨C.1, C.2.1, C.2.2.1, C.2.2.2.1, C.2.2.2.2.1⟩ (hM D tA ad H.size) (cwV na C.2.2.2.2.1 ?_ rfl rfl rfl hy.2.2.2.2 ⟨hR.1, hR.2.1⟩) ⟨PW_blind, va_recv C.2.2.2.2.2.1 h1 hc (cW_at hs), fun U hU hW => ⟨rfl, by rw [hU], by rw [hU]; exact h1, va_K.moved hW.alike C.2.2.2.2.2.1, h2.weaken (fun _ _ _ _ => trivial), ?_⟩⟩ rfl (by simp [hn]) h4.1 (by simp [tv]) (lv_room (by rw [tv_sum]; exact hcat)) d ⟨hR.2.2.1, hR.2.2.2⟩⟩
  · intro w hw
    rcases List.mem_append.mp hw with hw | hw
    · simp only [List.mem_cons, List.not_mem_nil, or_false] at hw
      have hin : w ∈ GW := by
        rcases hw with rfl | rfl | rfl | rfl
        · exact hlk
        · exact hy.2.1
        · exact hy.2.2.1
        · rw [← hy.2.2.2.2.1]; exact hy.2.2.2.1
      exact ⟨hin, good_of_word (gw_good hin)⟩
    · exact gwGood y bytes maxL ret hy.1 w hw
  · rw [hU]
    refine sx.warm hW C.2.2.2.2.2.2.2.2 (fun a g1 g2 => h3.2.1 a g1 g2) ?_
    intro q hq
    rcases hq with ⟨j, en, hq⟩ | hq
    · exact h2.2 j _ hq
    · exact C.2.2.2.2.2.2.2.1 q (Nat.le_trans h3.1 hq)
theorem awx_catch (C : cx p s m args meth c own cc nL D tA A) (pre : List ExceptionTableEntry) (x : ExceptionTableEntry) (suf : List ExceptionTableEntry) (hsplit : c.exceptionTable.toList = pre ++ x :: suf) (hpass : ∀ z ∈ pre, z.catchType ≠ 0 ∧ ∃ nm : String, Cond.classLink own z.catchType nm ∈ GW ∧ (exN kE, nm) ∈ yNC) (hx : covers x pc = true) (h0 : x.catchType ≠ 0) (hlink : Cond.classLink own x.catchType (exN kE) ∈ GW) (hcast : Cond.castable (exN kE) (exN kE) ∈ xW)
    (kk : aw p l e R s m args below meth c nL D tA A Q k n ad x.handlerPc lv [.retAddr q9] sh G) : awx p l e R s m args below meth c nL D tA A Q k n ad pc lv st sh G kE q9 := by
  intro H locs ls ce h1 h2 h3 h4 hce hcv hcl
  obtain ⟨⟨-, hxW, hnc⟩, -⟩ := C.2.2.2.2.2.2.2.2
  refine vx_catch C.2.2.2.1 pre x suf hsplit (fun z hz => ?_) hx h0 (C.2.2.2.2.1 _ hlink) (va_Nw.use ?_ (hxW _ hcast)) hce hcv hcl (kk H locs ls h1 h2 h3 h4)
  · obtain ⟨g1, nm, g2, g3⟩ := hpass z hz
    exact Or.inr ⟨g1, nm, C.2.2.2.2.1 _ g2, hnc _ g3⟩
  · rfl
theorem aw_astoreR (C : cx p s m args meth c own cc nL D tA A) {i q : Nat} (d : decode cc pc = .ok (.astore i, 2)) (hi : i < nL) (hc : l1 lv = true) (kk : aw p l e R s m args below meth c nL D tA A Q k n ad (pc + 2) (lv.set i (some (.retAddr q))) st sh G) : aw p l e R s m args below meth c nL D tA A Q k n ad pc lv (.retAddr q :: st) sh G :=
  fun H locs ls h1 h2 h3 h4 => lv_astore (x := q) C.1 C.2.1 d h4 hi rfl (fun ls h5 => kk H locs ls h1 h2 h3 (lo_set (x := .retAddr q) hc h5))
theorem aw_astorenR (C : cx p s m args meth c own cc nL D tA A) {i : Fin 4} {q : Nat} (d : decode cc pc = .ok (.astore_n i, 1)) (hi : (i : Nat) < nL) (hc : l1 lv = true) (kk : aw p l e R s m args below meth c nL D tA A Q k n ad (pc + 1) (lv.set (i : Nat) (some (.retAddr q))) st sh G) : aw p l e R s m args below meth c nL D tA A Q k n ad pc lv (.retAddr q :: st) sh G :=
  fun H locs ls h1 h2 h3 h4 => lv_astore_n (x := q) C.1 C.2.1 d rfl h4 hi rfl (fun ls h5 => kk H locs ls h1 h2 h3 (lo_set (x := .retAddr q) hc h5))
end AWW
