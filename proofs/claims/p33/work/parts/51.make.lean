def QN (D : va_G) (tA : Nat → ClassId) (ad : Nat → Nat) (A : Nat → Prop) (sh sh' : Sh) (K : Option Value → Gt → Prop) : Array Value → State → Outcome → State → Prop := fun _ st o t => (∃ (r : Option Value) (ad' : Nat → Nat) (G' : Gt), o = .returned (r.map (tv ad')) ∧ (∀ j, j < sh.length → ad' j = ad j) ∧ K r G' ∧ va_P D vwCl (cW tA ad' G' sh') t.heap ∧ va_D A (cW tA ad' G' sh')) ∧ va_F A st t
/-- a method that makes things: mc cells of ms slots -/
def CN (l : Launch) (y : MethodName) (cc : ByteArray) (nL : Nat) (ret : Option FieldType) (fr lc mc ms : Nat) (av : List Value) (sh sh' : Sh) (G : Gt) (K : Option Value → Gt → Prop) : Prop :=
  ∀ (D : va_G) (tA : Nat → ClassId) (ad : Nat → Nat) (sz : Nat), Met l y (.code y cc nL ret :: GW) { frames := fr, cells := mc, slots := ms, locals := lc } (va_Pc (av.map (tv ad)) (PW D tA ad sz sh G)) (QN D tA ad (va_A (cW tA ad G sh) sz) sh sh' K) mc ms (va_A (cW tA ad G sh) sz)
theorem CN_of {l : Launch} {y : MethodName} {cc : ByteArray} {nL : Nat} {ret : Option FieldType} {fr lc mc ms : Nat} {av : List Value} {sh sh' : Sh} {G : Gt} {K : Option Value → Gt → Prop} (hy : plainName y.cls = true) (hav : (lg_sl (av.map (tv (fun q => q)))).length ≤ nL) (h1 : l1 (av.map some) = true)
    (body : ∀ (p : Program) (e : Env) (s : State) (m : MethodId) (args : Array Value) (below : List Frame) (meth : Method) (c : Code) (D : va_G) (tA : Nat → ClassId) (ad : Nat → Nat) (A : Nat → Prop), cx p s m args meth c y.cls cc nL D tA A → meth.sig.returnType = ret → meth.name = y.name →
      aw p l e { frames := fr, cells := mc, slots := ms, locals := lc } s m args below meth c nL D tA A (MQ below (QN D tA ad A sh sh' K) args s mc ms A) 0 0 ad 0 (pad (av.map some) nL) [] sh G) : CN l y cc nL ret fr lc mc ms av sh sh' G K := by
  intro D tA ad sz
  refine Met.ofW (cc := cc) (maxL := nL) (ret := ret) hy rfl ?_
  intro p e s m args below meth c s₁ B hml hv
  obtain ⟨rfl, hsz, hP, hK, hD0, hsx⟩ := hv
  have hts := atoms_spec (ws := .code y cc nL ret :: GW) B.pre
  have hown : s.vm.findClass y.cls = some m.cls := findClass_of_methodNamed B.named
  have hlocks := B.notSynchronized
  subst hsz
  have C : cx p s m (av.map (tv ad)).toArray meth c y.cls cc nL D tA (va_A (cW tA ad G sh) s.heap.size) := ⟨B.exec, B.bytes, hml, hown, fun w hw => hts w (List.mem_cons_of_mem _ hw), hK, hlocks, fun q h => Or.inr h, hsx⟩
  have hlen : (lg_sl (av.map (tv ad))).length ≤ nL := by rw [sl_tv ad (fun q => q)]; exact hav
  have hl := lv_entry (av.map (tv ad)) (n := nL) hlen
  rw [lg_entry_eq]
  generalize (lg_sl (av.map (tv ad)) ++ List.replicate (nL - (lg_sl (av.map (tv ad))).length) Slot.unset).toArray = ls at hl ⊢
  have hl2 : lv_has ls nL (lo ad 0 (pad (av.map some) nL)) := by
    refine lv_less hl (fun q hq0 => ?_)
    have hq := lo_pad hq0
    rw [← lo_args _ _ h1]; exact hq
  exact body p e s m _ below meth c D tA ad _ C B.returns (name_of_methodNamed B.named B.method).1 s.heap [] ls hP hD0.self va_S.rf hl2
theorem CN.mono {l : Launch} {y : MethodName} {cc : ByteArray} {nL : Nat} {ret : Option FieldType} {fr lc mc ms : Nat} {av : List Value} {sh sh' : Sh} {G : Gt} {K K' : Option Value → Gt → Prop} (h : CN l y cc nL ret fr lc mc ms av sh sh' G K) (hk : ∀ r G', K r G' → K' r G') : CN l y cc nL ret fr lc mc ms av sh sh' G K' := by
  intro D tA ad sz p e ha hc hx0 s m args below hf hfit hP hT
  obtain ⟨t, o, a1, a2, a3, ⟨⟨r, ad', G', g1, g2, g3, g4⟩, g5⟩, a5⟩ := h D tA ad sz p e ha hc hx0 s m args below hf hfit hP hT
  exact ⟨t, o, a1, a2, a3, ⟨⟨r, ad', G', g1, g2, hk _ _ g3, g4⟩, g5⟩, a5⟩
section AW7
variable {p : Program} {l : Launch} {e : Env} {R : Room} {s : State} {m : MethodId} {args : Array Value} {below : List Frame} {meth : Method} {c : Code} {D : va_G} {tA : Nat → ClassId} {A : Nat → Prop} {ad ad0 : Nat → Nat} {nL : Nat} {Q : State → Prop} {k n : Nat} {own : String} {cc : ByteArray}
variable {pc : Nat} {lv : List (Option Value)} {st : List Value} {sh sh0 sh1 : Sh} {G : Gt} {K : Option Value → Gt → Prop} {b i : Nat} {F : shE} {T T1 : Sh}
theorem aw_nreturn (C : cx p s m args meth c own cc nL D tA A) (hr : meth.sig.returnType = none) (d : decode cc pc = .ok (.return_, 1)) (hE : ∀ j, j < sh0.length → ad j = ad0 j) (hK : K none G) : aw p l e R s m args below meth c nL D tA A (MQ below (QN D tA ad0 A sh0 sh K) args s k n A) k n ad pc lv [] sh G :=
  fun H locs ls h1 h2 h3 h4 => W.vret C.1 C.2.1 hr (fun t ht hW => ⟨⟨none, ad, G, rfl, hE, hK, by rw [ht]; exact h1, h2⟩, h3.F ht⟩) h3.2.2 d C.2.2.2.2.2.2.1
theorem aw_nareturn (C : cx p s m args meth c own cc nL D tA A) {v : Nat} {cn : String} (hr : meth.sig.returnType = some (.object cn)) (d : decode cc pc = .ok (.areturn, 1)) (hE : ∀ j, j < sh0.length → ad j = ad0 j) (hK : K (some (.ref v)) G) : aw p l e R s m args below meth c nL D tA A (MQ below (QN D tA ad0 A sh0 sh K) args s k n A) k n ad pc lv [.ref v] sh G :=
  fun H locs ls h1 h2 h3 h4 => W.aret (v := .ref (ad v)) C.1 C.2.1 hr (Or.inl ⟨_, rfl⟩) (Or.inr ⟨_, rfl⟩) (fun t ht hW => ⟨⟨some (.ref v), ad, G, rfl, hE, hK, by rw [ht]; exact h1, h2⟩, h3.F ht⟩) h3.2.2 d C.2.2.2.2.2.2.1
theorem aw_objInit (C : cx p s m args meth c own cc nL D tA A) {idx v : Nat} (d : decode cc pc = .ok (.invokespecial idx, 3)) (hl : Cond.methodLink own idx Lib.objectInit ∈ GW) (hf : 1 ≤ R.frames) (hlo : (st.map fun v => v.category).sum + 12 ≤ R.locals) (kk : aw p l e R s m args below meth c nL D tA A Q k n ad (pc + 3) lv st sh G) : aw p l e R s m args below meth c nL D tA A Q k n ad pc lv (.ref v :: st) sh G :=
  fun H locs ls h1 h2 h3 h4 => W.objInit C.1 C.2.1 C.2.2.2.1 (C.2.2.2.2.1 _ hl) (C.2.2.2.2.1 _ mOI) (C.2.2.2.2.1 _ mOC) rfl (h4.1.trans C.2.2.1.symm) rfl d hf (by rw [tv_sum]; show 2 * 0 + _ + 12 ≤ _; omega) (kk H locs ls h1 h2 h3 h4)
/-- new C -/
theorem aw_newN (C : cx p s m args meth c own cc nL D tA A) {idx ci N : Nat} {Cn : String} {Tb : u_T} {ty : Nat → FieldType} {fs : List fE} {fs0 : List Value} (d : decode cc pc = .ok (.new idx, 3)) (Kc : kc ci Cn Tb N ty) (hcl : Cond.classLink own idx Cn ∈ GW) (hinst : Cond.instantiable Cn N ∈ GW) (hini : Cond.initialized Cn ∈ GW) (hfs : ∀ j, j < N → defaultValue (ty j) = vp_V fs0 j) (hy : fs.mapIdx (cF (fun q => q) (fun _ => 0)) = fs0) (hnr : ∀ f ∈ fs, f = none ∨ f = some none)
    (hwf : wfL sh) (hr : rk sh.length lv) (hs : rk sh.length (st.map some)) (hcells : k + 1 ≤ R.cells) (hslots : n + N ≤ R.slots)
    (kk : ∀ ad1 : Nat → Nat, (∀ j, j < sh.length → ad1 j = ad j) → wfL (sh ++ [.inr (ci, fs)]) → aw p l e R s m args below meth c nL D tA A Q (k + 1) (n + N) ad1 (pc + 3) lv (.ref sh.length :: st) (sh ++ [.inr (ci, fs)]) (gz G sh.length 0)) : aw p l e R s m args below meth c nL D tA A Q k n ad pc lv st sh G := by
  intro H locs ls h1 h2 h3 h4
  refine va_new (ci := ci) (fs := fs0) C.1 C.2.1 C.2.2.2.2.1 Kc.2.1 ty Kc.2.2.1 C.2.2.2.1 (C.2.2.2.2.1 _ hcl) (C.2.2.2.2.1 _ hinst) (C.2.2.2.2.1 _ hini) C.2.2.2.2.2.1 h1 h2 h3 C.2.2.2.2.2.2.2.1 Kc.1 hfs hcells hslots d (fun q H1 g1 g2 g3 => ?_)
  have hE : ∀ j, j < sh.length → (fun j => if j = sh.length then q else ad j) j = ad j := fun j hj => if_neg (Nat.ne_of_lt hj)
  have hq : (fun j => if j = sh.length then q else ad j) sh.length = q := if_pos rfl
  generalize (fun j => if j = sh.length then q else ad j) = ad1 at hE hq
  have hx : cA tA ad1 (fun _ => 0) (.inr (ci, fs)) = .inr (ci, fs0) := by
    show (Sum.inr (ci, fs.mapIdx (cF ad1 (fun _ => 0))) : va_E) = _
    rw [← hy]
    congr 2
    apply List.ext_getElem?
    intro j
    rw [List.getElem?_mapIdx, List.getElem?_mapIdx]
    cases hj : fs[j]? with
    | none => rfl
    | some f =>
      rcases hnr f (List.mem_of_getElem? hj) with rfl | rfl <;> rfl
  have ep := cW_push (tA := tA) (G := G) (v := 0) hwf hE hq hx
  rw [ep] at g1 g2
  have ew : wfL (sh ++ [.inr (ci, fs)]) := wfL_push hwf (fun f hf => by rcases hnr f hf with rfl | rfl <;> trivial)
  have e1 := kk ad1 hE ew H1 locs ls g1 g2 g3 (by rw [lo_ad hE lv 0 hr]; exact h4)
  have e2 : (Value.ref sh.length :: st).map (tv ad1) = .ref q :: st.map (tv ad) := by
    rw [List.map_cons, st_ad hE st hs]; show Value.ref (ad1 sh.length) :: _ = _; rw [hq]
  rw [e2] at e1
  exact e1
/-- new int[N] and its like -/
def nty : Nat → FieldType
  | 0 => .int
  | 1 => .boolean
  | _ => .long
theorem aw_newarr (C : cx p s m args meth c own cc nL D tA A) {t N : Nat} {at9 : ArrayType} {a0 : vp_A} {x : Int32} (ht : t < 1) (d : decode cc pc = .ok (.newarray at9, 2)) (hat : newarray.typeOf at9 = nty t) (harr : Cond.arrayClass (nty t) ∈ GW) (ha : ∀ cA : ClassId, vp_cell cA a0 = arrV cA N (fun _ => defaultValue (nty t))) (hx : ∀ ad1, cA tA ad1 (fun _ => 0) (.inl (t, N)) = .inl (tA t, a0)) (hn : x = nI N) (hN : N * componentBytes (nty t) ≤ 536870912) (hN2 : N < 2 ^ 31)
    (hwf : wfL sh) (hr : rk sh.length lv) (hs : rk sh.length (st.map some)) (hcells : k + 1 ≤ R.cells) (hslots : n + N ≤ R.slots)
    (kk : ∀ ad1 : Nat → Nat, (∀ j, j < sh.length → ad1 j = ad j) → wfL (sh ++ [.inl (t, N)]) → aw p l e R s m args below meth c nL D tA A Q (k + 1) (n + N) ad1 (pc + 2) lv (.ref sh.length :: st) (sh ++ [.inl (t, N)]) (gz G sh.length 0)) : aw p l e R s m args below meth c nL D tA A Q k n ad pc lv (.int x :: st) sh G := by
  intro H locs ls h1 h2 h3 h4
  subst hn
  have en : (nI N).toNatClampNeg = N := by
    have := nI_toInt hN2
    show (nI N).toInt.toNat = N
    rw [this]; rfl
  refine va_newa (atype := at9) (a0 := a0) (ty := nty t) (N' := N) C.1 C.2.1 (C.2.2.2.2.1 _ (by rw [hat]; exact harr)) hat C.2.2.2.2.2.1 h1 h2 h3 C.2.2.2.2.2.2.2.1 ha (by rw [Int32.lt_iff_toInt_lt, nI_toInt hN2, int32_0]; omega) en hN hcells hslots d (fun q cA9 H1 gK g1 g2 g3 => ?_)
  have hcA : cA9 = tA t := by
    have e0 : t = 0 := by omega
    subst e0
    have k1 := (gK.2 1 (cA9, .int) (by simp [ty3, nty])).2
    have k2 := (gK.2 0 (tA 0, .int) (by simp [ty3])).2
    exact Option.some.inj ((show s.vm.findClass _ = some cA9 from k1).symm.trans k2)
  subst hcA
  have hE : ∀ j, j < sh.length → (fun j => if j = sh.length then q else ad j) j = ad j := fun j hj => if_neg (Nat.ne_of_lt hj)
  have hq : (fun j => if j = sh.length then q else ad j) sh.length = q := if_pos rfl
  generalize (fun j => if j = sh.length then q else ad j) = ad1 at hE hq
  have ep := cW_push (tA := tA) (G := G) (v := 0) hwf hE hq (hx ad1) (isP_arr (by omega))
  rw [ep] at g1 g2
  have ew : wfL (sh ++ [.inl (t, N)]) := wfL_push hwf trivial
  have e1 := kk ad1 hE ew H1 locs ls g1 g2 g3 (by rw [lo_ad hE lv 0 hr]; exact h4)
  have e2 : (Value.ref sh.length :: st).map (tv ad1) = .ref q :: st.map (tv ad) := by
    rw [List.map_cons, st_ad hE st hs]; show Value.ref (ad1 sh.length) :: _ = _; rw [hq]
  rw [e2] at e1
  exact e1
theorem cW_setr {tA : Nat → ClassId} {ad : Nat → Nat} {G : Gt} {sh : Sh} {b ci j r q : Nat} {fs : List fE} (h : sh[b]? = some (.inr (ci, fs))) (hj : j < fs.length) :
    (cW tA ad G sh).set (ps sh b) (ad b, .inr (ci, (fs.mapIdx (cF ad (G b))).set j (.ref (ad r)))) = cW tA ad (gu G b j 1) (sh.set b (.inr (ci, fs.set j (some (some (q, r)))))) := by
  have e1 : cA tA ad (gu G b j 1 b) (.inr (ci, fs.set j (some (some (q, r))))) = .inr (ci, (fs.mapIdx (cF ad (G b))).set j (.ref (ad r))) := by
    show (Sum.inr (ci, (fs.set j (some (some (q, r)))).mapIdx (cF ad (gu G b j 1 b))) : va_E) = Sum.inr (ci, _)
    congr 2
    apply List.ext_getElem?
    intro a
    by_cases ha : j = a
    · subst ha
      rw [List.getElem?_set_self (by simpa using hj), List.getElem?_mapIdx, List.getElem?_set_self hj]
      simp [cF, gu]
    · rw [List.getElem?_set_ne ha, List.getElem?_mapIdx, List.getElem?_mapIdx, List.getElem?_set_ne ha]
      congr 1
      funext o
      have e : gu G b j 1 b a = G b a := by simp [gu, Ne.symm ha]
      cases o with
      | none => simp [cF, e]
      | some o => cases o <;> simp [cF, e]
  have := cW_setg (tA := tA) (ad := ad) (G := G) (G' := gu G b j 1) h rfl (y := .inr (ci, fs.set j (some (some (q, r))))) rfl (fun a ha => gu_ne ha)
  rw [e1] at this
  exact this
/-- a reference is put into a field that had none, here or in a constructor -/
theorem aw_putRN (C : cx p s m args meth c own cc nL D tA A) {r q idx ci N : Nat} {Cn : String} {Tb : u_T} {ty : Nat → FieldType} {fs : List fE} (d : decode cc pc = .ok (.putfield idx, 3)) (Kc : kc ci Cn Tb N ty) (hs : sh[b]? = some (.inr (ci, fs))) (j : Nat) (hj : j < N) (hjl : j < fs.length) (hl : Cond.fieldLink own idx (Tb j).1 (Tb j).2.1 (Tb j).2.2.1 ∈ GW) (hfin : (Tb j).2.2.2 = false ∨ ((Tb j).2.2.2 = true ∧ meth.name = "<init>" ∧ (Tb j).1 = own)) (hty : narrow (ty j) (.ref (ad r)) = .ref (ad r) ∧ fits (ty j) (.ref (ad r)) = true) (hwf : wfL sh) (hr9 : r < sh.length) (hq9 : q < sh.length)
    (kk : wfL (sh.set b (.inr (ci, fs.set j (some (some (q, r)))))) → aw p l e R s m args below meth c nL D tA A Q k n ad (pc + 3) lv st (sh.set b (.inr (ci, fs.set j (some (some (q, r)))))) (gu G b j 1)) : aw p l e R s m args below meth c nL D tA A Q k n ad pc lv (.ref r :: .ref b :: st) sh G := by
  have ew : wfL (sh.set b (.inr (ci, fs.set j (some (some (q, r)))))) := wfL_set hwf (wfE_put (wfE_get hwf hs) hr9 hq9)
  intro H locs ls h1 h2 h3 h4
  have kk' : ∀ (H1 : Heap) (locs1 : List Loc), va_P D vwCl ((cW tA ad G sh).set (ps sh b) (ad b, .inr (ci, (fs.mapIdx (cF ad (G b))).set j (.ref (ad r))))) H1 → va_D A ((cW tA ad G sh).set (ps sh b) (ad b, .inr (ci, (fs.mapIdx (cF ad (G b))).set j (.ref (ad r))))) → va_S A s.heap H1 locs1 → W p l e R s m args below meth c H1 locs1 k n Q (F0 m (pc + 3) ls (st.map (tv ad))) := by
    intro H1 locs1 g1 g2 g3
    rw [cW_setr (q := q) hs hjl] at g1 g2
    exact kk ew H1 locs1 ls g1 g2 g3 h4
  rcases hfin with hfin | ⟨hfin, hin, hdecl⟩
  · exact va_put C.1 C.2.1 C.2.2.2.2.1 Kc.2.1 ty Kc.2.2.1 Kc.2.2.2 C.2.2.2.1 C.2.2.2.2.2.1 h1 h2 h3 (ps sh b) (cW_at hs) Kc.1 j hj (C.2.2.2.2.1 _ hl) (fun _ h => h) hfin (Kc.2.2.1 j hj) hty.1 hty.2 (by rw [List.length_mapIdx]; exact hjl) d kk'
  · exact va_putF C.1 C.2.1 C.2.2.2.2.1 Kc.2.1 ty Kc.2.2.1 Kc.2.2.2 C.2.2.2.1 C.2.2.2.2.2.1 h1 h2 h3 (ps sh b) (cW_at hs) Kc.1 j hj (C.2.2.2.2.1 _ hl) (fun _ h => h) hfin hin hdecl (Kc.2.2.1 j hj) hty.1 hty.2 (by rw [List.length_mapIdx]; exact hjl) d kk'
end AW7
